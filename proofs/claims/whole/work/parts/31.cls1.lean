/-! the whole state, as both sides hold it: letters, the picture, acts, slots, what is seen, the seed -/
abbrev Ab : Type := Nat × (Nat → Int32) × Pic × List Pic × (Nat → Option Pic) × Nat × (Nat → Nat) × (Nat → Nat) × Int64
abbrev aN (A : Ab) : Nat := A.1
abbrev aX (A : Ab) : Nat → Int32 := A.2.1
abbrev aP (A : Ab) : Pic := A.2.2.1
abbrev aA (A : Ab) : List Pic := A.2.2.2.1
abbrev aK (A : Ab) : Nat → Option Pic := A.2.2.2.2.1
abbrev aM (A : Ab) : Nat := A.2.2.2.2.2.1
abbrev aL (A : Ab) : Nat → Nat := A.2.2.2.2.2.2.1
abbrev aV (A : Ab) : Nat → Nat := A.2.2.2.2.2.2.2.1
abbrev aZ (A : Ab) : Int64 := A.2.2.2.2.2.2.2.2
def dm (S T : Pic) : Prop := pR S = pR T ∧ pC S = pC T ∧ pN S = pN T
def AOK (A : Ab) : Prop := aN A ≤ 70 ∧ OKS (aP A) ∧ (aA A).length ≤ 14 ∧ (∀ S, S ∈ aA A → OKS S ∧ dm S (aP A)) ∧ (∀ i S, aK A i = some S → OKS S ∧ dm S (aP A)) ∧ aM A ≤ 6 ∧ ∀ i, i < aM A → aL A i < 16 ∧ aV A i < 20
def ClsR (w : Wd) (A : Ab) : Prop := TexA w (aN A) (aX A) ∧ StA w [1] (aP A) ∧ ActA w (aA A) ∧ SloA w (aK A) ∧ SeeA w (aM A) (aL A) (aV A) ∧ w.2 [] = aZ A
/-- cells that hold nothing that lasts -/
abbrev FSc : List (List Nat) := [[2], [5, 2], [6, 2], [7, 2], [0, 6], [1, 6], [2, 6], [7], [1, 7], [0, 0, 7], [1, 0, 7], [2, 0, 7], [8]]
theorem ClsR.sc {w w' : Wd} {A : Ab} (h : ClsR w A) (hf : Fr FSc w w') : ClsR w' A := by
  obtain ⟨h1, h2, h3, h4, h5, h6⟩ := h
  refine ⟨h1.fr hf (by decide) (by decide), h2.fr hf (by decide) (by decide) (by decide) (by decide), h3.fr hf (by decide) ?_, h4.fr hf (by decide) ?_, h5.fr hf (by decide) (by decide) (by decide), by rw [hf.1]; exact h6⟩
  · intro k _
    refine ⟨?_, ?_, ?_, ?_⟩ <;> simp
  · intro k _
    refine ⟨?_, ?_, ?_, ?_⟩ <;> simp
theorem inN_out {x : Int32} {n : Nat} (hn : n < 2 ^ 31) (h : ¬ inN x n) : x.toInt < 0 ∨ (n : Int) ≤ x.toInt := by
  by_cases h0 : x < 0
  · left
    rw [Int32.lt_iff_toInt_lt] at h0
    exact h0
  · right
    by_cases h1 : nI n ≤ x
    · rw [Int32.le_iff_toInt_le, nI_toInt hn] at h1
      exact h1
    · exact absurd ⟨h0, h1⟩ h
/-! what is asked -/
def sdB (S : Pic) : Nat := sd (pro S) (pN S) + sd (pco S) (pN S)
def bcB (S : Pic) (a : Nat) (z : Int32 × Nat) : Nat → Int32 × Nat
  | 0 => z
  | k + 1 => if sdB (swP S a (a + 1 + k)) < (bcB S a z k).2 then (nI (100 * a + (a + 1 + k)), sdB (swP S a (a + 1 + k))) else bcB S a z k
def bcA (S : Pic) : Nat → Int32 × Nat
  | 0 => (-9, sdB S)
  | a + 1 => bcB S a (bcA S a) (pN S - (a + 1))
def gmN (S : Pic) (v : Nat) : Nat → Nat
  | 0 => 0
  | k + 1 => if gmN S v k < msN S v (2 ^ k) then msN S v (2 ^ k) else gmN S v k
def bsF (S : Pic) : Nat → Nat × Nat
  | 0 => (0, gmN S 0 4)
  | v + 1 => if gmN S (v + 1) 4 < (bsF S v).2 then (v + 1, gmN S (v + 1) 4) else bsF S v
def bdF (f : Nat → Bool) : Nat → Nat → Int32
  | 0, _ => -9
  | k + 1, b => if f b then nI b else bdF f k (b + 1)
def bdI (S : Pic) : Int32 := bdF (fun b => decide (pN S ≤ cw (pC S) b (pR S))) 6 0
/-- what about() answers -/
def abI (A : Ab) (k : Nat) : Int32 := match k with
  | 0 => nI (pR (aP A))
  | 1 => nI (pC (aP A))
  | 2 => nI (pN (aP A))
  | 3 => nI (pH (aP A))
  | 4 => nI (pL (aP A))
  | 5 => nI (bmN (blk (pH (aP A)) (pL (aP A))) 4)
  | 6 => nI (msN (aP A) (pH (aP A)) (pL (aP A)))
  | 7 => nI (sd (pro (aP A)) (pN (aP A)))
  | 8 => nI (sd (pco (aP A)) (pN (aP A)))
  | 9 => (bcA (aP A) (pN (aP A))).1
  | 10 => nI (bsF (aP A) 3).1
  | 11 => bdI (aP A)
  | 12 => nI (aA A).length
  | 13 => nI (aM A)
  | _ => nI (aN A)
theorem sq_bd {a b m : Nat} (ha : a ≤ m) (hb : b ≤ m) : sq a b ≤ m * m := by
  unfold sq dst
  split
  · exact Nat.mul_le_mul (by omega) (by omega)
  · exact Nat.mul_le_mul (by omega) (by omega)
theorem sd_bd {f : Nat → Nat} {n : Nat} (hn : n ≤ 20) : sd f n ≤ 8000 := by
  have h : ∀ k, k < n → sq k (gN f (f k) n) ≤ 20 * 20 := by
    intro k hk
    have := gN_le (cH_pos (f := f) hk rfl)
    exact sq_bd (by omega) (by omega)
  have h2 := sm_bd h
  have h3 : n * (20 * 20) ≤ 20 * (20 * 20) := Nat.mul_le_mul_right _ hn
  unfold sd
  omega
theorem sdB_bd {S : Pic} (hn : pN S ≤ 20) : sdB S ≤ 16000 := by
  have h1 := sd_bd (f := pro S) hn
  have h2 := sd_bd (f := pco S) hn
  unfold sdB
  omega
theorem msN_bd {S : Pic} {sh lo : Nat} (hO : OKo S) : msN S sh lo ≤ 6400 := by
  have h : ∀ k, k < 16 → sq (outN S sh lo k) (pdt S k) ≤ 20 * 20 := by
    intro k hk
    have h1 := outN_le (S := S) (sh := sh) (lo := lo) (k := k)
    have h2 := hO.2.2 k hk
    have h3 := hO.1
    exact sq_bd (by omega) (by omega)
  exact sm_bd h
section TH
variable {X : Cx} {d : Nat} {w : Wd} {A : Ab}
theorem c_write {x : Int32} (hR : ClsR w A) (hA : AOK A) : Ct X 0 (d + 1) MX7_write [vR 7 0 [], vI x] w (qI fun z w' => (¬ inN x 256 ∧ z = -2 ∧ ClsR w' A) ∨ (inN x 256 ∧ aN A = 70 ∧ z = -4 ∧ ClsR w' A) ∨ (inN x 256 ∧ aN A < 70 ∧ z = nI (aN A + 1) ∧ ClsR w' (aN A + 1, fnU (aX A) (aN A) x, A.2.2))) := by
  have hle : x ≤ nI 255 ↔ ¬ nI 256 ≤ x := by
    rw [Int32.le_iff_toInt_le, Int32.le_iff_toInt_le, show (nI 255).toInt = 255 from rfl, show (nI 256).toInt = 256 from rfl]
    omega
  refine Ct.of (by decide) rfl (Nat.le_of_ble_eq_true rfl) ?_
  show Wq _ _ _ _ 0 [(0, _), (1, _)] [] _ _
  refine R_iload_n (i := 1) (q := 1) dX7_write_0 rfl rfl rfl ?_
  refine R_if_lt (tgt := 11) (q := 4) dX7_write_1 (by decide) rfl (fun c1 => ?_) (fun c1 => ?_)
  · refine R_bipush (v := (-2)) (q := 13) dX7_write_11 (by decide) rfl ?_
    refine R_ri dX7_write_13 rfl ?_
    exact Or.inl ⟨fun h => h.1 c1, rfl, hR⟩
  · refine R_iload_n (i := 1) (q := 5) dX7_write_4 rfl rfl rfl ?_
    refine R_sipush (v := nI 255) (q := 8) dX7_write_5 (by decide) rfl ?_
    refine R_icmp_le (tgt := 14) (q := 11) dX7_write_8 (by decide) rfl (fun c2 => ?_) (fun c2 => ?_)
    · have hin : inN x 256 := ⟨c1, hle.mp c2⟩
      refine R_aload_n (i := 0) (q := 15) dX7_write_14 rfl rfl rfl ?_
      refine R_getR (q := 18) dX7_write_15 fl_X7_12 rfl (by decide) rfl ?_
      refine R_iload_n (i := 1) (q := 19) dX7_write_18 rfl rfl rfl ?_
      refine R_cV1i (M' := MX6_add) (q := 22) dX7_write_19 ml_X7_65 mk_X6_add (Nat.le_of_ble_eq_true rfl) rfl (c_tadd hR.1.1 hA.1) ?_
      rintro z w1 hz
      rcases hz with ⟨h70, rfl, rfl⟩ | ⟨h70, rfl, rfl⟩
      · refine R_if_eq (tgt := 35) (q := 25) dX7_write_22 (by decide) rfl (fun c3 => ?_) (fun c3 => ?_)
        · exact absurd c3 (by decide)
        · refine R_aload_n (i := 0) (q := 26) dX7_write_25 rfl rfl rfl ?_
          refine R_getR (q := 29) dX7_write_26 fl_X7_12 rfl (by decide) rfl ?_
          refine R_getI' (q := 32) dX7_write_29 fl_X7_69 rfl (uI_same _ _ _ _) rfl ?_
          refine R_goto (q := 37) dX7_write_32 (by decide) ?_
          refine R_ri dX7_write_37 rfl ?_
          refine Or.inr (Or.inr ⟨hin, h70, rfl, ?_⟩)
          obtain ⟨h1, h2, h3, h4, h5, h6⟩ := hR
          have hF : Fr [[0], [0, 0]] w (uI (uI w [0, 0] (aN A) x) [0] 1 (nI (aN A + 1))) := (Fr.i (by simp)).tr (Fr.i (by simp))
          refine ⟨⟨uI_same _ _ _ _, ?_⟩, h2.fr hF (by decide) (by decide) (by decide) (by decide), h3.fr hF (by decide) (fun k _ => ?_), h4.fr hF (by decide) (fun k _ => ?_), h5.fr hF (by decide) (by decide) (by decide), h6⟩
          · intro i hi
            show _ = fnU (aX A) (aN A) x i
            by_cases h : i = aN A
            · subst h
              simp [uI, uA, upd, fnU]
            · have hi : i < aN A + 1 := hi
              have h9 := h1.2 i (by omega)
              simp [uI, uA, upd, fnU, h, h9]
          · refine ⟨?_, ?_, ?_, ?_⟩ <;> simp
          · refine ⟨?_, ?_, ?_, ?_⟩ <;> simp
      · refine R_if_eq (tgt := 35) (q := 25) dX7_write_22 (by decide) rfl (fun c3 => ?_) (fun c3 => ?_)
        · refine R_bipush (v := (-4)) (q := 37) dX7_write_35 (by decide) rfl ?_
          refine R_ri dX7_write_37 rfl ?_
          exact Or.inr (Or.inl ⟨hin, h70, rfl, hR⟩)
        · exact absurd rfl c3
    · refine R_bipush (v := (-2)) (q := 13) dX7_write_11 (by decide) rfl ?_
      refine R_ri dX7_write_13 rfl ?_
      exact Or.inl ⟨fun h => c2 (hle.mpr h.2), rfl, hR⟩
theorem c_wipe (hR : ClsR w A) : Ct X 0 d MX7_wipe [vR 7 0 []] w (qI fun z w' => z = nI (aN A) ∧ ClsR w' (0, A.2)) := by
  refine Ct.of (by decide) rfl (Nat.le_of_ble_eq_true rfl) ?_
  show Wq _ _ _ _ 0 [(0, _)] [] _ _
  refine R_aload_n (i := 0) (q := 1) dX7_wipe_0 rfl rfl rfl ?_
  refine R_getR (q := 4) dX7_wipe_1 fl_X7_12 rfl (by decide) rfl ?_
  refine R_getI' (q := 7) dX7_wipe_4 fl_X7_69 rfl (hR.1.1) rfl ?_
  refine R_istore_n (i := 1) (q := 8) (loc' := [(1, _), (0, _)]) dX7_wipe_7 rfl (by decide) (by rfl) rfl ?_
  refine R_aload_n (i := 0) (q := 9) dX7_wipe_8 rfl rfl rfl ?_
  refine R_getR (q := 12) dX7_wipe_9 fl_X7_12 rfl (by decide) rfl ?_
  refine R_iconst (v := nI 0) (q := 13) dX7_wipe_12 (by decide) rfl ?_
  refine R_putI (q := 16) dX7_wipe_13 fl_X7_69 rfl rfl ?_
  refine R_iload_n (i := 1) (q := 17) dX7_wipe_16 rfl rfl rfl ?_
  refine R_ri dX7_wipe_17 rfl ?_
  obtain ⟨h1, h2, h3, h4, h5, h6⟩ := hR
  have hF : Fr [[0], [0, 0]] w (uI w [0] 1 (nI 0)) := Fr.i (by simp)
  refine ⟨rfl, ⟨uI_same _ _ _ _, fun i hi => absurd hi (Nat.not_lt_zero i)⟩, h2.fr hF (by decide) (by decide) (by decide) (by decide), h3.fr hF (by decide) (fun k _ => ?_), h4.fr hF (by decide) (fun k _ => ?_), h5.fr hF (by decide) (by decide) (by decide), h6⟩
  · refine ⟨?_, ?_, ?_, ?_⟩ <;> simp
  · refine ⟨?_, ?_, ?_, ?_⟩ <;> simp
theorem c_fault (hR : ClsR w A) (hA : AOK A) : Ct X 0 (d + 4) MX7_fault [vR 7 0 []] w (qI fun z w' => RdQ (aX A) (aN A) z (fun _ => True) ∧ ClsR w' A) := by
  refine Ct.of (by decide) rfl (Nat.le_of_ble_eq_true rfl) ?_
  show Wq _ _ _ _ 0 [(0, _)] [] _ _
  refine R_aload_n (i := 0) (q := 1) dX7_fault_0 rfl rfl rfl ?_
  refine R_getR (q := 4) dX7_fault_1 fl_X7_12 rfl (by decide) rfl ?_
  refine R_aload_n (i := 0) (q := 5) dX7_fault_4 rfl rfl rfl ?_
  refine R_getR (q := 8) dX7_fault_5 fl_X7_23 rfl (by decide) rfl ?_
  refine R_cV1i (M' := MX6_readInto) (q := 11) dX7_fault_8 ml_X7_73 mk_X6_readInto (Nat.le_of_ble_eq_true rfl) rfl (c_readInto hA.1 hR.1.1 hR.1.2 (by decide) (by decide)) ?_
  rintro z w1 ⟨hQ, hF⟩
  refine R_ri dX7_fault_11 rfl ?_
  refine ⟨?_, hR.sc (hF.up (by decide))⟩
  rcases hQ with h | ⟨st, h1, h2⟩
  · exact Or.inl h
  · exact Or.inr ⟨st, h1, h2.imp (fun h => ⟨h.1, h.2.1, h.2.2.1, trivial⟩) id⟩
theorem c_map (hR : ClsR w A) (hA : AOK A) : Ct X 0 (d + 4) MX7_map [vR 7 0 []] w (qI fun z w' => (z = -3 ∧ (∃ y, RdQ (aX A) (aN A) y (fun _ => True) ∧ ¬ y = -9) ∧ ClsR w' A) ∨ ∃ st, rdL (aX A) (aN A) = some st ∧ (0 < aN A ∧ aN A % 3 = 0) ∧ z = nI st.2.2.1 ∧ ClsR w' (aN A, aX A, rsP st, [], (fun _ => none), A.2.2.2.2.2)) := by
  refine Ct.of (by decide) rfl (Nat.le_of_ble_eq_true rfl) ?_
  show Wq _ _ _ _ 0 [(0, _)] [] _ _
  refine R_aload_n (i := 0) (q := 1) dX7_map_0 rfl rfl rfl ?_
  refine R_getR (q := 4) dX7_map_1 fl_X7_12 rfl (by decide) rfl ?_
  refine R_aload_n (i := 0) (q := 5) dX7_map_4 rfl rfl rfl ?_
  refine R_getR (q := 8) dX7_map_5 fl_X7_23 rfl (by decide) rfl ?_
  refine R_cV1i (M' := MX6_readInto) (q := 11) dX7_map_8 ml_X7_73 mk_X6_readInto (Nat.le_of_ble_eq_true rfl) rfl (c_readInto hA.1 hR.1.1 hR.1.2 (by decide) (by decide)) ?_
  rintro z w1 ⟨hQ, hF⟩
  have hR1 := hR.sc (hF.up (by decide))
  refine R_bipush (v := (-9)) (q := 13) dX7_map_11 (by decide) rfl ?_
  refine R_icmp_eq (tgt := 19) (q := 16) dX7_map_13 (by decide) rfl (fun c1 => ?_) (fun c1 => ?_)
  · obtain ⟨st, e1, e2, e3, e4⟩ : ∃ st, rdL (aX A) (aN A) = some st ∧ 0 < aN A ∧ aN A % 3 = 0 ∧ StA w1 [2] (rsP st) := by
      have hno : ∀ k, k ≤ 70 → nI k ≠ -9 := by decide
      rcases hQ with ⟨k, h1, h2, h3, h4⟩ | ⟨st, h1, ⟨h2, h3, h4, h5⟩ | ⟨h2, h3⟩⟩
      · exact absurd (h4.symm.trans c1) (hno k (by have := hA.1; omega))
      · exact ⟨st, h1, h2, h3, h5⟩
      · exact absurd (h3.symm.trans c1) (hno _ hA.1)
    have hI := RI_rd e1
    refine R_aload_n (i := 0) (q := 20) dX7_map_19 rfl rfl rfl ?_
    refine R_getR (q := 23) dX7_map_20 fl_X7_19 rfl (by decide) rfl ?_
    refine R_aload_n (i := 0) (q := 24) dX7_map_23 rfl rfl rfl ?_
    refine R_getR (q := 27) dX7_map_24 fl_X7_23 rfl (by decide) rfl ?_
    refine R_cV1v (M' := MX5_copy) (q := 30) dX7_map_27 ml_X7_77 mk_X5_copy (Nat.le_of_ble_eq_true rfl) rfl (c_copy (p := [1]) e4 hI.2.2.1 (by decide) (by simp)) ?_
    rintro w2 ⟨hS2, hF2⟩
    refine R_aload_n (i := 0) (q := 31) dX7_map_30 rfl rfl rfl ?_
    refine R_getR (q := 34) dX7_map_31 fl_X7_29 rfl (by decide) rfl ?_
    refine R_cV0v (M' := MX0_forgetAll) (q := 37) dX7_map_34 ml_X7_81 mk_X0_forgetAll (Nat.le_of_ble_eq_true rfl) rfl (c_aforget) ?_
    rintro _ rfl
    refine R_aload_n (i := 0) (q := 38) dX7_map_37 rfl rfl rfl ?_
    refine R_getR (q := 41) dX7_map_38 fl_X7_36 rfl (by decide) rfl ?_
    refine R_cV0v (M' := MX4_forgetAll) (q := 44) dX7_map_41 ml_X7_84 mk_X4_forgetAll (Nat.le_of_ble_eq_true rfl) rfl (c_sforget) ?_
    rintro _ rfl
    have hF3 : Fr [[3], [4]] w2 (uI (uI w2 [3] 2 (nI 0)) [4] 1 (nI 0)) := (Fr.i (by simp)).tr (Fr.i (by simp))
    have hS3 := hS2.fr hF3 (by decide) (by decide) (by decide) (by decide)
    refine R_aload_n (i := 0) (q := 45) dX7_map_44 rfl rfl rfl ?_
    refine R_getR (q := 48) dX7_map_45 fl_X7_19 rfl (by decide) rfl ?_
    refine R_getI' (q := 51) dX7_map_48 fl_X7_85 rfl (hS3.2.2.1) rfl ?_
    refine R_ri dX7_map_51 rfl ?_
    refine Or.inr ⟨st, e1, ⟨e2, e3⟩, rfl, ?_⟩
    obtain ⟨h1, h2, h3, h4, h5, h6⟩ := hR1
    have hF4 : Fr [[1], [5, 1], [6, 1], [7, 1], [3], [4]] w1 (uI (uI w2 [3] 2 (nI 0)) [4] 1 (nI 0)) := (hF2.up (by simp)).tr (hF3.up (by simp))
    refine ⟨h1.fr hF4 (by decide) (by decide), hS3, ?_, ?_, h5.fr hF4 (by decide) (by decide) (by decide), by rw [hF4.1]; exact h6⟩
    · obtain ⟨f, q1, q2, q3, q4, q5⟩ := h3
      refine ⟨f, q1, ?_, ?_, Nat.zero_le _, fun j S hj => by cases hj⟩
      · rw [uI_nep (by decide), uI_ne (by decide), hF2.2 _ (by decide)]
        exact q2
      · rw [uI_nep (by decide), uI_same]
        rfl
    · exact ⟨0, by decide, uI_same _ _ _ _, fun i hi => Or.inl ⟨rfl, by rcases (show i = 0 ∨ i = 1 by omega) with rfl | rfl <;> rfl⟩⟩
  · refine R_bipush (v := (-3)) (q := 18) dX7_map_16 (by decide) rfl ?_
    refine R_ri dX7_map_18 rfl ?_
    refine Or.inl ⟨rfl, ⟨z, ?_, c1⟩, hR1⟩
    rcases hQ with h | ⟨st, h1, h2⟩
    · exact Or.inl h
    · exact Or.inr ⟨st, h1, h2.imp (fun h => ⟨h.1, h.2.1, h.2.2.1, trivial⟩) id⟩
theorem c_blankNow (hR : ClsR w A) (hA : AOK A) : Ct X 0 (d + 4) MX7_blankNow [vR 7 0 []] w (qI fun z w' => z = abI A 5 ∧ ClsR w' A) := by
  obtain ⟨hOK1, hOK2, hOK3, hOK4, hOK5, -⟩ := id hA.2.1
  refine Ct.of (by decide) rfl (Nat.le_of_ble_eq_true rfl) ?_
  show Wq _ _ _ _ 0 [(0, _)] [] _ _
  refine R_aload_n (i := 0) (q := 1) dX7_blankNow_0 rfl rfl rfl ?_
  refine R_getR (q := 4) dX7_blankNow_1 fl_X7_57 rfl (by decide) rfl ?_
  refine R_aload_n (i := 0) (q := 5) dX7_blankNow_4 rfl rfl rfl ?_
  refine R_getR (q := 8) dX7_blankNow_5 fl_X7_19 rfl (by decide) rfl ?_
  refine R_aload_n (i := 0) (q := 9) dX7_blankNow_8 rfl rfl rfl ?_
  refine R_getR (q := 12) dX7_blankNow_9 fl_X7_19 rfl (by decide) rfl ?_
  refine R_getI' (q := 15) dX7_blankNow_12 fl_X7_94 rfl (hR.2.1.2.2.2.1) rfl ?_
  refine R_aload_n (i := 0) (q := 16) dX7_blankNow_15 rfl rfl rfl ?_
  refine R_getR (q := 19) dX7_blankNow_16 fl_X7_19 rfl (by decide) rfl ?_
  refine R_getI' (q := 22) dX7_blankNow_19 fl_X7_97 rfl (hR.2.1.2.2.2.2.1) rfl ?_
  refine R_cV3v (M' := MX2_send) (q := 25) dX7_blankNow_22 ml_X7_160 mk_X2_send (Nat.le_of_ble_eq_true rfl) rfl (c_send hR.2.1 hA.2.1.o (Or.inl rfl) hOK4 hOK5) ?_
  rintro w1 ⟨hO, hF⟩
  refine R_aload_n (i := 0) (q := 26) dX7_blankNow_25 rfl rfl rfl ?_
  refine R_getR (q := 29) dX7_blankNow_26 fl_X7_57 rfl (by decide) rfl ?_
  refine R_getI' (q := 32) dX7_blankNow_29 fl_X7_257 rfl (hO.1) rfl ?_
  refine R_ri dX7_blankNow_32 rfl ?_
  exact ⟨rfl, hR.sc (hF.up (by decide))⟩
theorem c_sideOf {h : Nat} (hh : h < 2) (hR : ClsR w A) (hA : AOK A) : Ct X 0 (d + 3) MX7_sideOf [vR 7 0 [], vI (nI h)] w (qI fun z w' => z = abI A (7 + h) ∧ ClsR w' A) := by
  refine Ct.of (by decide) rfl (Nat.le_of_ble_eq_true rfl) ?_
  show Wq _ _ _ _ 0 [(0, _), (1, _)] [] _ _
  refine R_aload_n (i := 0) (q := 1) dX7_sideOf_0 rfl rfl rfl ?_
  refine R_getR (q := 4) dX7_sideOf_1 fl_X7_50 rfl (by decide) rfl ?_
  refine R_aload_n (i := 0) (q := 5) dX7_sideOf_4 rfl rfl rfl ?_
  refine R_getR (q := 8) dX7_sideOf_5 fl_X7_19 rfl (by decide) rfl ?_
  refine R_cV1v (M' := MX1_take) (q := 11) dX7_sideOf_8 ml_X7_148 mk_X1_take (Nat.le_of_ble_eq_true rfl) rfl (c_take (g := [6]) hR.2.1 hA.2.1.o.1 hA.2.1.o.2.1 (by decide) (by decide) (by decide)) ?_
  rintro w1 ⟨hG, hF⟩
  refine R_aload_n (i := 0) (q := 12) dX7_sideOf_11 rfl rfl rfl ?_
  refine R_getR (q := 15) dX7_sideOf_12 fl_X7_50 rfl (by decide) rfl ?_
  refine R_aload_n (i := 0) (q := 16) dX7_sideOf_15 rfl rfl rfl ?_
  refine R_getR (q := 19) dX7_sideOf_16 fl_X7_19 rfl (by decide) rfl ?_
  refine R_iload_n (i := 1) (q := 20) dX7_sideOf_19 rfl rfl rfl ?_
  refine R_cV2i (M' := MX1_side) (q := 23) dX7_sideOf_20 ml_X7_260 mk_X1_side (Nat.le_of_ble_eq_true rfl) rfl (c_side (hR.2.1.fr hF (by decide) (by decide) (by decide) (by decide)) hA.2.1.o.1 hA.2.1.o.2.1 hG hh) ?_
  rintro _ w1 ⟨rfl, rfl⟩
  refine R_ri dX7_sideOf_23 rfl ?_
  refine ⟨?_, hR.sc (hF.up (by decide))⟩
  rcases (show h = 0 ∨ h = 1 by omega) with rfl | rfl
  · rfl
  · rfl
theorem c_bothSides {p : List Nat} {S : Pic} (hS : StA w p S) (hO : OKo S) (hp : p = [1] ∨ p = [2]) : Ct X 0 (d + 3) MX7_bothSides [vR 7 0 [], vR 5 0 p] w (qI fun z w' => z = nI (sdB S) ∧ Fr (FG [6]) w w') := by
  have g0 : p ∉ FG [6] := by rcases hp with rfl | rfl <;> decide
  have g5 : 5 :: p ∉ FG [6] := by rcases hp with rfl | rfl <;> decide
  have g6 : 6 :: p ∉ FG [6] := by rcases hp with rfl | rfl <;> decide
  have g7 : 7 :: p ∉ FG [6] := by rcases hp with rfl | rfl <;> decide
  refine Ct.of (by decide) rfl (Nat.le_of_ble_eq_true rfl) ?_
  show Wq _ _ _ _ 0 [(0, _), (1, _)] [] _ _
  refine R_aload_n (i := 0) (q := 1) dX7_bothSides_0 rfl rfl rfl ?_
  refine R_getR (q := 4) dX7_bothSides_1 fl_X7_50 rfl (by decide) rfl ?_
  refine R_aload_n (i := 1) (q := 5) dX7_bothSides_4 rfl rfl rfl ?_
  refine R_cV1v (M' := MX1_take) (q := 8) dX7_bothSides_5 ml_X7_148 mk_X1_take (Nat.le_of_ble_eq_true rfl) rfl (c_take (g := [6]) hS hO.1 hO.2.1 g0 g5 g6) ?_
  rintro w1 ⟨hG, hF⟩
  have hS1 := hS.fr hF g0 g5 g6 g7
  refine R_aload_n (i := 0) (q := 9) dX7_bothSides_8 rfl rfl rfl ?_
  refine R_getR (q := 12) dX7_bothSides_9 fl_X7_50 rfl (by decide) rfl ?_
  refine R_aload_n (i := 1) (q := 13) dX7_bothSides_12 rfl rfl rfl ?_
  refine R_iconst (v := nI 0) (q := 14) dX7_bothSides_13 (by decide) rfl ?_
  refine R_cV2i (M' := MX1_side) (q := 17) dX7_bothSides_14 ml_X7_260 mk_X1_side (Nat.le_of_ble_eq_true rfl) rfl (c_side (h := 0) hS1 hO.1 hO.2.1 hG (by decide)) ?_
  rintro _ w1 ⟨rfl, rfl⟩
  refine R_aload_n (i := 0) (q := 18) dX7_bothSides_17 rfl rfl rfl ?_
  refine R_getR (q := 21) dX7_bothSides_18 fl_X7_50 rfl (by decide) rfl ?_
  refine R_aload_n (i := 1) (q := 22) dX7_bothSides_21 rfl rfl rfl ?_
  refine R_iconst (v := nI 1) (q := 23) dX7_bothSides_22 (by decide) rfl ?_
  refine R_cV2i (M' := MX1_side) (q := 26) dX7_bothSides_23 ml_X7_260 mk_X1_side (Nat.le_of_ble_eq_true rfl) rfl (c_side (h := 1) hS1 hO.1 hO.2.1 hG (by decide)) ?_
  rintro _ w1 ⟨rfl, rfl⟩
  first | refine R_iaddN (q := 27) dX7_bothSides_26 rfl ?_ | refine R_iadd (q := 27) dX7_bothSides_26 rfl ?_
  refine R_ri dX7_bothSides_27 rfl ?_
  exact ⟨rfl, hF⟩
theorem one_shl : ∀ k, k < 4 → (nI 1 <<< (nI k &&& 31)) = nI (2 ^ k) ∧ 2 ^ k < 16 := by decide
theorem gmN_bd {S : Pic} {v : Nat} (hO : OKo S) : ∀ k, gmN S v k ≤ 6400
  | 0 => Nat.zero_le _
  | k + 1 => by
    have h1 := gmN_bd (v := v) hO k
    have h2 := msN_bd (sh := v) (lo := 2 ^ k) hO
    simp only [gmN]
    split <;> omega
theorem max_nI {a b : Nat} (ha : a < 2 ^ 31) (hb : b < 2 ^ 31) : (if nI a < nI b then nI b else nI a) = nI (if a < b then b else a) := by
  by_cases h : a < b
  · rw [if_pos h, if_pos ((nI_ltI ha hb).mpr h)]
  · rw [if_neg h, if_neg (fun h2 => h ((nI_ltI ha hb).mp h2))]
theorem l_gm {v : Nat} {w0 : Wd} (hv : v < 4) (hR : ClsR w0 A) (hA : AOK A) : ∀ (f k : Nat) (w : Wd), 4 ≤ k + f → k ≤ 4 → Fr FO w0 w → Wq X 0 (d + 5) MX7_greatestMiss 4 [(3, vI (nI k)), (2, vI (nI (gmN (aP A) v k))), (0, vR 7 0 []), (1, vI (nI v))] [] w (qI fun z w' => z = nI (gmN (aP A) v 4) ∧ Fr FO w0 w') := by
  intro f
  induction f with
  | zero =>
    intro k w h1 h2 hF
    refine R_iload_n (i := 3) (q := 5) dX7_greatestMiss_4 rfl rfl rfl ?_
    refine R_iconst (v := nI 4) (q := 6) dX7_greatestMiss_5 (by decide) rfl ?_
    refine R_icmp_geN (by omega) (by omega) (tgt := 35) (q := 9) dX7_greatestMiss_6 (by decide) rfl (fun c1 => ?_) (fun c1 => ?_)
    · obtain rfl : k = 4 := by omega
      refine R_iload_n (i := 2) (q := 36) dX7_greatestMiss_35 rfl rfl rfl ?_
      refine R_ri dX7_greatestMiss_36 rfl ?_
      exact ⟨rfl, hF⟩
    · omega
  | succ f ih =>
    intro k w h1 h2 hF
    refine R_iload_n (i := 3) (q := 5) dX7_greatestMiss_4 rfl rfl rfl ?_
    refine R_iconst (v := nI 4) (q := 6) dX7_greatestMiss_5 (by decide) rfl ?_
    refine R_icmp_geN (by omega) (by omega) (tgt := 35) (q := 9) dX7_greatestMiss_6 (by decide) rfl (fun c1 => ?_) (fun c1 => ?_)
    · obtain rfl : k = 4 := by omega
      refine R_iload_n (i := 2) (q := 36) dX7_greatestMiss_35 rfl rfl rfl ?_
      refine R_ri dX7_greatestMiss_36 rfl ?_
      exact ⟨rfl, hF⟩
    · refine R_iload_n (i := 2) (q := 10) dX7_greatestMiss_9 rfl rfl rfl ?_
      refine R_aload_n (i := 0) (q := 11) dX7_greatestMiss_10 rfl rfl rfl ?_
      refine R_getR (q := 14) dX7_greatestMiss_11 fl_X7_57 rfl (by decide) rfl ?_
      refine R_aload_n (i := 0) (q := 15) dX7_greatestMiss_14 rfl rfl rfl ?_
      refine R_getR (q := 18) dX7_greatestMiss_15 fl_X7_19 rfl (by decide) rfl ?_
      refine R_iload_n (i := 1) (q := 19) dX7_greatestMiss_18 rfl rfl rfl ?_
      refine R_iconst (v := nI 1) (q := 20) dX7_greatestMiss_19 (by decide) rfl ?_
      refine R_iload_n (i := 3) (q := 21) dX7_greatestMiss_20 rfl rfl rfl ?_
      refine R_ishl (q := 22) dX7_greatestMiss_21 rfl ?_
      rw [(one_shl k c1).1]
      refine R_cV3i (M' := MX2_missBy) (q := 25) dX7_greatestMiss_22 ml_X7_104 mk_X2_missBy (Nat.le_of_ble_eq_true rfl) rfl (c_missBy ((hR.sc (hF.up (by decide))).2.1) hA.2.1.o (Or.inl rfl) hv (one_shl k c1).2) ?_
      rintro _ w1 ⟨rfl, hF1⟩
      refine R_mmax (q := 28) dX7_greatestMiss_25 mj_X7_267 mk_J9_max_7cf53 (Nat.le_of_ble_eq_true rfl) rfl ?_
      have b1 := gmN_bd (v := v) hA.2.1.o k
      have b2 := msN_bd (sh := v) (lo := 2 ^ k) hA.2.1.o
      rw [max_nI (by omega) (by omega)]
      refine R_istore_n (i := 2) (q := 29) (loc' := [(2, _), (3, _), (0, _), (1, _)]) dX7_greatestMiss_28 rfl (by decide) (by rfl) rfl ?_
      first | refine R_iincN (q := 32) (loc' := [(3, _), (2, _), (0, _), (1, _)]) dX7_greatestMiss_29 (by rfl) (by decide) (by rfl) rfl ?_ | refine R_iinc (q := 32) (loc' := [(3, _), (2, _), (0, _), (1, _)]) dX7_greatestMiss_29 (by rfl) (by rfl) (by decide) (by rfl) rfl ?_
      refine R_goto (q := 4) dX7_greatestMiss_32 (by decide) ?_
      exact ih (k + 1) w1 (by omega) (by omega) (hF.tr hF1)
theorem c_greatestMiss {v : Nat} (hv : v < 4) (hR : ClsR w A) (hA : AOK A) : Ct X 0 (d + 5) MX7_greatestMiss [vR 7 0 [], vI (nI v)] w (qI fun z w' => z = nI (gmN (aP A) v 4) ∧ Fr FO w w') := by
  refine Ct.of (by decide) rfl (Nat.le_of_ble_eq_true rfl) ?_
  show Wq _ _ _ _ 0 [(0, _), (1, _)] [] _ _
  refine R_iconst (v := nI 0) (q := 1) dX7_greatestMiss_0 (by decide) rfl ?_
  refine R_istore_n (i := 2) (q := 2) (loc' := [(2, _), (0, _), (1, _)]) dX7_greatestMiss_1 rfl (by decide) (by rfl) rfl ?_
  refine R_iconst (v := nI 0) (q := 3) dX7_greatestMiss_2 (by decide) rfl ?_
  refine R_istore_n (i := 3) (q := 4) (loc' := [(3, _), (2, _), (0, _), (1, _)]) dX7_greatestMiss_3 rfl (by decide) (by rfl) rfl ?_
  exact l_gm hv hR hA 4 0 w (by omega) (by omega) Fr.rf
theorem bsF_bd {S : Pic} (hO : OKo S) : ∀ v, (bsF S v).2 ≤ 6400
  | 0 => gmN_bd hO 4
  | v + 1 => by
    have h1 := bsF_bd hO v
    have h2 := gmN_bd (v := v + 1) hO 4
    simp only [bsF]
    split
    · exact h2
    · exact h1
theorem l_bs {w0 : Wd} (hR : ClsR w0 A) (hA : AOK A) : ∀ (f v : Nat) (w : Wd), 4 ≤ v + 1 + f → v + 1 ≤ 4 → Fr FO w0 w → Wq X 0 (d + 6) MX7_bestShift 10 [(3, vI (nI (v + 1))), (2, vI (nI (bsF (aP A) v).2)), (1, vI (nI (bsF (aP A) v).1)), (0, vR 7 0 [])] [] w (qI fun z w' => z = abI A 10 ∧ Fr FO w0 w') := by
  intro f
  induction f with
  | zero =>
    intro v w h1 h2 hF
    refine R_iload_n (i := 3) (q := 11) dX7_bestShift_10 rfl rfl rfl ?_
    refine R_iconst (v := nI 4) (q := 12) dX7_bestShift_11 (by decide) rfl ?_
    refine R_icmp_geN (by omega) (by omega) (tgt := 39) (q := 15) dX7_bestShift_12 (by decide) rfl (fun c1 => ?_) (fun c1 => ?_)
    · obtain rfl : v = 3 := by omega
      refine R_iload_n (i := 1) (q := 40) dX7_bestShift_39 rfl rfl rfl ?_
      refine R_ri dX7_bestShift_40 rfl ?_
      exact ⟨rfl, hF⟩
    · omega
  | succ f ih =>
    intro v w h1 h2 hF
    refine R_iload_n (i := 3) (q := 11) dX7_bestShift_10 rfl rfl rfl ?_
    refine R_iconst (v := nI 4) (q := 12) dX7_bestShift_11 (by decide) rfl ?_
    refine R_icmp_geN (by omega) (by omega) (tgt := 39) (q := 15) dX7_bestShift_12 (by decide) rfl (fun c1 => ?_) (fun c1 => ?_)
    · obtain rfl : v = 3 := by omega
      refine R_iload_n (i := 1) (q := 40) dX7_bestShift_39 rfl rfl rfl ?_
      refine R_ri dX7_bestShift_40 rfl ?_
      exact ⟨rfl, hF⟩
    · refine R_aload_n (i := 0) (q := 16) dX7_bestShift_15 rfl rfl rfl ?_
      refine R_iload_n (i := 3) (q := 17) dX7_bestShift_16 rfl rfl rfl ?_
      refine R_cV1i (M' := MX7_greatestMiss) (q := 20) dX7_bestShift_17 ml_X7_264 mk_X7_greatestMiss (Nat.le_of_ble_eq_true rfl) rfl (c_greatestMiss c1 (hR.sc (hF.up (by decide))) hA) ?_
      rintro _ w1 ⟨rfl, hF1⟩
      have b1 := bsF_bd hA.2.1.o v
      have b2 := gmN_bd (v := v + 1) hA.2.1.o 4
      have e := ih (v + 1) w1 (by omega) (by omega) (hF.tr hF1)
      simp only [bsF] at e
      refine R_istore (q := 22) (loc' := [(4, _), (3, _), (2, _), (1, _), (0, _)]) dX7_bestShift_20 (by decide) (by rfl) rfl ?_
      refine R_iload (q := 24) dX7_bestShift_22 rfl rfl ?_
      refine R_iload_n (i := 2) (q := 25) dX7_bestShift_24 rfl rfl rfl ?_
      refine R_icmp_geN (by omega) (by omega) (tgt := 33) (q := 28) dX7_bestShift_25 (by decide) rfl (fun c2 => ?_) (fun c2 => ?_)
      · rw [if_neg (by omega)] at e
        first | refine R_iincN (q := 36) (loc' := [(3, _), (4, _), (2, _), (1, _), (0, _)]) dX7_bestShift_33 (by rfl) (by decide) (by rfl) rfl ?_ | refine R_iinc (q := 36) (loc' := [(3, _), (4, _), (2, _), (1, _), (0, _)]) dX7_bestShift_33 (by rfl) (by rfl) (by decide) (by rfl) rfl ?_
        refine R_goto (q := 10) dX7_bestShift_36 (by decide) ?_
        refine R_loc [0, 2, 3, 4] (loc' := [(3, _), (2, _), (1, _), (0, _)]) (by rfl) ?_
        exact e
      · rw [if_pos c2] at e
        refine R_iload (q := 30) dX7_bestShift_28 rfl rfl ?_
        refine R_istore_n (i := 2) (q := 31) (loc' := [(2, _), (4, _), (3, _), (1, _), (0, _)]) dX7_bestShift_30 rfl (by decide) (by rfl) rfl ?_
        refine R_iload_n (i := 3) (q := 32) dX7_bestShift_31 rfl rfl rfl ?_
        refine R_istore_n (i := 1) (q := 33) (loc' := [(1, _), (2, _), (4, _), (3, _), (0, _)]) dX7_bestShift_32 rfl (by decide) (by rfl) rfl ?_
        first | refine R_iincN (q := 36) (loc' := [(3, _), (1, _), (2, _), (4, _), (0, _)]) dX7_bestShift_33 (by rfl) (by decide) (by rfl) rfl ?_ | refine R_iinc (q := 36) (loc' := [(3, _), (1, _), (2, _), (4, _), (0, _)]) dX7_bestShift_33 (by rfl) (by rfl) (by decide) (by rfl) rfl ?_
        refine R_goto (q := 10) dX7_bestShift_36 (by decide) ?_
        refine R_loc [0, 2, 1, 4] (loc' := [(3, _), (2, _), (1, _), (0, _)]) (by rfl) ?_
        exact e
theorem c_bestShift (hR : ClsR w A) (hA : AOK A) : Ct X 0 (d + 6) MX7_bestShift [vR 7 0 []] w (qI fun z w' => z = abI A 10 ∧ ClsR w' A) := by
  refine Ct.of (by decide) rfl (Nat.le_of_ble_eq_true rfl) ?_
  show Wq _ _ _ _ 0 [(0, _)] [] _ _
  refine R_iconst (v := nI 0) (q := 1) dX7_bestShift_0 (by decide) rfl ?_
  refine R_istore_n (i := 1) (q := 2) (loc' := [(1, _), (0, _)]) dX7_bestShift_1 rfl (by decide) (by rfl) rfl ?_
  refine R_aload_n (i := 0) (q := 3) dX7_bestShift_2 rfl rfl rfl ?_
  refine R_iconst (v := nI 0) (q := 4) dX7_bestShift_3 (by decide) rfl ?_
  refine R_cV1i (M' := MX7_greatestMiss) (q := 7) dX7_bestShift_4 ml_X7_264 mk_X7_greatestMiss (Nat.le_of_ble_eq_true rfl) rfl (c_greatestMiss (v := 0) (by decide) hR hA) ?_
  rintro _ w1 ⟨rfl, hF1⟩
  refine R_istore_n (i := 2) (q := 8) (loc' := [(2, _), (1, _), (0, _)]) dX7_bestShift_7 rfl (by decide) (by rfl) rfl ?_
  refine R_iconst (v := nI 1) (q := 9) dX7_bestShift_8 (by decide) rfl ?_
  refine R_istore_n (i := 3) (q := 10) (loc' := [(3, _), (2, _), (1, _), (0, _)]) dX7_bestShift_9 rfl (by decide) (by rfl) rfl ?_
  refine Wq_mono (l_bs hR hA 3 0 w1 (by omega) (by omega) hF1) ?_
  rintro z w2 ⟨h1, h2⟩
  exact ⟨h1, hR.sc (h2.up (by decide))⟩
theorem l_band (hR : ClsR w A) (hA : AOK A) : ∀ (f b : Nat), 6 ≤ b + f → b ≤ 6 → b + f = 6 → Wq X 0 (d + 2) MX7_band 2 [(1, vI (nI b)), (0, vR 7 0 [])] [] w (qI fun z w' => z = bdF (fun b => decide (pN (aP A) ≤ cw (pC (aP A)) b (pR (aP A)))) f b ∧ w' = w) := by
  obtain ⟨hOK1, hOK2, hOK3, hOK4, hOK5, -⟩ := id hA.2.1
  intro f
  induction f with
  | zero =>
    intro b h1 h2 h3
    refine R_iload_n (i := 1) (q := 3) dX7_band_2 rfl rfl rfl ?_
    refine R_bipush (v := nI 6) (q := 5) dX7_band_3 (by decide) rfl ?_
    refine R_icmp_geN (by omega) (by omega) (tgt := 34) (q := 8) dX7_band_5 (by decide) rfl (fun c1 => ?_) (fun c1 => ?_)
    · refine R_bipush (v := (-9)) (q := 36) dX7_band_34 (by decide) rfl ?_
      refine R_ri dX7_band_36 rfl ?_
      exact ⟨rfl, rfl⟩
    · omega
  | succ f ih =>
    intro b h1 h2 h3
    refine R_iload_n (i := 1) (q := 3) dX7_band_2 rfl rfl rfl ?_
    refine R_bipush (v := nI 6) (q := 5) dX7_band_3 (by decide) rfl ?_
    refine R_icmp_geN (by omega) (by omega) (tgt := 34) (q := 8) dX7_band_5 (by decide) rfl (fun c1 => ?_) (fun c1 => ?_)
    · omega
    · refine R_aload_n (i := 0) (q := 9) dX7_band_8 rfl rfl rfl ?_
      refine R_getR (q := 12) dX7_band_9 fl_X7_19 rfl (by decide) rfl ?_
      refine R_iload_n (i := 1) (q := 13) dX7_band_12 rfl rfl rfl ?_
      refine R_cV1i (M' := MX5_cellsWithin) (q := 16) dX7_band_13 ml_X7_179 mk_X5_cellsWithin (Nat.le_of_ble_eq_true rfl) rfl (c_cellsWithin hR.2.1 hOK1.2 hOK2.2 (by omega)) ?_
      rintro _ w ⟨rfl, rfl⟩
      have hcw := cw_le (pC (aP A)) b (pR (aP A))
      have hcw2 : pR (aP A) * pC (aP A) ≤ 6 * 6 := Nat.mul_le_mul hOK1.2 hOK2.2
      refine R_aload_n (i := 0) (q := 17) dX7_band_16 rfl rfl rfl ?_
      refine R_getR (q := 20) dX7_band_17 fl_X7_19 rfl (by decide) rfl ?_
      refine R_getI' (q := 23) dX7_band_20 fl_X7_85 rfl (hR.2.1.2.2.1) rfl ?_
      refine R_icmp_ltN (by omega) (by omega) (tgt := 28) (q := 26) dX7_band_23 (by decide) rfl (fun c2 => ?_) (fun c2 => ?_)
      · first | refine R_iincN (q := 31) (loc' := [(1, _), (0, _)]) dX7_band_28 (by rfl) (by decide) (by rfl) rfl ?_ | refine R_iinc (q := 31) (loc' := [(1, _), (0, _)]) dX7_band_28 (by rfl) (by rfl) (by decide) (by rfl) rfl ?_
        refine R_goto (q := 2) dX7_band_31 (by decide) ?_
        simp only [bdF]
        rw [if_neg (by simp; omega)]
        exact ih (b + 1) (by omega) (by omega) (by omega)
      · refine R_iload_n (i := 1) (q := 27) dX7_band_26 rfl rfl rfl ?_
        refine R_ri dX7_band_27 rfl ?_
        refine ⟨?_, rfl⟩
        simp only [bdF]
        rw [if_pos (by simpa using c2)]
theorem c_band (hR : ClsR w A) (hA : AOK A) : Ct X 0 (d + 2) MX7_band [vR 7 0 []] w (qI fun z w' => z = abI A 11 ∧ w' = w) := by
  refine Ct.of (by decide) rfl (Nat.le_of_ble_eq_true rfl) ?_
  show Wq _ _ _ _ 0 [(0, _)] [] _ _
  refine R_iconst (v := nI 0) (q := 1) dX7_band_0 (by decide) rfl ?_
  refine R_istore_n (i := 1) (q := 2) (loc' := [(1, _), (0, _)]) dX7_band_1 rfl (by decide) (by rfl) rfl ?_
  exact l_band hR hA 6 0 (by omega) (by omega) (by omega)
end TH
