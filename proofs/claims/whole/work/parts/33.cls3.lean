section TH
variable {X : Cx} {d : Nat} {w : Wd} {A : Ab}
theorem c_change {x y : Int32} (hR : ClsR w A) (hA : AOK A) : Ct X 0 (d + 4) MX7_change [vR 7 0 [], vI x, vI y] w (qI fun z w' => z = (opChange A x y).1 ∧ ClsR w' (opChange A x y).2) := by
  obtain ⟨hOK1, hOK2, hOK3, hOK4, hOK5, hOK6, hOK7, hOK8⟩ := id hA.2.1
  unfold opChange
  refine Ct.of (by decide) rfl (Nat.le_of_ble_eq_true rfl) ?_
  show Wq _ _ _ _ 0 [(0, _), (1, _), (2, _)] [] _ _
  refine R_aload_n (i := 0) (q := 1) dX7_change_0 rfl rfl rfl ?_
  refine R_getR (q := 4) dX7_change_1 fl_X7_19 rfl (by decide) rfl ?_
  refine R_iload_n (i := 1) (q := 5) dX7_change_4 rfl rfl rfl ?_
  refine R_cV1i (M' := MX5_hasShade) (q := 8) dX7_change_5 ml_X7_125 mk_X5_hasShade (Nat.le_of_ble_eq_true rfl) rfl (c_hasShade hR.2.1.2.2.1) ?_
  rintro _ w ⟨rfl, rfl⟩
  refine R_if_eqB (tgt := 22) (q := 11) dX7_change_8 (by decide) rfl (fun c1 => ?_) (fun c1 => ?_)
  · rw [if_neg (fun h => c1 h.1)]
    refine R_iconst (v := (-1)) (q := 23) dX7_change_22 (by decide) rfl ?_
    refine R_ri dX7_change_23 rfl ?_
    exact ⟨rfl, hR⟩
  · refine R_aload_n (i := 0) (q := 12) dX7_change_11 rfl rfl rfl ?_
    refine R_getR (q := 15) dX7_change_12 fl_X7_19 rfl (by decide) rfl ?_
    refine R_iload_n (i := 2) (q := 16) dX7_change_15 rfl rfl rfl ?_
    refine R_cV1i (M' := MX5_hasShade) (q := 19) dX7_change_16 ml_X7_125 mk_X5_hasShade (Nat.le_of_ble_eq_true rfl) rfl (c_hasShade hR.2.1.2.2.1) ?_
    rintro _ w ⟨rfl, rfl⟩
    refine R_if_neB (tgt := 24) (q := 22) dX7_change_19 (by decide) rfl (fun c2 => ?_) (fun c2 => ?_)
    · rw [if_pos ⟨c1, c2⟩]
      obtain ⟨a, ha, rfl⟩ := inN_ex (by omega) c1
      obtain ⟨b, hb, rfl⟩ := inN_ex (by omega) c2
      rw [cl_nI (by omega), cl_nI (by omega)]
      refine R_iload_n (i := 1) (q := 25) dX7_change_24 rfl rfl rfl ?_
      refine R_iload_n (i := 2) (q := 26) dX7_change_25 rfl rfl rfl ?_
      refine R_icmp_ne (tgt := 32) (q := 29) dX7_change_26 (by decide) rfl (fun c3 => ?_) (fun c3 => ?_)
      · rw [if_neg c3]
        refine R_aload_n (i := 0) (q := 33) dX7_change_32 rfl rfl rfl ?_
        refine R_getR (q := 36) dX7_change_33 fl_X7_29 rfl (by decide) rfl ?_
        refine R_aload_n (i := 0) (q := 37) dX7_change_36 rfl rfl rfl ?_
        refine R_getR (q := 40) dX7_change_37 fl_X7_19 rfl (by decide) rfl ?_
        refine R_cV1v (M' := MX0_remember) (q := 43) dX7_change_40 ml_X7_165 mk_X0_remember (Nat.le_of_ble_eq_true rfl) rfl (c_remember hR.2.2.1 hR.2.1 hOK3) ?_
        rintro w1 ⟨hA1, k, hk, hF1⟩
        refine R_aload_n (i := 0) (q := 44) dX7_change_43 rfl rfl rfl ?_
        refine R_getR (q := 47) dX7_change_44 fl_X7_19 rfl (by decide) rfl ?_
        refine R_iload_n (i := 1) (q := 48) dX7_change_47 rfl rfl rfl ?_
        refine R_iload_n (i := 2) (q := 49) dX7_change_48 rfl rfl rfl ?_
        refine R_cV2v (M' := MX5_swap) (q := 52) dX7_change_49 ml_X7_168 mk_X5_swap (Nat.le_of_ble_eq_true rfl) rfl (c_swap (hR.2.1.rem hF1) hOK3 ha hb) ?_
        rintro w2 ⟨hS2, hF2⟩
        refine R_aload_n (i := 0) (q := 53) dX7_change_52 rfl rfl rfl ?_
        refine R_aload_n (i := 0) (q := 54) dX7_change_53 rfl rfl rfl ?_
        refine R_getR (q := 57) dX7_change_54 fl_X7_19 rfl (by decide) rfl ?_
        refine R_cV1i (M' := MX7_bothSides) (q := 60) dX7_change_57 ml_X7_172 mk_X7_bothSides (Nat.le_of_ble_eq_true rfl) rfl (c_bothSides hS2 (hA.2.1.o.sw ha hb) (Or.inl rfl)) ?_
        rintro _ w3 ⟨rfl, hF3⟩
        refine R_ri dX7_change_60 rfl ?_
        exact ⟨rfl, (hR.act hA1 hF1 hS2 (hF2.up (by decide))).sc (hF3.up (by decide))⟩
      · rw [if_pos c3]
        refine R_bipush (v := (-3)) (q := 31) dX7_change_29 (by decide) rfl ?_
        refine R_ri dX7_change_31 rfl ?_
        exact ⟨rfl, hR⟩
    · rw [if_neg (fun h => c2 h.2)]
      refine R_iconst (v := (-1)) (q := 23) dX7_change_22 (by decide) rfl ?_
      refine R_ri dX7_change_23 rfl ?_
      exact ⟨rfl, hR⟩
theorem c_move {x y z : Int32} (hR : ClsR w A) (hA : AOK A) : Ct X 0 (d + 4) MX7_move [vR 7 0 [], vI x, vI y, vI z] w (qI fun u w' => u = (opMove A x y z).1 ∧ ClsR w' (opMove A x y z).2) := by
  obtain ⟨hOK1, hOK2, hOK3, hOK4, hOK5, hOK6, hOK7, hOK8⟩ := id hA.2.1
  unfold opMove
  refine Ct.of (by decide) rfl (Nat.le_of_ble_eq_true rfl) ?_
  show Wq _ _ _ _ 0 [(0, _), (1, _), (2, _), (3, _)] [] _ _
  refine R_aload_n (i := 0) (q := 1) dX7_move_0 rfl rfl rfl ?_
  refine R_getR (q := 4) dX7_move_1 fl_X7_19 rfl (by decide) rfl ?_
  refine R_iload_n (i := 1) (q := 5) dX7_move_4 rfl rfl rfl ?_
  refine R_cV1i (M' := MX5_hasShade) (q := 8) dX7_move_5 ml_X7_125 mk_X5_hasShade (Nat.le_of_ble_eq_true rfl) rfl (c_hasShade hR.2.1.2.2.1) ?_
  rintro _ w ⟨rfl, rfl⟩
  refine R_if_eqB (tgt := 23) (q := 11) dX7_move_8 (by decide) rfl (fun c1 => ?_) (fun c1 => ?_)
  · rw [if_neg (fun h => c1 h.1)]
    refine R_iconst (v := (-1)) (q := 24) dX7_move_23 (by decide) rfl ?_
    refine R_ri dX7_move_24 rfl ?_
    exact ⟨rfl, hR⟩
  · refine R_aload_n (i := 0) (q := 12) dX7_move_11 rfl rfl rfl ?_
    refine R_getR (q := 15) dX7_move_12 fl_X7_19 rfl (by decide) rfl ?_
    refine R_iload_n (i := 2) (q := 16) dX7_move_15 rfl rfl rfl ?_
    refine R_iload_n (i := 3) (q := 17) dX7_move_16 rfl rfl rfl ?_
    refine R_cV2i (M' := MX5_hasCell) (q := 20) dX7_move_17 ml_X7_137 mk_X5_hasCell (Nat.le_of_ble_eq_true rfl) rfl (c_hasCell hR.2.1.1 hR.2.1.2.1) ?_
    rintro _ w ⟨rfl, rfl⟩
    refine R_if_neB (tgt := 25) (q := 23) dX7_move_20 (by decide) rfl (fun c2 => ?_) (fun c2 => ?_)
    · rw [if_pos ⟨c1, c2⟩]
      obtain ⟨s, hs, rfl⟩ := inN_ex (by omega) c1
      obtain ⟨a, ha, rfl⟩ := inN_ex (by omega) c2.1
      obtain ⟨b, hb, rfl⟩ := inN_ex (by omega) c2.2
      rw [cl_nI (by omega), cl_nI (by omega), cl_nI (by omega)]
      refine R_aload_n (i := 0) (q := 26) dX7_move_25 rfl rfl rfl ?_
      refine R_getR (q := 29) dX7_move_26 fl_X7_19 rfl (by decide) rfl ?_
      refine R_iload_n (i := 2) (q := 30) dX7_move_29 rfl rfl rfl ?_
      refine R_iload_n (i := 3) (q := 31) dX7_move_30 rfl rfl rfl ?_
      refine R_cV2i (M' := MX5_shadeIn) (q := 34) dX7_move_31 ml_X7_141 mk_X5_shadeIn (Nat.le_of_ble_eq_true rfl) rfl (c_shadeIn hR.2.1 hOK3 (by omega) (by omega) (fun s hs => by have := hOK6 s hs; omega)) ?_
      rintro u w ⟨hu, rfl⟩
      refine R_bipush (v := (-9)) (q := 36) dX7_move_34 (by decide) rfl ?_
      refine R_icmp_eq (tgt := 42) (q := 39) dX7_move_36 (by decide) rfl (fun c3 => ?_) (fun c3 => ?_)
      · have hfree : ∀ s, s < pN (aP A) → ¬ (pro (aP A) s = a ∧ pco (aP A) s = b) := by
          rcases hu with ⟨t, ht, _, _, rfl⟩ | ⟨h, _⟩
          · exact absurd c3 (fun h => by have := nI_pos (n := t) (by omega); rw [h] at this; exact this (by decide))
          · exact h
        rw [if_pos hfree]
        refine R_aload_n (i := 0) (q := 43) dX7_move_42 rfl rfl rfl ?_
        refine R_getR (q := 46) dX7_move_43 fl_X7_29 rfl (by decide) rfl ?_
        refine R_aload_n (i := 0) (q := 47) dX7_move_46 rfl rfl rfl ?_
        refine R_getR (q := 50) dX7_move_47 fl_X7_19 rfl (by decide) rfl ?_
        refine R_cV1v (M' := MX0_remember) (q := 53) dX7_move_50 ml_X7_165 mk_X0_remember (Nat.le_of_ble_eq_true rfl) rfl (c_remember hR.2.2.1 hR.2.1 hOK3) ?_
        rintro w1 ⟨hA1, k, hk, hF1⟩
        refine R_aload_n (i := 0) (q := 54) dX7_move_53 rfl rfl rfl ?_
        refine R_getR (q := 57) dX7_move_54 fl_X7_19 rfl (by decide) rfl ?_
        refine R_iload_n (i := 1) (q := 58) dX7_move_57 rfl rfl rfl ?_
        refine R_iload_n (i := 2) (q := 59) dX7_move_58 rfl rfl rfl ?_
        refine R_iload_n (i := 3) (q := 60) dX7_move_59 rfl rfl rfl ?_
        refine R_cV3v (M' := MX5_put) (q := 63) dX7_move_60 ml_X7_175 mk_X5_put (Nat.le_of_ble_eq_true rfl) rfl (c_put2 (hR.2.1.rem hF1) hOK3 (by omega)) ?_
        rintro w2 ⟨hS2, hF2⟩
        rw [if_pos hs] at hS2
        refine R_aload_n (i := 0) (q := 64) dX7_move_63 rfl rfl rfl ?_
        refine R_aload_n (i := 0) (q := 65) dX7_move_64 rfl rfl rfl ?_
        refine R_getR (q := 68) dX7_move_65 fl_X7_19 rfl (by decide) rfl ?_
        refine R_cV1i (M' := MX7_bothSides) (q := 71) dX7_move_68 ml_X7_172 mk_X7_bothSides (Nat.le_of_ble_eq_true rfl) rfl (c_bothSides hS2 (hA.2.1.o.pu (by omega) (by omega)) (Or.inl rfl)) ?_
        rintro _ w3 ⟨rfl, hF3⟩
        refine R_ri dX7_move_71 rfl ?_
        exact ⟨rfl, (hR.act hA1 hF1 hS2 (hF2.up (by decide))).sc (hF3.up (by decide))⟩
      · have hno : ¬ ∀ s, s < pN (aP A) → ¬ (pro (aP A) s = a ∧ pco (aP A) s = b) := by
          intro hf
          rcases hu with ⟨t, ht, h1, h2, rfl⟩ | ⟨_, h⟩
          · exact hf t ht ⟨h1, h2⟩
          · exact c3 h
        rw [if_neg hno]
        refine R_bipush (v := (-3)) (q := 41) dX7_move_39 (by decide) rfl ?_
        refine R_ri dX7_move_41 rfl ?_
        exact ⟨rfl, hR⟩
    · rw [if_neg (fun h => c2 h.2)]
      refine R_iconst (v := (-1)) (q := 24) dX7_move_23 (by decide) rfl ?_
      refine R_ri dX7_move_24 rfl ?_
      exact ⟨rfl, hR⟩
/-! the order of cells, for all tables -/
def laC (R C b : Nat) : Bool := decide (R = 0) || decide (C = 0) || (decide ((laT R C b (R + C - 1)).length = cw C b R) && decide (laT R C b 11 = laT R C b (R + C - 1)) && (laT R C b (R + C - 1)).all (fun q => decide (q.1 < R) && decide (q.2 < C)) && va_nd ((laT R C b (R + C - 1)).map (fun q => 6 * q.1 + q.2)))
theorem la_chk : (List.range 7).all (fun R => (List.range 7).all (fun C => (List.range 6).all (fun b => laC R C b))) = true := by decide +kernel
theorem la_fin (R : Nat) (hR : R < 7) (C : Nat) (hC : C < 7) (b : Nat) (hb : b < 6) (h1 : 1 ≤ R) (h2 : 1 ≤ C) : (laT R C b (R + C - 1)).length = cw C b R ∧ laT R C b 11 = laT R C b (R + C - 1) ∧ (laT R C b (R + C - 1)).all (fun q => decide (q.1 < R) && decide (q.2 < C)) = true ∧ va_nd ((laT R C b (R + C - 1)).map (fun q => 6 * q.1 + q.2)) = true := by
  have h := List.all_eq_true.mp (List.all_eq_true.mp (List.all_eq_true.mp la_chk R (List.mem_range.mpr hR)) C (List.mem_range.mpr hC)) b (List.mem_range.mpr hb)
  unfold laC at h
  rw [decide_eq_false (show ¬ R = 0 by omega), decide_eq_false (show ¬ C = 0 by omega), Bool.or_self, Bool.false_or] at h
  rw [Bool.and_eq_true, Bool.and_eq_true, Bool.and_eq_true] at h
  exact ⟨of_decide_eq_true h.1.1.1, of_decide_eq_true h.1.1.2, h.1.2, h.2⟩
theorem lay_in {S : Pic} {b s : Nat} (hR : 1 ≤ pR S ∧ pR S ≤ 6) (hC : 1 ≤ pC S ∧ pC S ≤ 6) (hb : b < 6) (hs : s < pN S) (h : pN S ≤ cw (pC S) b (pR S)) : pro (layS S b) s < pR S ∧ pco (layS S b) s < pC S := by
  have h1 := la_fin (pR S) (by omega) (pC S) (by omega) b hb hR.1 hC.1
  have hl : s < (laT (pR S) (pC S) b (pR S + pC S - 1)).length := by rw [h1.1]; omega
  have h2 := List.all_eq_true.mp h1.2.2.1 _ (List.getElem_mem hl)
  show (if s < (laT (pR S) (pC S) b (pR S + pC S - 1)).length then ((laT (pR S) (pC S) b (pR S + pC S - 1)).getD s (0, 0)).1 else pro S s) < pR S ∧ (if s < (laT (pR S) (pC S) b (pR S + pC S - 1)).length then ((laT (pR S) (pC S) b (pR S + pC S - 1)).getD s (0, 0)).2 else pco S s) < pC S
  rw [if_pos hl, if_pos hl, List.getD_eq_getElem?_getD, List.getElem?_eq_getElem hl]
  simpa using h2
theorem c_lay {x : Int32} (hR : ClsR w A) (hA : AOK A) : Ct X 0 (d + 4) MX7_lay [vR 7 0 [], vI x] w (qI fun u w' => u = (opLay A x).1 ∧ ClsR w' (opLay A x).2) := by
  obtain ⟨hOK1, hOK2, hOK3, hOK4, hOK5, hOK6, hOK7, hOK8⟩ := id hA.2.1
  unfold opLay
  refine Ct.of (by decide) rfl (Nat.le_of_ble_eq_true rfl) ?_
  show Wq _ _ _ _ 0 [(0, _), (1, _)] [] _ _
  refine R_iload_n (i := 1) (q := 1) dX7_lay_0 rfl rfl rfl ?_
  refine R_if_lt (tgt := 10) (q := 4) dX7_lay_1 (by decide) rfl (fun c1 => ?_) (fun c1 => ?_)
  · rw [if_neg (fun h => h.1 c1)]
    refine R_bipush (v := (-2)) (q := 12) dX7_lay_10 (by decide) rfl ?_
    refine R_ri dX7_lay_12 rfl ?_
    exact ⟨rfl, hR⟩
  · refine R_iload_n (i := 1) (q := 5) dX7_lay_4 rfl rfl rfl ?_
    refine R_bipush (v := nI 6) (q := 7) dX7_lay_5 (by decide) rfl ?_
    refine R_icmp_lt (tgt := 13) (q := 10) dX7_lay_7 (by decide) rfl (fun c2 => ?_) (fun c2 => ?_)
    · have hin : inN x 6 := ⟨c1, (lt_in (by decide)).mp c2⟩
      rw [if_pos hin]
      obtain ⟨b, hb, rfl⟩ := inN_ex (by decide) hin
      rw [cl_nI (by omega)]
      refine R_aload_n (i := 0) (q := 14) dX7_lay_13 rfl rfl rfl ?_
      refine R_getR (q := 17) dX7_lay_14 fl_X7_19 rfl (by decide) rfl ?_
      refine R_iload_n (i := 1) (q := 18) dX7_lay_17 rfl rfl rfl ?_
      refine R_cV1i (M' := MX5_cellsWithin) (q := 21) dX7_lay_18 ml_X7_179 mk_X5_cellsWithin (Nat.le_of_ble_eq_true rfl) rfl (c_cellsWithin hR.2.1 hOK1.2 hOK2.2 (by omega)) ?_
      rintro _ w ⟨rfl, rfl⟩
      have hcw := cw_le (pC (aP A)) b (pR (aP A))
      have hcw2 : pR (aP A) * pC (aP A) ≤ 6 * 6 := Nat.mul_le_mul hOK1.2 hOK2.2
      refine R_aload_n (i := 0) (q := 22) dX7_lay_21 rfl rfl rfl ?_
      refine R_getR (q := 25) dX7_lay_22 fl_X7_19 rfl (by decide) rfl ?_
      refine R_getI' (q := 28) dX7_lay_25 fl_X7_85 rfl (hR.2.1.2.2.1) rfl ?_
      refine R_icmp_geN (by omega) (by omega) (tgt := 34) (q := 31) dX7_lay_28 (by decide) rfl (fun c3 => ?_) (fun c3 => ?_)
      · rw [if_pos c3]
        refine R_aload_n (i := 0) (q := 35) dX7_lay_34 rfl rfl rfl ?_
        refine R_getR (q := 38) dX7_lay_35 fl_X7_29 rfl (by decide) rfl ?_
        refine R_aload_n (i := 0) (q := 39) dX7_lay_38 rfl rfl rfl ?_
        refine R_getR (q := 42) dX7_lay_39 fl_X7_19 rfl (by decide) rfl ?_
        refine R_cV1v (M' := MX0_remember) (q := 45) dX7_lay_42 ml_X7_165 mk_X0_remember (Nat.le_of_ble_eq_true rfl) rfl (c_remember hR.2.2.1 hR.2.1 hOK3) ?_
        rintro w1 ⟨hA1, k, hk, hF1⟩
        refine R_aload_n (i := 0) (q := 46) dX7_lay_45 rfl rfl rfl ?_
        refine R_getR (q := 49) dX7_lay_46 fl_X7_19 rfl (by decide) rfl ?_
        refine R_iload_n (i := 1) (q := 50) dX7_lay_49 rfl rfl rfl ?_
        refine R_cV1v (M' := MX5_layWithin) (q := 53) dX7_lay_50 ml_X7_182 mk_X5_layWithin (Nat.le_of_ble_eq_true rfl) rfl (c_layWithin (hR.2.1.rem hF1) hOK1 hOK2 hOK3 (by omega)) ?_
        rintro w2 ⟨hS2, hF2⟩
        have hO2 : OKo (layS (aP A) b) := ⟨hOK3, fun s hs => by have := lay_in hOK1 hOK2 hb hs c3; omega, hA.2.1.o.2.2⟩
        refine R_aload_n (i := 0) (q := 54) dX7_lay_53 rfl rfl rfl ?_
        refine R_aload_n (i := 0) (q := 55) dX7_lay_54 rfl rfl rfl ?_
        refine R_getR (q := 58) dX7_lay_55 fl_X7_19 rfl (by decide) rfl ?_
        refine R_cV1i (M' := MX7_bothSides) (q := 61) dX7_lay_58 ml_X7_172 mk_X7_bothSides (Nat.le_of_ble_eq_true rfl) rfl (c_bothSides (S := layS (aP A) b) hS2 hO2 (Or.inl rfl)) ?_
        rintro _ w3 ⟨rfl, hF3⟩
        refine R_ri dX7_lay_61 rfl ?_
        exact ⟨rfl, (hR.act (S := layS (aP A) b) hA1 hF1 hS2 (hF2.up (by decide))).sc (hF3.up (by decide))⟩
      · rw [if_neg (by omega)]
        refine R_bipush (v := (-3)) (q := 33) dX7_lay_31 (by decide) rfl ?_
        refine R_ri dX7_lay_33 rfl ?_
        exact ⟨rfl, hR⟩
    · rw [if_neg (fun h => c2 ((lt_in (by decide)).mpr h.2))]
      refine R_bipush (v := (-2)) (q := 12) dX7_lay_10 (by decide) rfl ?_
      refine R_ri dX7_lay_12 rfl ?_
      exact ⟨rfl, hR⟩
theorem c_paint {x y z : Int32} (hR : ClsR w A) (hA : AOK A) : Ct X 0 (d + 3) MX7_paint [vR 7 0 [], vI x, vI y, vI z] w (qI fun u w' => u = (opPaint A x y z).1 ∧ ClsR w' (opPaint A x y z).2) := by
  obtain ⟨hOK1, hOK2, hOK3, hOK4, hOK5, hOK6, hOK7, hOK8⟩ := id hA.2.1
  unfold opPaint
  refine Ct.of (by decide) rfl (Nat.le_of_ble_eq_true rfl) ?_
  show Wq _ _ _ _ 0 [(0, _), (1, _), (2, _), (3, _)] [] _ _
  refine R_iload_n (i := 1) (q := 1) dX7_paint_0 rfl rfl rfl ?_
  refine R_iload_n (i := 2) (q := 2) dX7_paint_1 rfl rfl rfl ?_
  refine R_cS2i (M' := MX7_isDot) (q := 5) dX7_paint_2 ml_X7_154 mk_X7_isDot (Nat.le_of_ble_eq_true rfl) rfl (c_isDot) ?_
  rintro _ w ⟨rfl, rfl⟩
  refine R_if_eqB (tgt := 19) (q := 8) dX7_paint_5 (by decide) rfl (fun c1 => ?_) (fun c1 => ?_)
  · rw [if_neg (fun h => c1 ⟨h.1, h.2.1⟩)]
    refine R_iconst (v := (-1)) (q := 20) dX7_paint_19 (by decide) rfl ?_
    refine R_ri dX7_paint_20 rfl ?_
    exact ⟨rfl, hR⟩
  · refine R_aload_n (i := 0) (q := 9) dX7_paint_8 rfl rfl rfl ?_
    refine R_getR (q := 12) dX7_paint_9 fl_X7_19 rfl (by decide) rfl ?_
    refine R_iload_n (i := 3) (q := 13) dX7_paint_12 rfl rfl rfl ?_
    refine R_cV1i (M' := MX5_hasShade) (q := 16) dX7_paint_13 ml_X7_125 mk_X5_hasShade (Nat.le_of_ble_eq_true rfl) rfl (c_hasShade hR.2.1.2.2.1) ?_
    rintro _ w ⟨rfl, rfl⟩
    refine R_if_neB (tgt := 21) (q := 19) dX7_paint_16 (by decide) rfl (fun c2 => ?_) (fun c2 => ?_)
    · rw [if_pos ⟨c1.1, c1.2, c2⟩]
      obtain ⟨a, ha, rfl⟩ := inN_ex (by decide) c1.1
      obtain ⟨b, hb, rfl⟩ := inN_ex (by decide) c1.2
      obtain ⟨s, hs, rfl⟩ := inN_ex (by omega) c2
      rw [cl_nI (by omega), cl_nI (by omega), cl_nI (by omega)]
      refine R_aload_n (i := 0) (q := 22) dX7_paint_21 rfl rfl rfl ?_
      refine R_getR (q := 25) dX7_paint_22 fl_X7_29 rfl (by decide) rfl ?_
      refine R_aload_n (i := 0) (q := 26) dX7_paint_25 rfl rfl rfl ?_
      refine R_getR (q := 29) dX7_paint_26 fl_X7_19 rfl (by decide) rfl ?_
      refine R_cV1v (M' := MX0_remember) (q := 32) dX7_paint_29 ml_X7_165 mk_X0_remember (Nat.le_of_ble_eq_true rfl) rfl (c_remember hR.2.2.1 hR.2.1 hOK3) ?_
      rintro w1 ⟨hA1, k, hk, hF1⟩
      have hS1 := hR.2.1.rem hF1
      refine R_aload_n (i := 0) (q := 33) dX7_paint_32 rfl rfl rfl ?_
      refine R_getR (q := 36) dX7_paint_33 fl_X7_19 rfl (by decide) rfl ?_
      refine R_getR (q := 39) dX7_paint_36 fl_X7_157 rfl (by decide) rfl ?_
      refine R_iload_n (i := 1) (q := 40) dX7_paint_39 rfl rfl rfl ?_
      refine R_iconst (v := nI 4) (q := 41) dX7_paint_40 (by decide) rfl ?_
      first | refine R_imulN (q := 42) dX7_paint_41 rfl ?_ | refine R_imul (q := 42) dX7_paint_41 rfl ?_
      refine R_iload_n (i := 2) (q := 43) dX7_paint_42 rfl rfl rfl ?_
      first | refine R_iaddN (q := 44) dX7_paint_43 rfl ?_ | refine R_iadd (q := 44) dX7_paint_43 rfl ?_
      refine R_iald' (q := 45) dX7_paint_44 (rfl) (by omega) (by decide) (hS1.2.2.2.2.2.2.2 _ (by omega)) rfl ?_
      refine R_istore (q := 47) (loc' := [(4, _), (0, _), (1, _), (2, _), (3, _)]) dX7_paint_45 (by decide) (by rfl) rfl ?_
      refine R_aload_n (i := 0) (q := 48) dX7_paint_47 rfl rfl rfl ?_
      refine R_getR (q := 51) dX7_paint_48 fl_X7_19 rfl (by decide) rfl ?_
      refine R_getR (q := 54) dX7_paint_51 fl_X7_157 rfl (by decide) rfl ?_
      refine R_iload_n (i := 1) (q := 55) dX7_paint_54 rfl rfl rfl ?_
      refine R_iconst (v := nI 4) (q := 56) dX7_paint_55 (by decide) rfl ?_
      first | refine R_imulN (q := 57) dX7_paint_56 rfl ?_ | refine R_imul (q := 57) dX7_paint_56 rfl ?_
      refine R_iload_n (i := 2) (q := 58) dX7_paint_57 rfl rfl rfl ?_
      first | refine R_iaddN (q := 59) dX7_paint_58 rfl ?_ | refine R_iadd (q := 59) dX7_paint_58 rfl ?_
      refine R_iload_n (i := 3) (q := 60) dX7_paint_59 rfl rfl rfl ?_
      refine R_iast (q := 61) dX7_paint_60 (rfl) (by omega) (by decide) rfl ?_
      refine R_iload (q := 63) dX7_paint_61 rfl rfl ?_
      refine R_ri dX7_paint_63 rfl ?_
      exact ⟨rfl, hR.act hA1 hF1 (StA_dt hS1) (Fr.i (by decide))⟩
    · rw [if_neg (fun h => c2 h.2.2)]
      refine R_iconst (v := (-1)) (q := 20) dX7_paint_19 (by decide) rfl ?_
      refine R_ri dX7_paint_20 rfl ?_
      exact ⟨rfl, hR⟩
theorem c_shift {x : Int32} (hR : ClsR w A) (hA : AOK A) : Ct X 0 (d + 3) MX7_shift [vR 7 0 [], vI x] w (qI fun u w' => u = (opShift A x).1 ∧ ClsR w' (opShift A x).2) := by
  obtain ⟨hOK1, hOK2, hOK3, hOK4, hOK5, hOK6, hOK7, hOK8⟩ := id hA.2.1
  unfold opShift
  refine Ct.of (by decide) rfl (Nat.le_of_ble_eq_true rfl) ?_
  show Wq _ _ _ _ 0 [(0, _), (1, _)] [] _ _
  refine R_iload_n (i := 1) (q := 1) dX7_shift_0 rfl rfl rfl ?_
  refine R_cS1i (M' := MX7_isShift) (q := 4) dX7_shift_1 ml_X7_186 mk_X7_isShift (Nat.le_of_ble_eq_true rfl) rfl (c_isShift) ?_
  rintro _ w ⟨rfl, rfl⟩
  refine R_if_neB (tgt := 10) (q := 7) dX7_shift_4 (by decide) rfl (fun c1 => ?_) (fun c1 => ?_)
  · rw [if_pos c1]
    obtain ⟨a, ha, rfl⟩ := inN_ex (by decide) c1
    rw [cl_nI (by omega)]
    refine R_aload_n (i := 0) (q := 11) dX7_shift_10 rfl rfl rfl ?_
    refine R_getR (q := 14) dX7_shift_11 fl_X7_29 rfl (by decide) rfl ?_
    refine R_aload_n (i := 0) (q := 15) dX7_shift_14 rfl rfl rfl ?_
    refine R_getR (q := 18) dX7_shift_15 fl_X7_19 rfl (by decide) rfl ?_
    refine R_cV1v (M' := MX0_remember) (q := 21) dX7_shift_18 ml_X7_165 mk_X0_remember (Nat.le_of_ble_eq_true rfl) rfl (c_remember hR.2.2.1 hR.2.1 hOK3) ?_
    rintro w1 ⟨hA1, k, hk, hF1⟩
    have hS1 := hR.2.1.rem hF1
    refine R_aload_n (i := 0) (q := 22) dX7_shift_21 rfl rfl rfl ?_
    refine R_getR (q := 25) dX7_shift_22 fl_X7_19 rfl (by decide) rfl ?_
    refine R_getI' (q := 28) dX7_shift_25 fl_X7_94 rfl (hS1.2.2.2.1) rfl ?_
    refine R_istore_n (i := 2) (q := 29) (loc' := [(2, _), (0, _), (1, _)]) dX7_shift_28 rfl (by decide) (by rfl) rfl ?_
    refine R_aload_n (i := 0) (q := 30) dX7_shift_29 rfl rfl rfl ?_
    refine R_getR (q := 33) dX7_shift_30 fl_X7_19 rfl (by decide) rfl ?_
    refine R_iload_n (i := 1) (q := 34) dX7_shift_33 rfl rfl rfl ?_
    refine R_putI (q := 37) dX7_shift_34 fl_X7_94 rfl rfl ?_
    refine R_iload_n (i := 2) (q := 38) dX7_shift_37 rfl rfl rfl ?_
    refine R_ri dX7_shift_38 rfl ?_
    exact ⟨rfl, hR.act hA1 hF1 (StA_sh hS1) (Fr.i (by decide))⟩
  · rw [if_neg c1]
    refine R_bipush (v := (-2)) (q := 9) dX7_shift_7 (by decide) rfl ?_
    refine R_ri dX7_shift_9 rfl ?_
    exact ⟨rfl, hR⟩
theorem c_lose {x : Int32} (hR : ClsR w A) (hA : AOK A) : Ct X 0 (d + 3) MX7_lose [vR 7 0 [], vI x] w (qI fun u w' => u = (opLose A x).1 ∧ ClsR w' (opLose A x).2) := by
  obtain ⟨hOK1, hOK2, hOK3, hOK4, hOK5, hOK6, hOK7, hOK8⟩ := id hA.2.1
  unfold opLose
  refine Ct.of (by decide) rfl (Nat.le_of_ble_eq_true rfl) ?_
  show Wq _ _ _ _ 0 [(0, _), (1, _)] [] _ _
  refine R_iload_n (i := 1) (q := 1) dX7_lose_0 rfl rfl rfl ?_
  refine R_cS1i (M' := MX7_isPack) (q := 4) dX7_lose_1 ml_X7_189 mk_X7_isPack (Nat.le_of_ble_eq_true rfl) rfl (c_isPack) ?_
  rintro _ w ⟨rfl, rfl⟩
  refine R_if_neB (tgt := 9) (q := 7) dX7_lose_4 (by decide) rfl (fun c1 => ?_) (fun c1 => ?_)
  · rw [if_pos c1]
    obtain ⟨a, ha, rfl⟩ := inN_ex (by decide) c1
    rw [cl_nI (by omega)]
    refine R_aload_n (i := 0) (q := 10) dX7_lose_9 rfl rfl rfl ?_
    refine R_getR (q := 13) dX7_lose_10 fl_X7_29 rfl (by decide) rfl ?_
    refine R_aload_n (i := 0) (q := 14) dX7_lose_13 rfl rfl rfl ?_
    refine R_getR (q := 17) dX7_lose_14 fl_X7_19 rfl (by decide) rfl ?_
    refine R_cV1v (M' := MX0_remember) (q := 20) dX7_lose_17 ml_X7_165 mk_X0_remember (Nat.le_of_ble_eq_true rfl) rfl (c_remember hR.2.2.1 hR.2.1 hOK3) ?_
    rintro w1 ⟨hA1, k, hk, hF1⟩
    have hS1 := hR.2.1.rem hF1
    refine R_aload_n (i := 0) (q := 21) dX7_lose_20 rfl rfl rfl ?_
    refine R_getR (q := 24) dX7_lose_21 fl_X7_19 rfl (by decide) rfl ?_
    refine R_iload_n (i := 1) (q := 25) dX7_lose_24 rfl rfl rfl ?_
    refine R_cV1v (M' := MX5_loseOrFind) (q := 28) dX7_lose_25 ml_X7_192 mk_X5_loseOrFind (Nat.le_of_ble_eq_true rfl) rfl (c_loseOrFind hS1 hOK5 ha) ?_
    rintro w2 ⟨hS2, hF2⟩
    refine R_aload_n (i := 0) (q := 29) dX7_lose_28 rfl rfl rfl ?_
    refine R_getR (q := 32) dX7_lose_29 fl_X7_19 rfl (by decide) rfl ?_
    refine R_getI' (q := 35) dX7_lose_32 fl_X7_97 rfl (hS2.2.2.2.2.1) rfl ?_
    refine R_iload_n (i := 1) (q := 36) dX7_lose_35 rfl rfl rfl ?_
    refine R_ishr (q := 37) dX7_lose_36 rfl ?_
    refine R_iconst (v := nI 1) (q := 38) dX7_lose_37 (by decide) rfl ?_
    refine R_iand (q := 39) dX7_lose_38 rfl ?_
    rw [show pL (loP (aP A) a) = pL (aP A) ^^^ 2 ^ a from rfl, shr_fin _ (xor_fin _ hOK5 a ha).2 a ha]
    refine R_ri dX7_lose_39 rfl ?_
    exact ⟨rfl, hR.act hA1 hF1 hS2 (hF2.up (by decide))⟩
  · rw [if_neg c1]
    refine R_iconst (v := (-1)) (q := 8) dX7_lose_7 (by decide) rfl ?_
    refine R_ri dX7_lose_8 rfl ?_
    exact ⟨rfl, hR⟩
theorem c_undo (hR : ClsR w A) (hA : AOK A) : Ct X 0 (d + 3) MX7_undo [vR 7 0 []] w (qI fun u w' => u = (opUndo A).1 ∧ ClsR w' (opUndo A).2) := by
  unfold opUndo
  refine Ct.of (by decide) rfl (Nat.le_of_ble_eq_true rfl) ?_
  show Wq _ _ _ _ 0 [(0, _)] [] _ _
  refine R_aload_n (i := 0) (q := 1) dX7_undo_0 rfl rfl rfl ?_
  refine R_getR (q := 4) dX7_undo_1 fl_X7_29 rfl (by decide) rfl ?_
  refine R_aload_n (i := 0) (q := 5) dX7_undo_4 rfl rfl rfl ?_
  refine R_getR (q := 8) dX7_undo_5 fl_X7_19 rfl (by decide) rfl ?_
  refine R_cV1i (M' := MX0_takeBackInto) (q := 11) dX7_undo_8 ml_X7_195 mk_X0_takeBackInto (Nat.le_of_ble_eq_true rfl) rfl (c_takeBack hR.2.2.1 (fun S hS => ((hA.2.2.2.1 S hS).1).2.2.1)) ?_
  rintro z w1 hz
  rcases hz with ⟨e, rfl, rfl⟩ | ⟨S, L', e, rfl, hS1, hA1, hF1⟩
  · refine R_if_eq (tgt := 24) (q := 14) dX7_undo_11 (by decide) rfl (fun c1 => ?_) (fun c1 => ?_)
    · refine R_bipush (v := (-3)) (q := 26) dX7_undo_24 (by decide) rfl ?_
      refine R_ri dX7_undo_26 rfl ?_
      rw [e]
      exact ⟨rfl, hR⟩
    · exact absurd rfl c1
  · refine R_if_eq (tgt := 24) (q := 14) dX7_undo_11 (by decide) rfl (fun c1 => ?_) (fun c1 => ?_)
    · exact absurd c1 (by decide)
    · obtain ⟨f, q1, q2, q3, q4⟩ := id hA1
      refine R_aload_n (i := 0) (q := 15) dX7_undo_14 rfl rfl rfl ?_
      refine R_getR (q := 18) dX7_undo_15 fl_X7_29 rfl (by decide) rfl ?_
      refine R_getI' (q := 21) dX7_undo_18 fl_X7_121 rfl (q3) rfl ?_
      refine R_goto (q := 26) dX7_undo_21 (by decide) ?_
      refine R_ri dX7_undo_26 rfl ?_
      rw [e]
      refine ⟨rfl, ?_⟩
      obtain ⟨h1, h2, h3, h4, h5, h6⟩ := hR
      refine ⟨h1.fr hF1 (by decide) (by decide), hS1, hA1, h4.fr hF1 (by decide) ?_, h5.fr hF1 (by decide) (by decide) (by decide), by rw [hF1.1]; exact h6⟩
      intro k _
      refine ⟨?_, ?_, ?_, ?_⟩ <;> simp
theorem c_miss {x : Int32} (hR : ClsR w A) (hA : AOK A) : Ct X 0 (d + 5) MX7_miss [vR 7 0 [], vI x] w (qI fun u w' => u = opMiss A x ∧ ClsR w' A) := by
  obtain ⟨hOK1, hOK2, hOK3, hOK4, hOK5, hOK6, hOK7, hOK8⟩ := id hA.2.1
  unfold opMiss
  refine Ct.of (by decide) rfl (Nat.le_of_ble_eq_true rfl) ?_
  show Wq _ _ _ _ 0 [(0, _), (1, _)] [] _ _
  refine R_iload_n (i := 1) (q := 1) dX7_miss_0 rfl rfl rfl ?_
  refine R_if_lt (tgt := 10) (q := 4) dX7_miss_1 (by decide) rfl (fun c1 => ?_) (fun c1 => ?_)
  · rw [if_neg (fun h => h.1 c1)]
    refine R_bipush (v := (-2)) (q := 12) dX7_miss_10 (by decide) rfl ?_
    refine R_ri dX7_miss_12 rfl ?_
    exact ⟨rfl, hR⟩
  · refine R_iload_n (i := 1) (q := 5) dX7_miss_4 rfl rfl rfl ?_
    refine R_bipush (v := nI 16) (q := 7) dX7_miss_5 (by decide) rfl ?_
    refine R_icmp_lt (tgt := 13) (q := 10) dX7_miss_7 (by decide) rfl (fun c2 => ?_) (fun c2 => ?_)
    · have hin : inN x 16 := ⟨c1, (lt_in (by decide)).mp c2⟩
      rw [if_pos hin]
      obtain ⟨b, hb, rfl⟩ := inN_ex (by decide) hin
      rw [cl_nI (by omega)]
      refine R_aload_n (i := 0) (q := 14) dX7_miss_13 rfl rfl rfl ?_
      refine R_getR (q := 17) dX7_miss_14 fl_X7_57 rfl (by decide) rfl ?_
      refine R_aload_n (i := 0) (q := 18) dX7_miss_17 rfl rfl rfl ?_
      refine R_getR (q := 21) dX7_miss_18 fl_X7_19 rfl (by decide) rfl ?_
      refine R_aload_n (i := 0) (q := 22) dX7_miss_21 rfl rfl rfl ?_
      refine R_getR (q := 25) dX7_miss_22 fl_X7_19 rfl (by decide) rfl ?_
      refine R_getI' (q := 28) dX7_miss_25 fl_X7_94 rfl (hR.2.1.2.2.2.1) rfl ?_
      refine R_iload_n (i := 1) (q := 29) dX7_miss_28 rfl rfl rfl ?_
      refine R_cV3i (M' := MX2_missBy) (q := 32) dX7_miss_29 ml_X7_104 mk_X2_missBy (Nat.le_of_ble_eq_true rfl) rfl (c_missBy hR.2.1 hA.2.1.o (Or.inl rfl) hOK4 hb) ?_
      rintro _ w1 ⟨rfl, hF1⟩
      refine R_ri dX7_miss_32 rfl ?_
      exact ⟨rfl, hR.sc (hF1.up (by decide))⟩
    · rw [if_neg (fun h => c2 ((lt_in (by decide)).mpr h.2))]
      refine R_bipush (v := (-2)) (q := 12) dX7_miss_10 (by decide) rfl ?_
      refine R_ri dX7_miss_12 rfl ?_
      exact ⟨rfl, hR⟩
theorem ClsR.see {w' : Wd} {n : Nat} {pl vs : Nat → Nat} (hR : ClsR w A) (h : SeeA w' n pl vs) (hF : Fr [[5], [0, 5], [1, 5]] w w') : ClsR w' (aN A, aX A, aP A, aA A, aK A, n, pl, vs, aZ A) := by
  obtain ⟨h1, h2, h3, h4, h5, h6⟩ := hR
  refine ⟨h1.fr hF (by decide) (by decide), h2.fr hF (by decide) (by decide) (by decide) (by decide), h3.fr hF (by decide) ?_, h4.fr hF (by decide) ?_, h, by rw [hF.1]; exact h6⟩
  · intro k _
    refine ⟨?_, ?_, ?_, ?_⟩ <;> simp
  · intro k _
    refine ⟨?_, ?_, ?_, ?_⟩ <;> simp
theorem c_see {x y v : Int32} (hR : ClsR w A) (hA : AOK A) : Ct X 0 (d + 1) MX7_see [vR 7 0 [], vI x, vI y, vI v] w (qI fun u w' => u = (opSee A x y v).1 ∧ ClsR w' (opSee A x y v).2) := by
  unfold opSee
  refine Ct.of (by decide) rfl (Nat.le_of_ble_eq_true rfl) ?_
  show Wq _ _ _ _ 0 [(0, _), (1, _), (2, _), (3, _)] [] _ _
  refine R_iload_n (i := 1) (q := 1) dX7_see_0 rfl rfl rfl ?_
  refine R_iload_n (i := 2) (q := 2) dX7_see_1 rfl rfl rfl ?_
  refine R_cS2i (M' := MX7_isDot) (q := 5) dX7_see_2 ml_X7_154 mk_X7_isDot (Nat.le_of_ble_eq_true rfl) rfl (c_isDot) ?_
  rintro _ w ⟨rfl, rfl⟩
  refine R_if_neB (tgt := 10) (q := 8) dX7_see_5 (by decide) rfl (fun c1 => ?_) (fun c1 => ?_)
  · rw [if_pos c1]
    obtain ⟨a, ha, rfl⟩ := inN_ex (by decide) c1.1
    obtain ⟨b, hb, rfl⟩ := inN_ex (by decide) c1.2
    rw [cl_nI (by omega), cl_nI (by omega)]
    refine R_iload_n (i := 3) (q := 11) dX7_see_10 rfl rfl rfl ?_
    refine R_if_lt (tgt := 20) (q := 14) dX7_see_11 (by decide) rfl (fun c2 => ?_) (fun c2 => ?_)
    · rw [if_neg (fun h => h.1 c2)]
      refine R_bipush (v := (-2)) (q := 22) dX7_see_20 (by decide) rfl ?_
      refine R_ri dX7_see_22 rfl ?_
      exact ⟨rfl, hR⟩
    · refine R_iload_n (i := 3) (q := 15) dX7_see_14 rfl rfl rfl ?_
      refine R_bipush (v := nI 20) (q := 17) dX7_see_15 (by decide) rfl ?_
      refine R_icmp_lt (tgt := 23) (q := 20) dX7_see_17 (by decide) rfl (fun c3 => ?_) (fun c3 => ?_)
      · have hin : inN v 20 := ⟨c2, (lt_in (by decide)).mp c3⟩
        rw [if_pos hin]
        obtain ⟨e, he, rfl⟩ := inN_ex (by decide) hin
        rw [cl_nI (by omega)]
        refine R_aload_n (i := 0) (q := 24) dX7_see_23 rfl rfl rfl ?_
        refine R_getR (q := 27) dX7_see_24 fl_X7_43 rfl (by decide) rfl ?_
        refine R_iload_n (i := 1) (q := 28) dX7_see_27 rfl rfl rfl ?_
        refine R_iconst (v := nI 4) (q := 29) dX7_see_28 (by decide) rfl ?_
        first | refine R_imulN (q := 30) dX7_see_29 rfl ?_ | refine R_imul (q := 30) dX7_see_29 rfl ?_
        refine R_iload_n (i := 2) (q := 31) dX7_see_30 rfl rfl rfl ?_
        first | refine R_iaddN (q := 32) dX7_see_31 rfl ?_ | refine R_iadd (q := 32) dX7_see_31 rfl ?_
        refine R_iload_n (i := 3) (q := 33) dX7_see_32 rfl rfl rfl ?_
        refine R_cV2i (M' := MX3_add) (q := 36) dX7_see_33 ml_X7_209 mk_X3_add (Nat.le_of_ble_eq_true rfl) rfl (c_sadd hR.2.2.2.2.1 hA.2.2.2.2.2.1) ?_
        rintro z w1 hz
        rcases hz with ⟨h6, rfl, rfl⟩ | ⟨h6, rfl, hS1, hF1⟩
        · rw [if_neg (by omega)]
          refine R_if_eq (tgt := 49) (q := 39) dX7_see_36 (by decide) rfl (fun c4 => ?_) (fun c4 => ?_)
          · refine R_bipush (v := (-4)) (q := 51) dX7_see_49 (by decide) rfl ?_
            refine R_ri dX7_see_51 rfl ?_
            exact ⟨rfl, hR⟩
          · exact absurd rfl c4
        · rw [if_pos h6]
          refine R_if_eq (tgt := 49) (q := 39) dX7_see_36 (by decide) rfl (fun c4 => ?_) (fun c4 => ?_)
          · exact absurd c4 (by decide)
          · refine R_aload_n (i := 0) (q := 40) dX7_see_39 rfl rfl rfl ?_
            refine R_getR (q := 43) dX7_see_40 fl_X7_43 rfl (by decide) rfl ?_
            refine R_getI' (q := 46) dX7_see_43 fl_X7_124 rfl (hS1.1) rfl ?_
            refine R_goto (q := 51) dX7_see_46 (by decide) ?_
            refine R_ri dX7_see_51 rfl ?_
            exact ⟨rfl, hR.see hS1 hF1⟩
      · rw [if_neg (fun h => c3 ((lt_in (by decide)).mpr h.2))]
        refine R_bipush (v := (-2)) (q := 22) dX7_see_20 (by decide) rfl ?_
        refine R_ri dX7_see_22 rfl ?_
        exact ⟨rfl, hR⟩
  · rw [if_neg c1]
    refine R_iconst (v := (-1)) (q := 9) dX7_see_8 (by decide) rfl ?_
    refine R_ri dX7_see_9 rfl ?_
    exact ⟨rfl, hR⟩
theorem c_unsee (hR : ClsR w A) : Ct X 0 d MX7_unsee [vR 7 0 []] w (qI fun u w' => u = (opUnsee A).1 ∧ ClsR w' (opUnsee A).2) := by
  refine Ct.of (by decide) rfl (Nat.le_of_ble_eq_true rfl) ?_
  show Wq _ _ _ _ 0 [(0, _)] [] _ _
  refine R_aload_n (i := 0) (q := 1) dX7_unsee_0 rfl rfl rfl ?_
  refine R_getR (q := 4) dX7_unsee_1 fl_X7_43 rfl (by decide) rfl ?_
  refine R_getI' (q := 7) dX7_unsee_4 fl_X7_124 rfl (hR.2.2.2.2.1.1) rfl ?_
  refine R_istore_n (i := 1) (q := 8) (loc' := [(1, _), (0, _)]) dX7_unsee_7 rfl (by decide) (by rfl) rfl ?_
  refine R_aload_n (i := 0) (q := 9) dX7_unsee_8 rfl rfl rfl ?_
  refine R_getR (q := 12) dX7_unsee_9 fl_X7_43 rfl (by decide) rfl ?_
  refine R_iconst (v := nI 0) (q := 13) dX7_unsee_12 (by decide) rfl ?_
  refine R_putI (q := 16) dX7_unsee_13 fl_X7_124 rfl rfl ?_
  refine R_iload_n (i := 1) (q := 17) dX7_unsee_16 rfl rfl rfl ?_
  refine R_ri dX7_unsee_17 rfl ?_
  exact ⟨rfl, hR.see ⟨uI_same _ _ _ _, fun i hi => absurd hi (Nat.not_lt_zero i)⟩ (Fr.i (by decide))⟩
theorem l_which {w0 : Wd} (hR : ClsR w0 A) (hA : AOK A) : ∀ (f k : Nat) (w : Wd), 16 ≤ k + f → k ≤ 16 → Fr FO w0 w → Wq X 0 (d + 4) MX7_which 4 [(2, vI (nI k)), (1, vI (whI A k)), (0, vR 7 0 [])] [] w (qI fun z w' => z = whI A 16 ∧ Fr FO w0 w') := by
  obtain ⟨hOK1, hOK2, hOK3, hOK4, hOK5, hOK6, hOK7, hOK8⟩ := id hA.2.1
  intro f
  induction f with
  | zero =>
    intro k w h1 h2 hF
    refine R_iload_n (i := 2) (q := 5) dX7_which_4 rfl rfl rfl ?_
    refine R_bipush (v := nI 16) (q := 7) dX7_which_5 (by decide) rfl ?_
    refine R_icmp_geN (by omega) (by omega) (tgt := 55) (q := 10) dX7_which_7 (by decide) rfl (fun c1 => ?_) (fun c1 => ?_)
    · obtain rfl : k = 16 := by omega
      refine R_iload_n (i := 1) (q := 56) dX7_which_55 rfl rfl rfl ?_
      refine R_ri dX7_which_56 rfl ?_
      exact ⟨rfl, hF⟩
    · omega
  | succ f ih =>
    intro k w h1 h2 hF
    refine R_iload_n (i := 2) (q := 5) dX7_which_4 rfl rfl rfl ?_
    refine R_bipush (v := nI 16) (q := 7) dX7_which_5 (by decide) rfl ?_
    refine R_icmp_geN (by omega) (by omega) (tgt := 55) (q := 10) dX7_which_7 (by decide) rfl (fun c1 => ?_) (fun c1 => ?_)
    · obtain rfl : k = 16 := by omega
      refine R_iload_n (i := 1) (q := 56) dX7_which_55 rfl rfl rfl ?_
      refine R_ri dX7_which_56 rfl ?_
      exact ⟨rfl, hF⟩
    · have hRw := hR.sc (hF.up (by decide))
      refine R_aload_n (i := 0) (q := 11) dX7_which_10 rfl rfl rfl ?_
      refine R_getR (q := 14) dX7_which_11 fl_X7_57 rfl (by decide) rfl ?_
      refine R_aload_n (i := 0) (q := 15) dX7_which_14 rfl rfl rfl ?_
      refine R_getR (q := 18) dX7_which_15 fl_X7_19 rfl (by decide) rfl ?_
      refine R_aload_n (i := 0) (q := 19) dX7_which_18 rfl rfl rfl ?_
      refine R_getR (q := 22) dX7_which_19 fl_X7_19 rfl (by decide) rfl ?_
      refine R_getI' (q := 25) dX7_which_22 fl_X7_94 rfl (hRw.2.1.2.2.2.1) rfl ?_
      refine R_iload_n (i := 2) (q := 26) dX7_which_25 rfl rfl rfl ?_
      refine R_cV3v (M' := MX2_send) (q := 29) dX7_which_26 ml_X7_160 mk_X2_send (Nat.le_of_ble_eq_true rfl) rfl (c_send hRw.2.1 hA.2.1.o (Or.inl rfl) hOK4 c1) ?_
      rintro w1 ⟨hO1, hF1⟩
      have hF2 := hF.tr hF1
      have hR2 := hR.sc (hF2.up (by decide))
      have e := ih (k + 1) w1 (by omega) (by omega) hF2
      simp only [whI] at e
      refine R_aload_n (i := 0) (q := 30) dX7_which_29 rfl rfl rfl ?_
      refine R_getR (q := 33) dX7_which_30 fl_X7_43 rfl (by decide) rfl ?_
      refine R_aload_n (i := 0) (q := 34) dX7_which_33 rfl rfl rfl ?_
      refine R_getR (q := 37) dX7_which_34 fl_X7_57 rfl (by decide) rfl ?_
      refine R_cV1i (M' := MX3_isSo) (q := 40) dX7_which_37 ml_X7_211 mk_X3_isSo (Nat.le_of_ble_eq_true rfl) rfl (c_isSo hR2.2.2.2.2.1 hA.2.2.2.2.2.1 hA.2.2.2.2.2.2 hO1.2 (fun k => Nat.le_trans outN_le hOK3)) ?_
      rintro _ w1 ⟨rfl, rfl⟩
      refine R_if_eqB (tgt := 49) (q := 43) dX7_which_40 (by decide) rfl (fun c2 => ?_) (fun c2 => ?_)
      · rw [if_neg c2] at e
        first | refine R_iincN (q := 52) (loc' := [(2, _), (1, _), (0, _)]) dX7_which_49 (by rfl) (by decide) (by rfl) rfl ?_ | refine R_iinc (q := 52) (loc' := [(2, _), (1, _), (0, _)]) dX7_which_49 (by rfl) (by rfl) (by decide) (by rfl) rfl ?_
        refine R_goto (q := 4) dX7_which_52 (by decide) ?_
        exact e
      · rw [if_pos c2] at e
        refine R_iload_n (i := 1) (q := 44) dX7_which_43 rfl rfl rfl ?_
        refine R_iconst (v := nI 1) (q := 45) dX7_which_44 (by decide) rfl ?_
        refine R_iload_n (i := 2) (q := 46) dX7_which_45 rfl rfl rfl ?_
        refine R_ishl (q := 47) dX7_which_46 rfl ?_
        refine R_ior (q := 48) dX7_which_47 rfl ?_
        refine R_istore_n (i := 1) (q := 49) (loc' := [(1, _), (2, _), (0, _)]) dX7_which_48 rfl (by decide) (by rfl) rfl ?_
        first | refine R_iincN (q := 52) (loc' := [(2, _), (1, _), (0, _)]) dX7_which_49 (by rfl) (by decide) (by rfl) rfl ?_ | refine R_iinc (q := 52) (loc' := [(2, _), (1, _), (0, _)]) dX7_which_49 (by rfl) (by rfl) (by decide) (by rfl) rfl ?_
        refine R_goto (q := 4) dX7_which_52 (by decide) ?_
        refine R_loc [0, 1, 2] (loc' := [(2, _), (1, _), (0, _)]) (by rfl) ?_
        exact e
theorem c_which (hR : ClsR w A) (hA : AOK A) : Ct X 0 (d + 4) MX7_which [vR 7 0 []] w (qI fun u w' => u = whI A 16 ∧ ClsR w' A) := by
  refine Ct.of (by decide) rfl (Nat.le_of_ble_eq_true rfl) ?_
  show Wq _ _ _ _ 0 [(0, _)] [] _ _
  refine R_iconst (v := nI 0) (q := 1) dX7_which_0 (by decide) rfl ?_
  refine R_istore_n (i := 1) (q := 2) (loc' := [(1, _), (0, _)]) dX7_which_1 rfl (by decide) (by rfl) rfl ?_
  refine R_iconst (v := nI 0) (q := 3) dX7_which_2 (by decide) rfl ?_
  refine R_istore_n (i := 2) (q := 4) (loc' := [(2, _), (1, _), (0, _)]) dX7_which_3 rfl (by decide) (by rfl) rfl ?_
  refine Wq_mono (l_which hR hA 16 0 w (by omega) (by omega) Fr.rf) ?_
  rintro z w2 ⟨h1, h2⟩
  exact ⟨h1, hR.sc (h2.up (by decide))⟩
theorem c_keep {x : Int32} (hR : ClsR w A) (hA : AOK A) : Ct X 0 (d + 3) MX7_keep [vR 7 0 [], vI x] w (qI fun u w' => u = (opKeep A x).1 ∧ ClsR w' (opKeep A x).2) := by
  unfold opKeep
  refine Ct.of (by decide) rfl (Nat.le_of_ble_eq_true rfl) ?_
  show Wq _ _ _ _ 0 [(0, _), (1, _)] [] _ _
  refine R_iload_n (i := 1) (q := 1) dX7_keep_0 rfl rfl rfl ?_
  refine R_cS1i (M' := MX7_isSlot) (q := 4) dX7_keep_1 ml_X7_247 mk_X7_isSlot (Nat.le_of_ble_eq_true rfl) rfl (c_isSlot) ?_
  rintro _ w ⟨rfl, rfl⟩
  refine R_if_neB (tgt := 9) (q := 7) dX7_keep_4 (by decide) rfl (fun c1 => ?_) (fun c1 => ?_)
  · rw [if_pos c1]
    obtain ⟨a, ha, rfl⟩ := inN_ex (by decide) c1
    rw [cl_nI (by omega)]
    refine R_aload_n (i := 0) (q := 10) dX7_keep_9 rfl rfl rfl ?_
    refine R_getR (q := 13) dX7_keep_10 fl_X7_36 rfl (by decide) rfl ?_
    refine R_iload_n (i := 1) (q := 14) dX7_keep_13 rfl rfl rfl ?_
    refine R_aload_n (i := 0) (q := 15) dX7_keep_14 rfl rfl rfl ?_
    refine R_getR (q := 18) dX7_keep_15 fl_X7_19 rfl (by decide) rfl ?_
    refine R_cV2v (M' := MX4_put) (q := 21) dX7_keep_18 ml_X7_250 mk_X4_put (Nat.le_of_ble_eq_true rfl) rfl (c_sput hR.2.2.2.1 hR.2.1 hA.2.1.2.2.1 ha) ?_
    rintro w1 ⟨hS1, hF1⟩
    have h9 : StA w1 [1] (aP A) := hR.2.1.fr hF1 (by simp) (by simp) (by simp) (by simp)
    refine R_aload_n (i := 0) (q := 22) dX7_keep_21 rfl rfl rfl ?_
    refine R_getR (q := 25) dX7_keep_22 fl_X7_19 rfl (by decide) rfl ?_
    refine R_getI' (q := 28) dX7_keep_25 fl_X7_97 rfl (h9.2.2.2.2.1) rfl ?_
    refine R_ri dX7_keep_28 rfl ?_
    refine ⟨rfl, ?_⟩
    obtain ⟨h1, h2, h3, h4, h5, h6⟩ := hR
    refine ⟨h1.fr hF1 (by simp) (by simp), h9, h3.fr hF1 (by simp) ?_, hS1, h5.fr hF1 (by simp) (by simp) (by simp), by rw [hF1.1]; exact h6⟩
    intro k _
    refine ⟨?_, ?_, ?_, ?_⟩ <;> simp
  · rw [if_neg c1]
    refine R_iconst (v := (-1)) (q := 8) dX7_keep_7 (by decide) rfl ?_
    refine R_ri dX7_keep_8 rfl ?_
    exact ⟨rfl, hR⟩
theorem c_again {x : Int32} (hR : ClsR w A) (hA : AOK A) : Ct X 0 (d + 3) MX7_again [vR 7 0 [], vI x] w (qI fun u w' => u = (opAgain A x).1 ∧ ClsR w' (opAgain A x).2) := by
  unfold opAgain
  refine Ct.of (by decide) rfl (Nat.le_of_ble_eq_true rfl) ?_
  show Wq _ _ _ _ 0 [(0, _), (1, _)] [] _ _
  refine R_iload_n (i := 1) (q := 1) dX7_again_0 rfl rfl rfl ?_
  refine R_cS1i (M' := MX7_isSlot) (q := 4) dX7_again_1 ml_X7_247 mk_X7_isSlot (Nat.le_of_ble_eq_true rfl) rfl (c_isSlot) ?_
  rintro _ w ⟨rfl, rfl⟩
  refine R_if_neB (tgt := 9) (q := 7) dX7_again_4 (by decide) rfl (fun c1 => ?_) (fun c1 => ?_)
  · rw [if_pos c1]
    obtain ⟨a, ha, rfl⟩ := inN_ex (by decide) c1
    rw [cl_nI (by omega)]
    refine R_aload_n (i := 0) (q := 10) dX7_again_9 rfl rfl rfl ?_
    refine R_getR (q := 13) dX7_again_10 fl_X7_36 rfl (by decide) rfl ?_
    refine R_iload_n (i := 1) (q := 14) dX7_again_13 rfl rfl rfl ?_
    refine R_aload_n (i := 0) (q := 15) dX7_again_14 rfl rfl rfl ?_
    refine R_getR (q := 18) dX7_again_15 fl_X7_19 rfl (by decide) rfl ?_
    refine R_cV2i (M' := MX4_takeInto) (q := 21) dX7_again_18 ml_X7_253 mk_X4_takeInto (Nat.le_of_ble_eq_true rfl) rfl (c_stake hR.2.2.2.1 (fun S hS => ((hA.2.2.2.2.1 a S hS).1).2.2.1) ha) ?_
    rintro z w1 hz
    rcases hz with ⟨e, rfl, rfl⟩ | ⟨S, e, rfl, hS1, hF1⟩
    · rw [e]
      refine R_if_ne (tgt := 27) (q := 24) dX7_again_21 (by decide) rfl (fun c2 => ?_) (fun c2 => ?_)
      · exact absurd rfl c2
      · refine R_bipush (v := (-3)) (q := 26) dX7_again_24 (by decide) rfl ?_
        refine R_ri dX7_again_26 rfl ?_
        exact ⟨rfl, hR⟩
    · rw [e]
      refine R_if_ne (tgt := 27) (q := 24) dX7_again_21 (by decide) rfl (fun c2 => ?_) (fun c2 => ?_)
      · refine R_aload_n (i := 0) (q := 28) dX7_again_27 rfl rfl rfl ?_
        refine R_getR (q := 31) dX7_again_28 fl_X7_29 rfl (by decide) rfl ?_
        refine R_cV0v (M' := MX0_forgetAll) (q := 34) dX7_again_31 ml_X7_81 mk_X0_forgetAll (Nat.le_of_ble_eq_true rfl) rfl (c_aforget) ?_
        rintro _ rfl
        have hF2 : Fr [[3]] w1 (uI w1 [3] 2 (nI 0)) := Fr.i (by simp)
        have hS2 := hS1.fr hF2 (by decide) (by decide) (by decide) (by decide)
        refine R_aload_n (i := 0) (q := 35) dX7_again_34 rfl rfl rfl ?_
        refine R_getR (q := 38) dX7_again_35 fl_X7_19 rfl (by decide) rfl ?_
        refine R_getI' (q := 41) dX7_again_38 fl_X7_97 rfl (hS2.2.2.2.2.1) rfl ?_
        refine R_ri dX7_again_41 rfl ?_
        refine ⟨rfl, ?_⟩
        have hF : Fr [[3], [1], [5, 1], [6, 1], [7, 1]] w (uI w1 [3] 2 (nI 0)) := (hF1.up (by decide)).tr (hF2.up (by decide))
        obtain ⟨h1, h2, h3, h4, h5, h6⟩ := hR
        obtain ⟨f, q1, q2, q3, q4⟩ := h3
        refine ⟨h1.fr hF (by decide) (by decide), hS2, ⟨f, q1, ?_, ?_, Nat.zero_le _, fun j S hj => by cases hj⟩, h4.fr hF (by decide) ?_, h5.fr hF (by decide) (by decide) (by decide), by rw [hF.1]; exact h6⟩
        · rw [uI_ne (by decide), hF1.2 _ (by decide)]
          exact q2
        · rw [uI_same]
          rfl
        · intro k _
          refine ⟨?_, ?_, ?_, ?_⟩ <;> simp
      · exact absurd c2 (by decide)
  · rw [if_neg c1]
    refine R_iconst (v := (-1)) (q := 8) dX7_again_7 (by decide) rfl ?_
    refine R_ri dX7_again_8 rfl ?_
    exact ⟨rfl, hR⟩
theorem c_seed {v : Int64} (hR : ClsR w A) : Ct X 0 d MX7_seed [vR 7 0 [], vL v] w (qL fun u w' => u = (opSeed A v).1 ∧ ClsR w' (opSeed A v).2) := by
  refine Ct.of (by decide) rfl (Nat.le_of_ble_eq_true rfl) ?_
  show Wq _ _ _ _ 0 [(0, _), (1, _)] [] _ _
  refine R_aload_n (i := 0) (q := 1) dX7_seed_0 rfl rfl rfl ?_
  refine R_getL (q := 4) dX7_seed_1 fl_X7_236 rfl rfl ?_
  refine R_lstore_n (i := 3) (q := 5) (loc' := [(3, _), (0, _), (1, _)]) dX7_seed_4 rfl (by decide) (by rfl) rfl ?_
  refine R_aload_n (i := 0) (q := 6) dX7_seed_5 rfl rfl rfl ?_
  refine R_lload_n (i := 1) (q := 7) dX7_seed_6 rfl rfl rfl ?_
  refine R_putL (q := 10) dX7_seed_7 fl_X7_236 rfl one7 rfl ?_
  refine R_lload_n (i := 3) (q := 11) dX7_seed_10 rfl rfl rfl ?_
  refine R_rl dX7_seed_11 rfl ?_
  obtain ⟨h1, h2, h3, h4, h5, h6⟩ := hR
  exact ⟨h6, h1, h2, h3, h4, h5, uL_same _ _ _⟩
end TH
