theorem RowA.toB {w w' : Wd} {q q' : List Nat} {o : Nat} {S : Pic} (h : RowA w q S) (hN : pN S ≤ 20) (e : ∀ x, x < 38 → w'.1 q' (o + x) = w.1 q x) : RowB w' q' o S :=
  ⟨fun s hs => (e s (by omega)).trans (h.1 s hs), fun k hk => (e (20 + k) (by omega)).trans (h.2.1 k hk), (e 36 (by decide)).trans h.2.2.1, (e 37 (by decide)).trans h.2.2.2⟩
theorem RowB.toA {w w' : Wd} {q q' : List Nat} {o : Nat} {S : Pic} (h : RowB w q o S) (hN : pN S ≤ 20) (e : ∀ x, x < 38 → w'.1 q' x = w.1 q (o + x)) : RowA w' q' S :=
  ⟨fun s hs => (e s (by omega)).trans (h.1 s hs), fun k hk => (e (20 + k) (by omega)).trans (h.2.1 k hk), (e 36 (by decide)).trans h.2.2.1, (e 37 (by decide)).trans h.2.2.2⟩
theorem RowB.toB {w w' : Wd} {q q' : List Nat} {o o' : Nat} {S : Pic} (h : RowB w q o S) (hN : pN S ≤ 20) (e : ∀ x, x < 38 → w'.1 q' (o' + x) = w.1 q (o + x)) : RowB w' q' o' S :=
  ⟨fun s hs => (e s (by omega)).trans (h.1 s hs), fun k hk => (e (20 + k) (by omega)).trans (h.2.1 k hk), (e 36 (by decide)).trans h.2.2.1, (e 37 (by decide)).trans h.2.2.2⟩
theorem sh_free {S : Pic} {r c : Nat} {z : Int32} (hN : pN S ≤ 20) (h : ShA S r c z) : z = -9 ↔ ∀ s, s < pN S → ¬ (pro S s = r ∧ pco S s = c) := by
  have hno : ∀ k, k ≤ 70 → nI k ≠ -9 := by decide
  rcases h with ⟨s, h1, h2, h3, h4⟩ | ⟨h1, h2⟩
  · constructor
    · intro h
      exact absurd (h4.symm.trans h) (hno s (by omega))
    · intro h
      exact absurd ⟨h2, h3⟩ (h s h1)
  · exact ⟨fun _ => h1, fun _ => h2⟩
theorem DimA.dm {w : Wd} {S T : Pic} (h : DimA w S) (hd : dm T S) : DimA w T := by
  unfold DimA
  rw [hd.1, hd.2.1, hd.2.2]
  exact h
section MG
variable {X : Cx} {d : Nat} {w : Wd} {A : Ab}
theorem l_note {w0 : Wd} {n : Nat} (hn : n < 14) (hnx : w0.1 [] 9 = nI n) (Q : Option AV → Wd → Prop) (kk : ∀ w, (∀ j, j < 38 → w.1 [7] (38 * n + j) = w0.1 [5] j) → (∀ j, j < 38 * n ∨ 38 * n + 38 ≤ j → w.1 [7] j = w0.1 [7] j) → Fr [[7]] w0 w → Wq X 1 d MX8_note 34 [(1, vI (nI 38)), (0, vR 8 0 [])] [] w Q) : ∀ (f k : Nat) (w : Wd), 38 ≤ k + f → k ≤ 38 → (∀ j, j < k → w.1 [7] (38 * n + j) = w0.1 [5] j) → (∀ j, j < 38 * n ∨ 38 * n + 38 ≤ j → w.1 [7] j = w0.1 [7] j) → Fr [[7]] w0 w → Wq X 1 d MX8_note 2 [(1, vI (nI k)), (0, vR 8 0 [])] [] w Q := by
  intro f
  induction f with
  | zero =>
    intro k w h1 h2 hj hj2 hF
    refine R_iload_n (i := 1) (q := 3) dX8_note_2 rfl rfl rfl ?_
    refine R_bipush (v := nI 38) (q := 5) dX8_note_3 (by decide) rfl ?_
    refine R_icmp_geN (by omega) (by omega) (tgt := 34) (q := 8) dX8_note_5 (by decide) rfl (fun c1 => ?_) (fun c1 => ?_)
    · obtain rfl : k = 38 := by omega
      exact kk w hj hj2 hF
    · omega
  | succ f ih =>
    intro k w h1 h2 hj hj2 hF
    have hn9 : w.1 [] 9 = nI n := by rw [hF.2 _ (by decide)]; exact hnx
    refine R_iload_n (i := 1) (q := 3) dX8_note_2 rfl rfl rfl ?_
    refine R_bipush (v := nI 38) (q := 5) dX8_note_3 (by decide) rfl ?_
    refine R_icmp_geN (by omega) (by omega) (tgt := 34) (q := 8) dX8_note_5 (by decide) rfl (fun c1 => ?_) (fun c1 => ?_)
    · obtain rfl : k = 38 := by omega
      exact kk w hj hj2 hF
    · refine R_aload_n (i := 0) (q := 9) dX8_note_8 rfl rfl rfl ?_
      refine R_getR (q := 12) dX8_note_9 fl_X8_19 rfl (by decide) rfl ?_
      refine R_bipush (v := nI 38) (q := 14) dX8_note_12 (by decide) rfl ?_
      refine R_aload_n (i := 0) (q := 15) dX8_note_14 rfl rfl rfl ?_
      refine R_getI' (q := 18) dX8_note_15 fl_X8_180 rfl (hn9) rfl ?_
      first | refine R_imulN (q := 19) dX8_note_18 rfl ?_ | refine R_imul (q := 19) dX8_note_18 rfl ?_
      refine R_iload_n (i := 1) (q := 20) dX8_note_19 rfl rfl rfl ?_
      first | refine R_iaddN (q := 21) dX8_note_20 rfl ?_ | refine R_iadd (q := 21) dX8_note_20 rfl ?_
      refine R_aload_n (i := 0) (q := 22) dX8_note_21 rfl rfl rfl ?_
      refine R_getR (q := 25) dX8_note_22 fl_X8_13 rfl (by decide) rfl ?_
      refine R_iload_n (i := 1) (q := 26) dX8_note_25 rfl rfl rfl ?_
      refine R_iald' (q := 27) dX8_note_26 (rfl) (by omega) (by decide) (congrFun (hF.2 [5] (by decide)) k) rfl ?_
      refine R_iast (q := 28) dX8_note_27 (rfl) (by omega) (by decide) rfl ?_
      first | refine R_iincN (q := 31) (loc' := [(1, _), (0, _)]) dX8_note_28 (by rfl) (by decide) (by rfl) rfl ?_ | refine R_iinc (q := 31) (loc' := [(1, _), (0, _)]) dX8_note_28 (by rfl) (by rfl) (by decide) (by rfl) rfl ?_
      refine R_goto (q := 2) dX8_note_31 (by decide) ?_
      refine ih (k + 1) _ (by omega) (by omega) ?_ ?_ (hF.tr (Fr.i (by simp)))
      · intro j hjk
        by_cases h : j = k
        · rw [h]; exact uI_same _ _ _ _
        · rw [uI_ne (by omega)]; exact hj j (by omega)
      · intro j hjk
        rw [uI_ne (by omega)]
        exact hj2 j hjk
theorem DiA_note {w0 w : Wd} {L : List Pic} {S : Pic} {n : Nat} (hn : n < 14) (hLN : ∀ T, T ∈ L → pN T ≤ 20) (hL : L.length ≤ 14) (hSN : pN S ≤ 20) (hS : RowA w0 [5] S) (hq : ∀ j T, L[j]? = some T → RowB w0 [7] (38 * ((n + 13 - j) % 14)) T) (h8 : w.1 [] 8 = nI (if L.length < 14 then L.length + 1 else 14)) (h9 : w.1 [] 9 = nI ((n + 1) % 14)) (hj : ∀ j, j < 38 → w.1 [7] (38 * n + j) = w0.1 [5] j) (hj2 : ∀ j, j < 38 * n ∨ 38 * n + 38 ≤ j → w.1 [7] j = w0.1 [7] j) : DiA w (S :: L.take 13) := by
  have hlen : (S :: L.take 13).length = if L.length < 14 then L.length + 1 else 14 := by
    rw [List.length_cons, List.length_take]
    split <;> omega
  refine ⟨(n + 1) % 14, Nat.mod_lt _ (by decide), by rw [hlen]; exact h8, h9, by rw [hlen]; split <;> omega, ?_⟩
  intro j T hjT
  match j, hjT with
  | 0, hjT =>
    cases hjT
    rw [show ((n + 1) % 14 + 13 - 0) % 14 = n by omega]
    exact hS.toB hSN hj
  | i + 1, hjT =>
    have hjT : (L.take 13)[i]? = some T := hjT
    rw [List.getElem?_take] at hjT
    by_cases hi : i < 13
    · rw [if_pos hi] at hjT
      have hm : ((n + 1) % 14 + 13 - (i + 1)) % 14 = (n + 13 - i) % 14 := by omega
      rw [hm]
      have hm2 : (n + 13 - i) % 14 ≠ n := by omega
      refine (hq i T hjT).toB (hLN T (List.mem_of_getElem? hjT)) ?_
      intro x hx
      exact hj2 _ (by omega)
    · rw [if_neg hi] at hjT
      cases hjT
theorem c_note {L : List Pic} {S : Pic} (hA : DiA w L) (hLN : ∀ T, T ∈ L → pN T ≤ 20) (hS : RowA w [5] S) (hN : pN S ≤ 20) : Ct X 1 d MX8_note [vR 8 0 []] w (qV fun w' => DiA w' (S :: L.take 13) ∧ Fm [[7]] [8, 9] w w') := by
  obtain ⟨n, hn, h8, h9, hL, hq⟩ := id hA
  refine Ct.of (by decide) rfl (Nat.le_of_ble_eq_true rfl) ?_
  show Wq _ _ _ _ 0 [(0, _)] [] _ _
  refine R_iconst (v := nI 0) (q := 1) dX8_note_0 (by decide) rfl ?_
  refine R_istore_n (i := 1) (q := 2) (loc' := [(1, _), (0, _)]) dX8_note_1 rfl (by decide) (by rfl) rfl ?_
  refine l_note (w0 := w) hn h9 _ ?_ 38 0 w (by omega) (by omega) (fun j hj => absurd hj (Nat.not_lt_zero j)) (fun _ _ => rfl) Fr.rf
  intro w1 hj hj2 hF
  have h89 : w1.1 [] 8 = nI L.length := by rw [hF.2 _ (by decide)]; exact h8
  have h99 : w1.1 [] 9 = nI n := by rw [hF.2 _ (by decide)]; exact h9
  refine R_aload_n (i := 0) (q := 35) dX8_note_34 rfl rfl rfl ?_
  refine R_aload_n (i := 0) (q := 36) dX8_note_35 rfl rfl rfl ?_
  refine R_getI' (q := 39) dX8_note_36 fl_X8_180 rfl (h99) rfl ?_
  refine R_iconst (v := nI 1) (q := 40) dX8_note_39 (by decide) rfl ?_
  first | refine R_iaddN (q := 41) dX8_note_40 rfl ?_ | refine R_iadd (q := 41) dX8_note_40 rfl ?_
  refine R_bipush (v := nI 14) (q := 43) dX8_note_41 (by decide) rfl ?_
  refine R_iremN (by omega) (by omega) (by omega) (q := 44) dX8_note_43 rfl ?_
  refine R_putI (q := 47) dX8_note_44 fl_X8_180 rfl rfl ?_
  refine R_aload_n (i := 0) (q := 48) dX8_note_47 rfl rfl rfl ?_
  refine R_aload_n (i := 0) (q := 49) dX8_note_48 rfl rfl rfl ?_
  refine R_getI' (q := 52) dX8_note_49 fl_X8_99 rfl ((uI_ne (by decide)).trans h89) rfl ?_
  refine R_bipush (v := nI 14) (q := 54) dX8_note_52 (by decide) rfl ?_
  refine R_icmp_geN (by omega) (by omega) (tgt := 66) (q := 57) dX8_note_54 (by decide) rfl (fun c1 => ?_) (fun c1 => ?_)
  · refine R_bipush (v := nI 14) (q := 68) dX8_note_66 (by decide) rfl ?_
    refine R_putI (q := 71) dX8_note_68 fl_X8_99 rfl rfl ?_
    refine R_rv dX8_note_71 rfl ?_
    refine ⟨DiA_note (w0 := w) hn hLN hL hN hS hq ?_ ?_ ?_ ?_, ((hF.m (by decide) (by decide)).tr (Fm.f (by decide))).tr (Fm.f (by decide))⟩
    · rw [if_neg (by omega)]
      exact uI_same _ _ _ _
    · exact (uI_ne (by decide)).trans (uI_same _ _ _ _)
    · intro j hjj
      rw [uI_nep (by decide), uI_nep (by decide)]
      exact hj j hjj
    · intro j hjj
      rw [uI_nep (by decide), uI_nep (by decide)]
      exact hj2 j hjj
  · refine R_aload_n (i := 0) (q := 58) dX8_note_57 rfl rfl rfl ?_
    refine R_getI' (q := 61) dX8_note_58 fl_X8_99 rfl ((uI_ne (by decide)).trans h89) rfl ?_
    refine R_iconst (v := nI 1) (q := 62) dX8_note_61 (by decide) rfl ?_
    first | refine R_iaddN (q := 63) dX8_note_62 rfl ?_ | refine R_iadd (q := 63) dX8_note_62 rfl ?_
    refine R_goto (q := 68) dX8_note_63 (by decide) ?_
    refine R_putI (q := 71) dX8_note_68 fl_X8_99 rfl rfl ?_
    refine R_rv dX8_note_71 rfl ?_
    refine ⟨DiA_note (w0 := w) hn hLN hL hN hS hq ?_ ?_ ?_ ?_, ((hF.m (by decide) (by decide)).tr (Fm.f (by decide))).tr (Fm.f (by decide))⟩
    · rw [if_pos (by omega)]
      exact uI_same _ _ _ _
    · exact (uI_ne (by decide)).trans (uI_same _ _ _ _)
    · intro j hjj
      rw [uI_nep (by decide), uI_nep (by decide)]
      exact hj j hjj
    · intro j hjj
      rw [uI_nep (by decide), uI_nep (by decide)]
      exact hj2 j hjj
theorem AOK.ln {A : Ab} (h : AOK A) : ∀ T, T ∈ aA A → pN T ≤ 20 := fun T hT => ((h.2.2.2.1 T hT).1).2.2.1
theorem dm.rf {S : Pic} : dm S S := ⟨rfl, rfl, rfl⟩
theorem c_mchange {x y : Int32} (hR : ModR w A) (hA : AOK A) : Ct X 1 (d + 4) MX8_change [vR 8 0 [], vI x, vI y] w (qI fun z w' => z = (opChange A x y).1 ∧ ModR w' (opChange A x y).2) := by
  obtain ⟨hOK1, hOK2, hOK3, hOK4, hOK5, hOK6, hOK7, hOK8⟩ := id hA.2.1
  obtain ⟨h1, h2, h3, h4, h5, h6⟩ := id hR
  unfold opChange
  refine Ct.of (by decide) rfl (Nat.le_of_ble_eq_true rfl) ?_
  show Wq _ _ _ _ 0 [(0, _), (1, _), (2, _)] [] _ _
  refine R_aload_n (i := 0) (q := 1) dX8_change_0 rfl rfl rfl ?_
  refine R_iload_n (i := 1) (q := 2) dX8_change_1 rfl rfl rfl ?_
  refine R_cV1i (M' := MX8_isShade) (q := 5) dX8_change_2 ml_X8_164 mk_X8_isShade (Nat.le_of_ble_eq_true rfl) rfl (c_isShade h2.1.2.2 hOK3) ?_
  rintro _ w ⟨rfl, rfl⟩
  refine R_if_eqB (tgt := 16) (q := 8) dX8_change_5 (by decide) rfl (fun c1 => ?_) (fun c1 => ?_)
  · rw [if_neg (fun h => c1 h.1)]
    refine R_iconst (v := (-1)) (q := 17) dX8_change_16 (by decide) rfl ?_
    refine R_ri dX8_change_17 rfl ?_
    exact ⟨rfl, hR⟩
  · refine R_aload_n (i := 0) (q := 9) dX8_change_8 rfl rfl rfl ?_
    refine R_iload_n (i := 2) (q := 10) dX8_change_9 rfl rfl rfl ?_
    refine R_cV1i (M' := MX8_isShade) (q := 13) dX8_change_10 ml_X8_164 mk_X8_isShade (Nat.le_of_ble_eq_true rfl) rfl (c_isShade h2.1.2.2 hOK3) ?_
    rintro _ w ⟨rfl, rfl⟩
    refine R_if_neB (tgt := 18) (q := 16) dX8_change_13 (by decide) rfl (fun c2 => ?_) (fun c2 => ?_)
    · rw [if_pos ⟨c1, c2⟩]
      obtain ⟨a, ha, rfl⟩ := inN_ex (by omega) c1
      obtain ⟨b, hb, rfl⟩ := inN_ex (by omega) c2
      rw [cl_nI (by omega), cl_nI (by omega)]
      refine R_iload_n (i := 1) (q := 19) dX8_change_18 rfl rfl rfl ?_
      refine R_iload_n (i := 2) (q := 20) dX8_change_19 rfl rfl rfl ?_
      refine R_icmp_neN (by omega) (by omega) (tgt := 26) (q := 23) dX8_change_20 (by decide) rfl (fun c3 => ?_) (fun c3 => ?_)
      · rw [if_neg (fun h => c3 ((nI_eq (by omega) (by omega)).mp h))]
        refine R_aload_n (i := 0) (q := 27) dX8_change_26 rfl rfl rfl ?_
        refine R_cV0v (M' := MX8_note) (q := 30) dX8_change_27 ml_X8_183 mk_X8_note (Nat.le_of_ble_eq_true rfl) rfl (c_note h3 hA.ln h2.2 hOK3) ?_
        rintro w1 ⟨hD1, hF1⟩
        refine R_aload_n (i := 0) (q := 31) dX8_change_30 rfl rfl rfl ?_
        refine R_getR (q := 34) dX8_change_31 fl_X8_13 rfl (by decide) rfl ?_
        refine R_iload_n (i := 1) (q := 35) dX8_change_34 rfl rfl rfl ?_
        refine R_iload_n (i := 2) (q := 36) dX8_change_35 rfl rfl rfl ?_
        refine R_cS3v (M' := MX8_changeOn) (q := 39) dX8_change_36 ml_X8_138 mk_X8_changeOn (Nat.le_of_ble_eq_true rfl) rfl (c_changeOn hOK3 ha hb (h2.2.fm hF1 (by decide) (by decide))) ?_
        rintro w2 ⟨hS2, hF2⟩
        have hR2 : ModR w2 (nx A (swP (aP A) a b)) := hR.act hD1 hF1 hS2 dm.rf hF2
        refine R_aload_n (i := 0) (q := 40) dX8_change_39 rfl rfl rfl ?_
        refine R_aload_n (i := 0) (q := 41) dX8_change_40 rfl rfl rfl ?_
        refine R_getR (q := 44) dX8_change_41 fl_X8_13 rfl (by decide) rfl ?_
        refine R_cV1i (M' := MX8_sides) (q := 47) dX8_change_44 ml_X8_130 mk_X8_sides (Nat.le_of_ble_eq_true rfl) rfl (c_sides (S := swP (aP A) a b) hR2.2.1.1.2.2 (hA.2.1.o.sw ha hb) hS2.1) ?_
        rintro _ w2 ⟨rfl, rfl⟩
        refine R_ri dX8_change_47 rfl ?_
        exact ⟨rfl, hR2⟩
      · rw [if_pos (by rw [c3])]
        refine R_bipush (v := (-3)) (q := 25) dX8_change_23 (by decide) rfl ?_
        refine R_ri dX8_change_25 rfl ?_
        exact ⟨rfl, hR⟩
    · rw [if_neg (fun h => c2 h.2)]
      refine R_iconst (v := (-1)) (q := 17) dX8_change_16 (by decide) rfl ?_
      refine R_ri dX8_change_17 rfl ?_
      exact ⟨rfl, hR⟩
theorem c_mmove {x y z : Int32} (hR : ModR w A) (hA : AOK A) : Ct X 1 (d + 4) MX8_move [vR 8 0 [], vI x, vI y, vI z] w (qI fun u w' => u = (opMove A x y z).1 ∧ ModR w' (opMove A x y z).2) := by
  obtain ⟨hOK1, hOK2, hOK3, hOK4, hOK5, hOK6, hOK7, hOK8⟩ := id hA.2.1
  obtain ⟨h1, h2, h3, h4, h5, h6⟩ := id hR
  unfold opMove
  refine Ct.of (by decide) rfl (Nat.le_of_ble_eq_true rfl) ?_
  show Wq _ _ _ _ 0 [(0, _), (1, _), (2, _), (3, _)] [] _ _
  refine R_aload_n (i := 0) (q := 1) dX8_move_0 rfl rfl rfl ?_
  refine R_iload_n (i := 1) (q := 2) dX8_move_1 rfl rfl rfl ?_
  refine R_cV1i (M' := MX8_isShade) (q := 5) dX8_move_2 ml_X8_164 mk_X8_isShade (Nat.le_of_ble_eq_true rfl) rfl (c_isShade h2.1.2.2 hOK3) ?_
  rintro _ w ⟨rfl, rfl⟩
  refine R_if_eqB (tgt := 17) (q := 8) dX8_move_5 (by decide) rfl (fun c1 => ?_) (fun c1 => ?_)
  · rw [if_neg (fun h => c1 h.1)]
    refine R_iconst (v := (-1)) (q := 18) dX8_move_17 (by decide) rfl ?_
    refine R_ri dX8_move_18 rfl ?_
    exact ⟨rfl, hR⟩
  · refine R_aload_n (i := 0) (q := 9) dX8_move_8 rfl rfl rfl ?_
    refine R_iload_n (i := 2) (q := 10) dX8_move_9 rfl rfl rfl ?_
    refine R_iload_n (i := 3) (q := 11) dX8_move_10 rfl rfl rfl ?_
    refine R_cV2i (M' := MX8_isCell) (q := 14) dX8_move_11 ml_X8_171 mk_X8_isCell (Nat.le_of_ble_eq_true rfl) rfl (c_isCell h2.1 hOK1.2 hOK2.2) ?_
    rintro _ w ⟨rfl, rfl⟩
    refine R_if_neB (tgt := 19) (q := 17) dX8_move_14 (by decide) rfl (fun c2 => ?_) (fun c2 => ?_)
    · rw [if_pos ⟨c1, c2.1, c2.2⟩]
      obtain ⟨s, hs, rfl⟩ := inN_ex (by omega) c1
      obtain ⟨a, ha, rfl⟩ := inN_ex (by omega) c2.1
      obtain ⟨b, hb, rfl⟩ := inN_ex (by omega) c2.2
      rw [cl_nI (by omega), cl_nI (by omega), cl_nI (by omega)]
      refine R_aload_n (i := 0) (q := 20) dX8_move_19 rfl rfl rfl ?_
      refine R_bipush (v := nI 6) (q := 22) dX8_move_20 (by decide) rfl ?_
      refine R_iload_n (i := 2) (q := 23) dX8_move_22 rfl rfl rfl ?_
      first | refine R_imulN (q := 24) dX8_move_23 rfl ?_ | refine R_imul (q := 24) dX8_move_23 rfl ?_
      refine R_iload_n (i := 3) (q := 25) dX8_move_24 rfl rfl rfl ?_
      first | refine R_iaddN (q := 26) dX8_move_25 rfl ?_ | refine R_iadd (q := 26) dX8_move_25 rfl ?_
      refine R_cV1i (M' := MX8_shadeAt) (q := 29) dX8_move_26 ml_X8_174 mk_X8_shadeAt (Nat.le_of_ble_eq_true rfl) rfl (c_shadeAt h2 hA.2.1.o (by omega) (by omega)) ?_
      rintro u w ⟨hz, rfl⟩
      have hfr := sh_free hOK3 hz
      refine R_bipush (v := (-9)) (q := 31) dX8_move_29 (by decide) rfl ?_
      refine R_icmp_eq (tgt := 37) (q := 34) dX8_move_31 (by decide) rfl (fun c3 => ?_) (fun c3 => ?_)
      · rw [if_pos (hfr.mp c3)]
        refine R_aload_n (i := 0) (q := 38) dX8_move_37 rfl rfl rfl ?_
        refine R_cV0v (M' := MX8_note) (q := 41) dX8_move_38 ml_X8_183 mk_X8_note (Nat.le_of_ble_eq_true rfl) rfl (c_note h3 hA.ln h2.2 hOK3) ?_
        rintro w1 ⟨hD1, hF1⟩
        have hS1 := h2.2.fm hF1 (by decide) (by decide)
        refine R_aload_n (i := 0) (q := 42) dX8_move_41 rfl rfl rfl ?_
        refine R_getR (q := 45) dX8_move_42 fl_X8_13 rfl (by decide) rfl ?_
        refine R_iload_n (i := 1) (q := 46) dX8_move_45 rfl rfl rfl ?_
        refine R_bipush (v := nI 6) (q := 48) dX8_move_46 (by decide) rfl ?_
        refine R_iload_n (i := 2) (q := 49) dX8_move_48 rfl rfl rfl ?_
        first | refine R_imulN (q := 50) dX8_move_49 rfl ?_ | refine R_imul (q := 50) dX8_move_49 rfl ?_
        refine R_iload_n (i := 3) (q := 51) dX8_move_50 rfl rfl rfl ?_
        first | refine R_iaddN (q := 52) dX8_move_51 rfl ?_ | refine R_iadd (q := 52) dX8_move_51 rfl ?_
        refine R_iast (q := 53) dX8_move_52 (rfl) (by omega) (by decide) rfl ?_
        have hS2 : RowA (uI w1 [5] s (nI (6 * a + b))) [5] (puP (aP A) s a b) := RowA_pu hOK3 hs hS1
        have hR2 : ModR (uI w1 [5] s (nI (6 * a + b))) (nx A (puP (aP A) s a b)) := hR.act hD1 hF1 hS2 dm.rf (Fr.i (by simp))
        refine R_aload_n (i := 0) (q := 54) dX8_move_53 rfl rfl rfl ?_
        refine R_aload_n (i := 0) (q := 55) dX8_move_54 rfl rfl rfl ?_
        refine R_getR (q := 58) dX8_move_55 fl_X8_13 rfl (by decide) rfl ?_
        refine R_cV1i (M' := MX8_sides) (q := 61) dX8_move_58 ml_X8_130 mk_X8_sides (Nat.le_of_ble_eq_true rfl) rfl (c_sides (S := puP (aP A) s a b) hR2.2.1.1.2.2 (hA.2.1.o.pu (by omega) (by omega)) hS2.1) ?_
        rintro _ w2 ⟨rfl, rfl⟩
        refine R_ri dX8_move_61 rfl ?_
        exact ⟨rfl, hR2⟩
      · rw [if_neg (fun h => c3 (hfr.mpr h))]
        refine R_bipush (v := (-3)) (q := 36) dX8_move_34 (by decide) rfl ?_
        refine R_ri dX8_move_36 rfl ?_
        exact ⟨rfl, hR⟩
    · rw [if_neg (fun h => c2 h.2)]
      refine R_iconst (v := (-1)) (q := 18) dX8_move_17 (by decide) rfl ?_
      refine R_ri dX8_move_18 rfl ?_
      exact ⟨rfl, hR⟩
theorem c_mlay {x : Int32} (hR : ModR w A) (hA : AOK A) : Ct X 1 (d + 4) MX8_lay [vR 8 0 [], vI x] w (qI fun u w' => u = (opLay A x).1 ∧ ModR w' (opLay A x).2) := by
  obtain ⟨hOK1, hOK2, hOK3, hOK4, hOK5, hOK6, hOK7, hOK8⟩ := id hA.2.1
  obtain ⟨h1, h2, h3, h4, h5, h6⟩ := id hR
  unfold opLay
  refine Ct.of (by decide) rfl (Nat.le_of_ble_eq_true rfl) ?_
  show Wq _ _ _ _ 0 [(0, _), (1, _)] [] _ _
  refine R_iload_n (i := 1) (q := 1) dX8_lay_0 rfl rfl rfl ?_
  refine R_i2l (q := 2) dX8_lay_1 rfl ?_
  refine R_lconst (v := 0) (q := 3) dX8_lay_2 (by decide) rfl ?_
  refine R_ldc2 (q := 6) dX8_lay_3 kc_X8_186 rfl ?_
  refine R_cS3i (M' := MX8_in) (q := 9) dX8_lay_6 ml_X8_57 mk_X8_in (Nat.le_of_ble_eq_true rfl) rfl (c_in) ?_
  rintro _ w ⟨rfl, rfl⟩
  rw [bI_iff (in64 (n := 6) (by decide) rfl)]
  refine R_if_neB (tgt := 15) (q := 12) dX8_lay_9 (by decide) rfl (fun c1 => ?_) (fun c1 => ?_)
  · rw [if_pos c1]
    obtain ⟨b, hb, rfl⟩ := inN_ex (by decide) c1
    rw [cl_nI (by omega)]
    refine R_aload_n (i := 0) (q := 16) dX8_lay_15 rfl rfl rfl ?_
    refine R_getR (q := 19) dX8_lay_16 fl_X8_13 rfl (by decide) rfl ?_
    refine R_aload_n (i := 0) (q := 20) dX8_lay_19 rfl rfl rfl ?_
    refine R_getR (q := 23) dX8_lay_20 fl_X8_16 rfl (by decide) rfl ?_
    refine R_cS2v (M' := MX8_copy) (q := 26) dX8_lay_23 ml_X8_134 mk_X8_copy (Nat.le_of_ble_eq_true rfl) rfl (c_mcopy (by decide) hOK3 h2.2) ?_
    rintro w1 ⟨hS1, hF1⟩
    refine R_aload_n (i := 0) (q := 27) dX8_lay_26 rfl rfl rfl ?_
    refine R_aload_n (i := 0) (q := 28) dX8_lay_27 rfl rfl rfl ?_
    refine R_getR (q := 31) dX8_lay_28 fl_X8_16 rfl (by decide) rfl ?_
    refine R_iload_n (i := 1) (q := 32) dX8_lay_31 rfl rfl rfl ?_
    refine R_cV2i (M' := MX8_layOn) (q := 35) dX8_lay_32 ml_X8_145 mk_X8_layOn (Nat.le_of_ble_eq_true rfl) rfl (c_layOn (by decide) (h2.1.fr hF1 (by decide)) hOK1 hOK2 hOK3 hb hS1) ?_
    rintro _ w2 ⟨rfl, hS2, hF2⟩
    have hR2 := hR.sc ((hF1.tr hF2).m (by decide) (by decide))
    refine R_if_neB (tgt := 41) (q := 38) dX8_lay_35 (by decide) rfl (fun c2 => ?_) (fun c2 => ?_)
    · rw [if_pos c2]
      obtain ⟨q1, q2, q3, q4, q5, q6⟩ := id hR2
      refine R_aload_n (i := 0) (q := 42) dX8_lay_41 rfl rfl rfl ?_
      refine R_cV0v (M' := MX8_note) (q := 45) dX8_lay_42 ml_X8_183 mk_X8_note (Nat.le_of_ble_eq_true rfl) rfl (c_note q3 hA.ln q2.2 hOK3) ?_
      rintro w3 ⟨hD3, hF3⟩
      refine R_aload_n (i := 0) (q := 46) dX8_lay_45 rfl rfl rfl ?_
      refine R_getR (q := 49) dX8_lay_46 fl_X8_16 rfl (by decide) rfl ?_
      refine R_aload_n (i := 0) (q := 50) dX8_lay_49 rfl rfl rfl ?_
      refine R_getR (q := 53) dX8_lay_50 fl_X8_13 rfl (by decide) rfl ?_
      refine R_cS2v (M' := MX8_copy) (q := 56) dX8_lay_53 ml_X8_134 mk_X8_copy (Nat.le_of_ble_eq_true rfl) rfl (c_mcopy (S := layS (aP A) b) (by decide) hOK3 (hS2.fm hF3 (by decide) (by decide))) ?_
      rintro w4 ⟨hS4, hF4⟩
      have hR4 : ModR w4 (nx A (layS (aP A) b)) := hR2.act hD3 hF3 hS4 dm.rf hF4
      have hO2 : OKo (layS (aP A) b) := ⟨hOK3, fun s hs => by have := lay_in hOK1 hOK2 hb hs c2; omega, hA.2.1.o.2.2⟩
      refine R_aload_n (i := 0) (q := 57) dX8_lay_56 rfl rfl rfl ?_
      refine R_aload_n (i := 0) (q := 58) dX8_lay_57 rfl rfl rfl ?_
      refine R_getR (q := 61) dX8_lay_58 fl_X8_13 rfl (by decide) rfl ?_
      refine R_cV1i (M' := MX8_sides) (q := 64) dX8_lay_61 ml_X8_130 mk_X8_sides (Nat.le_of_ble_eq_true rfl) rfl (c_sides (S := layS (aP A) b) hR4.2.1.1.2.2 hO2 hS4.1) ?_
      rintro _ w4 ⟨rfl, rfl⟩
      refine R_ri dX8_lay_64 rfl ?_
      exact ⟨rfl, hR4⟩
    · rw [if_neg c2]
      refine R_bipush (v := (-3)) (q := 40) dX8_lay_38 (by decide) rfl ?_
      refine R_ri dX8_lay_40 rfl ?_
      exact ⟨rfl, hR2⟩
  · rw [if_neg c1]
    refine R_bipush (v := (-2)) (q := 14) dX8_lay_12 (by decide) rfl ?_
    refine R_ri dX8_lay_14 rfl ?_
    exact ⟨rfl, hR⟩
theorem c_mpaint {x y z : Int32} (hR : ModR w A) (hA : AOK A) : Ct X 1 (d + 2) MX8_paint [vR 8 0 [], vI x, vI y, vI z] w (qI fun u w' => u = (opPaint A x y z).1 ∧ ModR w' (opPaint A x y z).2) := by
  obtain ⟨hOK1, hOK2, hOK3, hOK4, hOK5, hOK6, hOK7, hOK8⟩ := id hA.2.1
  obtain ⟨h1, h2, h3, h4, h5, h6⟩ := id hR
  unfold opPaint
  refine Ct.of (by decide) rfl (Nat.le_of_ble_eq_true rfl) ?_
  show Wq _ _ _ _ 0 [(0, _), (1, _), (2, _), (3, _)] [] _ _
  refine R_iload_n (i := 1) (q := 1) dX8_paint_0 rfl rfl rfl ?_
  refine R_cS1i (M' := MX8_isFour) (q := 4) dX8_paint_1 ml_X8_177 mk_X8_isFour (Nat.le_of_ble_eq_true rfl) rfl (c_isFour) ?_
  rintro _ w ⟨rfl, rfl⟩
  refine R_if_eqB (tgt := 22) (q := 7) dX8_paint_4 (by decide) rfl (fun c1 => ?_) (fun c1 => ?_)
  · rw [if_neg (fun h => c1 h.1)]
    refine R_iconst (v := (-1)) (q := 23) dX8_paint_22 (by decide) rfl ?_
    refine R_ri dX8_paint_23 rfl ?_
    exact ⟨rfl, hR⟩
  · refine R_iload_n (i := 2) (q := 8) dX8_paint_7 rfl rfl rfl ?_
    refine R_cS1i (M' := MX8_isFour) (q := 11) dX8_paint_8 ml_X8_177 mk_X8_isFour (Nat.le_of_ble_eq_true rfl) rfl (c_isFour) ?_
    rintro _ w ⟨rfl, rfl⟩
    refine R_if_eqB (tgt := 22) (q := 14) dX8_paint_11 (by decide) rfl (fun c2 => ?_) (fun c2 => ?_)
    · rw [if_neg (fun h => c2 h.2.1)]
      refine R_iconst (v := (-1)) (q := 23) dX8_paint_22 (by decide) rfl ?_
      refine R_ri dX8_paint_23 rfl ?_
      exact ⟨rfl, hR⟩
    · refine R_aload_n (i := 0) (q := 15) dX8_paint_14 rfl rfl rfl ?_
      refine R_iload_n (i := 3) (q := 16) dX8_paint_15 rfl rfl rfl ?_
      refine R_cV1i (M' := MX8_isShade) (q := 19) dX8_paint_16 ml_X8_164 mk_X8_isShade (Nat.le_of_ble_eq_true rfl) rfl (c_isShade h2.1.2.2 hOK3) ?_
      rintro _ w ⟨rfl, rfl⟩
      refine R_if_neB (tgt := 24) (q := 22) dX8_paint_19 (by decide) rfl (fun c3 => ?_) (fun c3 => ?_)
      · rw [if_pos ⟨c1, c2, c3⟩]
        obtain ⟨a, ha, rfl⟩ := inN_ex (by decide) c1
        obtain ⟨b, hb, rfl⟩ := inN_ex (by decide) c2
        obtain ⟨s, hs, rfl⟩ := inN_ex (by omega) c3
        rw [cl_nI (by omega), cl_nI (by omega), cl_nI (by omega), show a * 4 + b = 4 * a + b by omega]
        refine R_aload_n (i := 0) (q := 25) dX8_paint_24 rfl rfl rfl ?_
        refine R_cV0v (M' := MX8_note) (q := 28) dX8_paint_25 ml_X8_183 mk_X8_note (Nat.le_of_ble_eq_true rfl) rfl (c_note h3 hA.ln h2.2 hOK3) ?_
        rintro w1 ⟨hD1, hF1⟩
        have hS1 := h2.2.fm hF1 (by decide) (by decide)
        refine R_aload_n (i := 0) (q := 29) dX8_paint_28 rfl rfl rfl ?_
        refine R_getR (q := 32) dX8_paint_29 fl_X8_13 rfl (by decide) rfl ?_
        refine R_bipush (v := nI 20) (q := 34) dX8_paint_32 (by decide) rfl ?_
        refine R_iconst (v := nI 4) (q := 35) dX8_paint_34 (by decide) rfl ?_
        refine R_iload_n (i := 1) (q := 36) dX8_paint_35 rfl rfl rfl ?_
        first | refine R_imulN (q := 37) dX8_paint_36 rfl ?_ | refine R_imul (q := 37) dX8_paint_36 rfl ?_
        first | refine R_iaddN (q := 38) dX8_paint_37 rfl ?_ | refine R_iadd (q := 38) dX8_paint_37 rfl ?_
        refine R_iload_n (i := 2) (q := 39) dX8_paint_38 rfl rfl rfl ?_
        first | refine R_iaddN (q := 40) dX8_paint_39 rfl ?_ | refine R_iadd (q := 40) dX8_paint_39 rfl ?_
        refine R_iald' (q := 41) dX8_paint_40 (congrArg nI (show 20 + 4 * a + b = 20 + (4 * a + b) by omega)) (by omega) (by decide) (hS1.2.1 (4 * a + b) (by omega)) rfl ?_
        refine R_istore (q := 43) (loc' := [(4, _), (0, _), (1, _), (2, _), (3, _)]) dX8_paint_41 (by decide) (by rfl) rfl ?_
        refine R_aload_n (i := 0) (q := 44) dX8_paint_43 rfl rfl rfl ?_
        refine R_getR (q := 47) dX8_paint_44 fl_X8_13 rfl (by decide) rfl ?_
        refine R_bipush (v := nI 20) (q := 49) dX8_paint_47 (by decide) rfl ?_
        refine R_iconst (v := nI 4) (q := 50) dX8_paint_49 (by decide) rfl ?_
        refine R_iload_n (i := 1) (q := 51) dX8_paint_50 rfl rfl rfl ?_
        first | refine R_imulN (q := 52) dX8_paint_51 rfl ?_ | refine R_imul (q := 52) dX8_paint_51 rfl ?_
        first | refine R_iaddN (q := 53) dX8_paint_52 rfl ?_ | refine R_iadd (q := 53) dX8_paint_52 rfl ?_
        refine R_iload_n (i := 2) (q := 54) dX8_paint_53 rfl rfl rfl ?_
        first | refine R_iaddN (q := 55) dX8_paint_54 rfl ?_ | refine R_iadd (q := 55) dX8_paint_54 rfl ?_
        refine R_iload_n (i := 3) (q := 56) dX8_paint_55 rfl rfl rfl ?_
        refine R_iast (q := 57) dX8_paint_56 (congrArg nI (show 20 + 4 * a + b = 20 + (4 * a + b) by omega)) (by omega) (by decide) rfl ?_
        refine R_iload (q := 59) dX8_paint_57 rfl rfl ?_
        refine R_ri dX8_paint_59 rfl ?_
        exact ⟨rfl, hR.act hD1 hF1 (RowA_dt hOK3 (by omega) hS1) dm.rf (Fr.i (by simp))⟩
      · rw [if_neg (fun h => c3 h.2.2)]
        refine R_iconst (v := (-1)) (q := 23) dX8_paint_22 (by decide) rfl ?_
        refine R_ri dX8_paint_23 rfl ?_
        exact ⟨rfl, hR⟩
theorem c_mshift {x : Int32} (hR : ModR w A) (hA : AOK A) : Ct X 1 (d + 2) MX8_shift [vR 8 0 [], vI x] w (qI fun u w' => u = (opShift A x).1 ∧ ModR w' (opShift A x).2) := by
  obtain ⟨hOK1, hOK2, hOK3, hOK4, hOK5, hOK6, hOK7, hOK8⟩ := id hA.2.1
  obtain ⟨h1, h2, h3, h4, h5, h6⟩ := id hR
  unfold opShift
  refine Ct.of (by decide) rfl (Nat.le_of_ble_eq_true rfl) ?_
  show Wq _ _ _ _ 0 [(0, _), (1, _)] [] _ _
  refine R_iload_n (i := 1) (q := 1) dX8_shift_0 rfl rfl rfl ?_
  refine R_cS1i (M' := MX8_isFour) (q := 4) dX8_shift_1 ml_X8_177 mk_X8_isFour (Nat.le_of_ble_eq_true rfl) rfl (c_isFour) ?_
  rintro _ w ⟨rfl, rfl⟩
  refine R_if_neB (tgt := 10) (q := 7) dX8_shift_4 (by decide) rfl (fun c1 => ?_) (fun c1 => ?_)
  · rw [if_pos c1]
    obtain ⟨a, ha, rfl⟩ := inN_ex (by decide) c1
    rw [cl_nI (by omega)]
    refine R_aload_n (i := 0) (q := 11) dX8_shift_10 rfl rfl rfl ?_
    refine R_cV0v (M' := MX8_note) (q := 14) dX8_shift_11 ml_X8_183 mk_X8_note (Nat.le_of_ble_eq_true rfl) rfl (c_note h3 hA.ln h2.2 hOK3) ?_
    rintro w1 ⟨hD1, hF1⟩
    have hS1 := h2.2.fm hF1 (by decide) (by decide)
    refine R_aload_n (i := 0) (q := 15) dX8_shift_14 rfl rfl rfl ?_
    refine R_getR (q := 18) dX8_shift_15 fl_X8_13 rfl (by decide) rfl ?_
    refine R_bipush (v := nI 36) (q := 20) dX8_shift_18 (by decide) rfl ?_
    refine R_iald' (q := 21) dX8_shift_20 (rfl) (by omega) (by decide) (hS1.2.2.1) rfl ?_
    refine R_istore_n (i := 2) (q := 22) (loc' := [(2, _), (0, _), (1, _)]) dX8_shift_21 rfl (by decide) (by rfl) rfl ?_
    refine R_aload_n (i := 0) (q := 23) dX8_shift_22 rfl rfl rfl ?_
    refine R_getR (q := 26) dX8_shift_23 fl_X8_13 rfl (by decide) rfl ?_
    refine R_bipush (v := nI 36) (q := 28) dX8_shift_26 (by decide) rfl ?_
    refine R_iload_n (i := 1) (q := 29) dX8_shift_28 rfl rfl rfl ?_
    refine R_iast (q := 30) dX8_shift_29 (rfl) (by omega) (by decide) rfl ?_
    refine R_iload_n (i := 2) (q := 31) dX8_shift_30 rfl rfl rfl ?_
    refine R_ri dX8_shift_31 rfl ?_
    exact ⟨rfl, hR.act hD1 hF1 (RowA_sh hOK3 hS1) dm.rf (Fr.i (by simp))⟩
  · rw [if_neg c1]
    refine R_bipush (v := (-2)) (q := 9) dX8_shift_7 (by decide) rfl ?_
    refine R_ri dX8_shift_9 rfl ?_
    exact ⟨rfl, hR⟩
theorem c_mlose {x : Int32} (hR : ModR w A) (hA : AOK A) : Ct X 1 (d + 2) MX8_lose [vR 8 0 [], vI x] w (qI fun u w' => u = (opLose A x).1 ∧ ModR w' (opLose A x).2) := by
  obtain ⟨hOK1, hOK2, hOK3, hOK4, hOK5, hOK6, hOK7, hOK8⟩ := id hA.2.1
  obtain ⟨h1, h2, h3, h4, h5, h6⟩ := id hR
  unfold opLose
  refine Ct.of (by decide) rfl (Nat.le_of_ble_eq_true rfl) ?_
  show Wq _ _ _ _ 0 [(0, _), (1, _)] [] _ _
  refine R_iload_n (i := 1) (q := 1) dX8_lose_0 rfl rfl rfl ?_
  refine R_cS1i (M' := MX8_isFour) (q := 4) dX8_lose_1 ml_X8_177 mk_X8_isFour (Nat.le_of_ble_eq_true rfl) rfl (c_isFour) ?_
  rintro _ w ⟨rfl, rfl⟩
  refine R_if_neB (tgt := 9) (q := 7) dX8_lose_4 (by decide) rfl (fun c1 => ?_) (fun c1 => ?_)
  · rw [if_pos c1]
    obtain ⟨a, ha, rfl⟩ := inN_ex (by decide) c1
    rw [cl_nI (by omega)]
    refine R_aload_n (i := 0) (q := 10) dX8_lose_9 rfl rfl rfl ?_
    refine R_cV0v (M' := MX8_note) (q := 13) dX8_lose_10 ml_X8_183 mk_X8_note (Nat.le_of_ble_eq_true rfl) rfl (c_note h3 hA.ln h2.2 hOK3) ?_
    rintro w1 ⟨hD1, hF1⟩
    have hS1 := h2.2.fm hF1 (by decide) (by decide)
    have hbl := bitN_lt (pL (aP A) ^^^ 2 ^ a) a
    refine R_aload_n (i := 0) (q := 14) dX8_lose_13 rfl rfl rfl ?_
    refine R_getR (q := 17) dX8_lose_14 fl_X8_13 rfl (by decide) rfl ?_
    refine R_bipush (v := nI 37) (q := 19) dX8_lose_17 (by decide) rfl ?_
    refine R_dup2 (q := 20) dX8_lose_19 rfl rfl rfl ?_
    refine R_iald' (q := 21) dX8_lose_20 (rfl) (by omega) (by decide) (hS1.2.2.2) rfl ?_
    refine R_iconst (v := nI 1) (q := 22) dX8_lose_21 (by decide) rfl ?_
    refine R_iload_n (i := 1) (q := 23) dX8_lose_22 rfl rfl rfl ?_
    refine R_ishl (q := 24) dX8_lose_23 rfl ?_
    refine R_ixor (q := 25) dX8_lose_24 rfl ?_
    rw [(xor_fin _ hOK5 a ha).1]
    have hR2 : ModR (uI w1 [5] 37 (nI (pL (aP A) ^^^ 2 ^ a))) (nx A (loP (aP A) a)) := hR.act hD1 hF1 (RowA_lo hOK3 hS1) dm.rf (Fr.i (by simp))
    refine R_iast (q := 26) dX8_lose_25 (rfl) (by omega) (by decide) rfl ?_
    refine R_aload_n (i := 0) (q := 27) dX8_lose_26 rfl rfl rfl ?_
    refine R_getR (q := 30) dX8_lose_27 fl_X8_13 rfl (by decide) rfl ?_
    refine R_bipush (v := nI 37) (q := 32) dX8_lose_30 (by decide) rfl ?_
    refine R_iald' (q := 33) dX8_lose_32 (rfl) (by omega) (by decide) (uI_same _ _ _ _) rfl ?_
    refine R_iload_n (i := 1) (q := 34) dX8_lose_33 rfl rfl rfl ?_
    refine R_cS2i (M' := MX8_has) (q := 37) dX8_lose_34 ml_X8_114 mk_X8_has (Nat.le_of_ble_eq_true rfl) rfl (c_has (xor_fin _ hOK5 a ha).2 ha) ?_
    rintro _ w2 ⟨rfl, rfl⟩
    refine R_if_eqB (tgt := 44) (q := 40) dX8_lose_37 (by decide) rfl (fun c2 => ?_) (fun c2 => ?_)
    · refine R_iconst (v := nI 0) (q := 45) dX8_lose_44 (by decide) rfl ?_
      refine R_ri dX8_lose_45 rfl ?_
      exact ⟨by rw [show bitN (pL (aP A) ^^^ 2 ^ a) a = 0 by omega], hR2⟩
    · refine R_iconst (v := nI 1) (q := 41) dX8_lose_40 (by decide) rfl ?_
      refine R_goto (q := 45) dX8_lose_41 (by decide) ?_
      refine R_ri dX8_lose_45 rfl ?_
      exact ⟨by rw [c2], hR2⟩
  · rw [if_neg c1]
    refine R_iconst (v := (-1)) (q := 8) dX8_lose_7 (by decide) rfl ?_
    refine R_ri dX8_lose_8 rfl ?_
    exact ⟨rfl, hR⟩
theorem l_mundo {w0 : Wd} {m n : Nat} (hm : m < 14) (hnx : w0.1 [] 9 = nI m) (hac : w0.1 [] 8 = nI n) (P : Int32 → Wd → Prop) (kk : ∀ w, (∀ j, j < 38 → w.1 [5] j = w0.1 [7] (38 * m + j)) → Fr [[5]] w0 w → P (nI n) w) : ∀ (f k : Nat) (w : Wd), 38 ≤ k + f → k ≤ 38 → (∀ j, j < k → w.1 [5] j = w0.1 [7] (38 * m + j)) → Fr [[5]] w0 w → Wq X 1 d MX8_undo 38 [(1, vI (nI k)), (0, vR 8 0 [])] [] w (qI P) := by
  intro f
  induction f with
  | zero =>
    intro k w h1 h2 hj hF
    have hn8 : w.1 [] 8 = nI n := by rw [hF.2 _ (by decide)]; exact hac
    refine R_iload_n (i := 1) (q := 39) dX8_undo_38 rfl rfl rfl ?_
    refine R_bipush (v := nI 38) (q := 41) dX8_undo_39 (by decide) rfl ?_
    refine R_icmp_geN (by omega) (by omega) (tgt := 70) (q := 44) dX8_undo_41 (by decide) rfl (fun c1 => ?_) (fun c1 => ?_)
    · obtain rfl : k = 38 := by omega
      refine R_aload_n (i := 0) (q := 71) dX8_undo_70 rfl rfl rfl ?_
      refine R_getI' (q := 74) dX8_undo_71 fl_X8_99 rfl (hn8) rfl ?_
      refine R_ri dX8_undo_74 rfl ?_
      exact kk w hj hF
    · omega
  | succ f ih =>
    intro k w h1 h2 hj hF
    have hn8 : w.1 [] 8 = nI n := by rw [hF.2 _ (by decide)]; exact hac
    have hn9 : w.1 [] 9 = nI m := by rw [hF.2 _ (by decide)]; exact hnx
    refine R_iload_n (i := 1) (q := 39) dX8_undo_38 rfl rfl rfl ?_
    refine R_bipush (v := nI 38) (q := 41) dX8_undo_39 (by decide) rfl ?_
    refine R_icmp_geN (by omega) (by omega) (tgt := 70) (q := 44) dX8_undo_41 (by decide) rfl (fun c1 => ?_) (fun c1 => ?_)
    · obtain rfl : k = 38 := by omega
      refine R_aload_n (i := 0) (q := 71) dX8_undo_70 rfl rfl rfl ?_
      refine R_getI' (q := 74) dX8_undo_71 fl_X8_99 rfl (hn8) rfl ?_
      refine R_ri dX8_undo_74 rfl ?_
      exact kk w hj hF
    · refine R_aload_n (i := 0) (q := 45) dX8_undo_44 rfl rfl rfl ?_
      refine R_getR (q := 48) dX8_undo_45 fl_X8_13 rfl (by decide) rfl ?_
      refine R_iload_n (i := 1) (q := 49) dX8_undo_48 rfl rfl rfl ?_
      refine R_aload_n (i := 0) (q := 50) dX8_undo_49 rfl rfl rfl ?_
      refine R_getR (q := 53) dX8_undo_50 fl_X8_19 rfl (by decide) rfl ?_
      refine R_bipush (v := nI 38) (q := 55) dX8_undo_53 (by decide) rfl ?_
      refine R_aload_n (i := 0) (q := 56) dX8_undo_55 rfl rfl rfl ?_
      refine R_getI' (q := 59) dX8_undo_56 fl_X8_180 rfl (hn9) rfl ?_
      first | refine R_imulN (q := 60) dX8_undo_59 rfl ?_ | refine R_imul (q := 60) dX8_undo_59 rfl ?_
      refine R_iload_n (i := 1) (q := 61) dX8_undo_60 rfl rfl rfl ?_
      first | refine R_iaddN (q := 62) dX8_undo_61 rfl ?_ | refine R_iadd (q := 62) dX8_undo_61 rfl ?_
      refine R_iald' (q := 63) dX8_undo_62 (rfl) (by omega) (by decide) (congrFun (hF.2 [7] (by decide)) (38 * m + k)) rfl ?_
      refine R_iast (q := 64) dX8_undo_63 (rfl) (by omega) (by decide) rfl ?_
      first | refine R_iincN (q := 67) (loc' := [(1, _), (0, _)]) dX8_undo_64 (by rfl) (by decide) (by rfl) rfl ?_ | refine R_iinc (q := 67) (loc' := [(1, _), (0, _)]) dX8_undo_64 (by rfl) (by rfl) (by decide) (by rfl) rfl ?_
      refine R_goto (q := 38) dX8_undo_67 (by decide) ?_
      refine ih (k + 1) _ (by omega) (by omega) ?_ (hF.tr (Fr.i (by simp)))
      intro j hjk
      by_cases h : j = k
      · rw [h]; exact uI_same _ _ _ _
      · rw [uI_ne h]; exact hj j (by omega)
theorem c_mundo (hR : ModR w A) (hA : AOK A) : Ct X 1 d MX8_undo [vR 8 0 []] w (qI fun u w' => u = (opUndo A).1 ∧ ModR w' (opUndo A).2) := by
  obtain ⟨h1, h2, h3, h4, h5, h6⟩ := id hR
  obtain ⟨n, hn, q8, q9, hL, hq⟩ := id h3
  unfold opUndo
  refine Ct.of (by decide) rfl (Nat.le_of_ble_eq_true rfl) ?_
  show Wq _ _ _ _ 0 [(0, _)] [] _ _
  cases hl : aA A with
  | nil =>
    rw [hl] at q8
    refine R_aload_n (i := 0) (q := 1) dX8_undo_0 rfl rfl rfl ?_
    refine R_getI' (q := 4) dX8_undo_1 fl_X8_99 rfl (q8) rfl ?_
    refine R_if_ne (tgt := 10) (q := 7) dX8_undo_4 (by decide) rfl (fun c1 => ?_) (fun c1 => ?_)
    · exact absurd rfl c1
    · refine R_bipush (v := (-3)) (q := 9) dX8_undo_7 (by decide) rfl ?_
      refine R_ri dX8_undo_9 rfl ?_
      exact ⟨rfl, hR⟩
  | cons S L =>
    have hlen : (aA A).length = L.length + 1 := by rw [hl]; rfl
    have hSL := hA.2.2.2.1 S (by rw [hl]; exact List.mem_cons_self)
    refine R_aload_n (i := 0) (q := 1) dX8_undo_0 rfl rfl rfl ?_
    refine R_getI' (q := 4) dX8_undo_1 fl_X8_99 rfl (q8) rfl ?_
    refine R_if_neN (by omega) (tgt := 10) (q := 7) dX8_undo_4 (by decide) rfl (fun c1 => ?_) (fun c1 => ?_)
    · refine R_aload_n (i := 0) (q := 11) dX8_undo_10 rfl rfl rfl ?_
      refine R_dup (q := 12) dX8_undo_11 rfl rfl ?_
      refine R_getI' (q := 15) dX8_undo_12 fl_X8_99 rfl (q8) rfl ?_
      refine R_iconst (v := nI 1) (q := 16) dX8_undo_15 (by decide) rfl ?_
      refine R_isubN (by omega) (q := 17) dX8_undo_16 rfl ?_
      refine R_putI (q := 20) dX8_undo_17 fl_X8_99 rfl rfl ?_
      refine R_aload_n (i := 0) (q := 21) dX8_undo_20 rfl rfl rfl ?_
      refine R_aload_n (i := 0) (q := 22) dX8_undo_21 rfl rfl rfl ?_
      refine R_getI' (q := 25) dX8_undo_22 fl_X8_180 rfl ((uI_ne (by decide)).trans q9) rfl ?_
      refine R_bipush (v := nI 14) (q := 27) dX8_undo_25 (by decide) rfl ?_
      first | refine R_iaddN (q := 28) dX8_undo_27 rfl ?_ | refine R_iadd (q := 28) dX8_undo_27 rfl ?_
      refine R_iconst (v := nI 1) (q := 29) dX8_undo_28 (by decide) rfl ?_
      refine R_isubN (by omega) (q := 30) dX8_undo_29 rfl ?_
      refine R_bipush (v := nI 14) (q := 32) dX8_undo_30 (by decide) rfl ?_
      refine R_iremN (by omega) (by omega) (by omega) (q := 33) dX8_undo_32 rfl ?_
      refine R_putI (q := 36) dX8_undo_33 fl_X8_180 rfl rfl ?_
      refine R_iconst (v := nI 0) (q := 37) dX8_undo_36 (by decide) rfl ?_
      refine R_istore_n (i := 1) (q := 38) (loc' := [(1, _), (0, _)]) dX8_undo_37 rfl (by decide) (by rfl) rfl ?_
      have hmlt : (n + 14 - 1) % 14 < 14 := Nat.mod_lt _ (by decide)
      have hF0 : Fm [] [8, 9] w (uI (uI w [] 8 (nI ((aA A).length - 1))) [] 9 (nI ((n + 14 - 1) % 14))) := (Fm.f (by decide)).tr (Fm.f (by decide))
      refine l_mundo (w0 := uI (uI w [] 8 (nI ((aA A).length - 1))) [] 9 (nI ((n + 14 - 1) % 14))) hmlt (uI_same _ _ _ _) ((uI_ne (by decide)).trans (uI_same _ _ _ _)) _ ?_ 38 0 _ (by omega) (by omega) (fun j hj => absurd hj (Nat.not_lt_zero j)) Fr.rf
      intro w2 hj hF2
      have hG : Fm [[5]] [8, 9] w w2 := (hF0.up (by decide) (by decide)).tr (hF2.m (by decide) (by decide))
      refine ⟨by rw [hlen]; rfl, h1.fm hG (by decide) (by decide), ⟨(h2.1.fm hG (by decide) (by decide) (by decide)).dm hSL.2, ?_⟩, ?_, h4.fm hG (by decide) (by decide), h5.fm hG (by decide) (by decide) (by decide), by rw [hG.1]; exact h6⟩
      · refine (hq 0 S (by rw [hl]; rfl)).toA hSL.1.2.2.1 ?_
        intro x hx
        rw [hj x hx, show (n + 14 - 1) % 14 = (n + 13 - 0) % 14 by omega, uI_nep (by decide), uI_nep (by decide)]
      · refine ⟨(n + 14 - 1) % 14, hmlt, ?_, ?_, by show L.length ≤ 14; omega, ?_⟩
        · rw [hF2.2 _ (by decide), uI_ne (by decide), uI_same, hlen]
          rfl
        · rw [hF2.2 _ (by decide)]
          exact uI_same _ _ _ _
        · intro j T hjT
          have hjT : L[j]? = some T := hjT
          have hjl : j < L.length := (List.getElem?_eq_some_iff.mp hjT).1
          have := (hq (j + 1) T (by rw [hl]; exact hjT)).fm hG (by decide) (by decide)
          rw [show ((n + 14 - 1) % 14 + 13 - j) % 14 = (n + 13 - (j + 1)) % 14 by omega]
          exact this
    · omega
theorem c_mmiss {x : Int32} (hR : ModR w A) (hA : AOK A) : Ct X 1 (d + 5) MX8_miss [vR 8 0 [], vI x] w (qI fun u w' => u = opMiss A x ∧ ModR w' A) := by
  obtain ⟨h1, h2, h3, h4, h5, h6⟩ := id hR
  unfold opMiss
  refine Ct.of (by decide) rfl (Nat.le_of_ble_eq_true rfl) ?_
  show Wq _ _ _ _ 0 [(0, _), (1, _)] [] _ _
  refine R_iload_n (i := 1) (q := 1) dX8_miss_0 rfl rfl rfl ?_
  refine R_i2l (q := 2) dX8_miss_1 rfl ?_
  refine R_lconst (v := 0) (q := 3) dX8_miss_2 (by decide) rfl ?_
  refine R_ldc2 (q := 6) dX8_miss_3 kc_X8_188 rfl ?_
  refine R_cS3i (M' := MX8_in) (q := 9) dX8_miss_6 ml_X8_57 mk_X8_in (Nat.le_of_ble_eq_true rfl) rfl (c_in) ?_
  rintro _ w ⟨rfl, rfl⟩
  rw [bI_iff (in64 (n := 16) (by decide) rfl)]
  refine R_if_eqB (tgt := 24) (q := 12) dX8_miss_9 (by decide) rfl (fun c1 => ?_) (fun c1 => ?_)
  · rw [if_neg c1]
    refine R_bipush (v := (-2)) (q := 26) dX8_miss_24 (by decide) rfl ?_
    refine R_ri dX8_miss_26 rfl ?_
    exact ⟨rfl, hR⟩
  · rw [if_pos c1]
    obtain ⟨b, hb, rfl⟩ := inN_ex (by decide) c1
    rw [cl_nI (by omega)]
    refine R_aload_n (i := 0) (q := 13) dX8_miss_12 rfl rfl rfl ?_
    refine R_aload_n (i := 0) (q := 14) dX8_miss_13 rfl rfl rfl ?_
    refine R_getR (q := 17) dX8_miss_14 fl_X8_13 rfl (by decide) rfl ?_
    refine R_iload_n (i := 1) (q := 18) dX8_miss_17 rfl rfl rfl ?_
    refine R_cV2i (M' := MX8_missBy) (q := 21) dX8_miss_18 ml_X8_142 mk_X8_missBy (Nat.le_of_ble_eq_true rfl) rfl (c_mmissBy h2.1.2.2 hA.2.1.r h2.2 (Or.inl rfl) hb) ?_
    rintro _ w1 ⟨rfl, hF⟩
    refine R_goto (q := 26) dX8_miss_21 (by decide) ?_
    refine R_ri dX8_miss_26 rfl ?_
    exact ⟨rfl, hR.sc (hF.m (by decide) (by decide))⟩
theorem ModR.see {w' : Wd} {n : Nat} {pl vs : Nat → Nat} (hR : ModR w A) (h : SeM w' n pl vs) (hF : Fm [[12], [13]] [14] w w') : ModR w' (aN A, aX A, aP A, aA A, aK A, n, pl, vs, aZ A) := by
  obtain ⟨h1, h2, h3, h4, h5, h6⟩ := hR
  exact ⟨h1.fm hF (by decide) (by decide), h2.fm hF (by decide) (by decide) (by decide) (by decide), h3.fm hF (by decide) (by decide) (by decide), h4.fm hF (by decide) (by decide), h, by rw [hF.1]; exact h6⟩
theorem c_msee {x y v : Int32} (hR : ModR w A) (hA : AOK A) : Ct X 1 (d + 2) MX8_see [vR 8 0 [], vI x, vI y, vI v] w (qI fun u w' => u = (opSee A x y v).1 ∧ ModR w' (opSee A x y v).2) := by
  obtain ⟨h1, h2, h3, h4, h5, h6⟩ := id hR
  have hM := hA.2.2.2.2.2.1
  unfold opSee
  refine Ct.of (by decide) rfl (Nat.le_of_ble_eq_true rfl) ?_
  show Wq _ _ _ _ 0 [(0, _), (1, _), (2, _), (3, _)] [] _ _
  refine R_iload_n (i := 1) (q := 1) dX8_see_0 rfl rfl rfl ?_
  refine R_cS1i (M' := MX8_isFour) (q := 4) dX8_see_1 ml_X8_177 mk_X8_isFour (Nat.le_of_ble_eq_true rfl) rfl (c_isFour) ?_
  rintro _ w ⟨rfl, rfl⟩
  refine R_if_eqB (tgt := 14) (q := 7) dX8_see_4 (by decide) rfl (fun c1 => ?_) (fun c1 => ?_)
  · rw [if_neg (fun h => c1 h.1)]
    refine R_iconst (v := (-1)) (q := 15) dX8_see_14 (by decide) rfl ?_
    refine R_ri dX8_see_15 rfl ?_
    exact ⟨rfl, hR⟩
  · refine R_iload_n (i := 2) (q := 8) dX8_see_7 rfl rfl rfl ?_
    refine R_cS1i (M' := MX8_isFour) (q := 11) dX8_see_8 ml_X8_177 mk_X8_isFour (Nat.le_of_ble_eq_true rfl) rfl (c_isFour) ?_
    rintro _ w ⟨rfl, rfl⟩
    refine R_if_neB (tgt := 16) (q := 14) dX8_see_11 (by decide) rfl (fun c2 => ?_) (fun c2 => ?_)
    · rw [if_pos ⟨c1, c2⟩]
      obtain ⟨a, ha, rfl⟩ := inN_ex (by decide) c1
      obtain ⟨b, hb, rfl⟩ := inN_ex (by decide) c2
      rw [cl_nI (by omega), cl_nI (by omega), show a * 4 + b = 4 * a + b by omega]
      refine R_iload_n (i := 3) (q := 17) dX8_see_16 rfl rfl rfl ?_
      refine R_i2l (q := 18) dX8_see_17 rfl ?_
      refine R_lconst (v := 0) (q := 19) dX8_see_18 (by decide) rfl ?_
      refine R_ldc2 (q := 22) dX8_see_19 kc_X8_202 rfl ?_
      refine R_cS3i (M' := MX8_in) (q := 25) dX8_see_22 ml_X8_57 mk_X8_in (Nat.le_of_ble_eq_true rfl) rfl (c_in) ?_
      rintro _ w ⟨rfl, rfl⟩
      rw [bI_iff (in64 (n := 20) (by decide) rfl)]
      refine R_if_neB (tgt := 31) (q := 28) dX8_see_25 (by decide) rfl (fun c3 => ?_) (fun c3 => ?_)
      · rw [if_pos c3]
        obtain ⟨e, he, rfl⟩ := inN_ex (by decide) c3
        rw [cl_nI (by omega)]
        refine R_aload_n (i := 0) (q := 32) dX8_see_31 rfl rfl rfl ?_
        refine R_getI' (q := 35) dX8_see_32 fl_X8_161 rfl (h5.1) rfl ?_
        refine R_bipush (v := nI 6) (q := 37) dX8_see_35 (by decide) rfl ?_
        refine R_icmp_neN (by omega) (by omega) (tgt := 43) (q := 40) dX8_see_37 (by decide) rfl (fun c4 => ?_) (fun c4 => ?_)
        · rw [if_pos (by omega)]
          refine R_aload_n (i := 0) (q := 44) dX8_see_43 rfl rfl rfl ?_
          refine R_getR (q := 47) dX8_see_44 fl_X8_29 rfl (by decide) rfl ?_
          refine R_aload_n (i := 0) (q := 48) dX8_see_47 rfl rfl rfl ?_
          refine R_getI' (q := 51) dX8_see_48 fl_X8_161 rfl (h5.1) rfl ?_
          refine R_iconst (v := nI 4) (q := 52) dX8_see_51 (by decide) rfl ?_
          refine R_iload_n (i := 1) (q := 53) dX8_see_52 rfl rfl rfl ?_
          first | refine R_imulN (q := 54) dX8_see_53 rfl ?_ | refine R_imul (q := 54) dX8_see_53 rfl ?_
          refine R_iload_n (i := 2) (q := 55) dX8_see_54 rfl rfl rfl ?_
          first | refine R_iaddN (q := 56) dX8_see_55 rfl ?_ | refine R_iadd (q := 56) dX8_see_55 rfl ?_
          refine R_iast (q := 57) dX8_see_56 (rfl) (by omega) (by decide) rfl ?_
          refine R_aload_n (i := 0) (q := 58) dX8_see_57 rfl rfl rfl ?_
          refine R_getR (q := 61) dX8_see_58 fl_X8_32 rfl (by decide) rfl ?_
          refine R_aload_n (i := 0) (q := 62) dX8_see_61 rfl rfl rfl ?_
          refine R_getI' (q := 65) dX8_see_62 fl_X8_161 rfl ((uI_nep (by decide)).trans h5.1) rfl ?_
          refine R_iload_n (i := 3) (q := 66) dX8_see_65 rfl rfl rfl ?_
          refine R_iast (q := 67) dX8_see_66 (rfl) (by omega) (by decide) rfl ?_
          refine R_aload_n (i := 0) (q := 68) dX8_see_67 rfl rfl rfl ?_
          refine R_dup (q := 69) dX8_see_68 rfl rfl ?_
          refine R_getI' (q := 72) dX8_see_69 fl_X8_161 rfl ((uI_nep (by decide)).trans ((uI_nep (by decide)).trans h5.1)) rfl ?_
          refine R_iconst (v := nI 1) (q := 73) dX8_see_72 (by decide) rfl ?_
          first | refine R_iaddN (q := 74) dX8_see_73 rfl ?_ | refine R_iadd (q := 74) dX8_see_73 rfl ?_
          refine R_putI (q := 77) dX8_see_74 fl_X8_161 rfl rfl ?_
          refine R_aload_n (i := 0) (q := 78) dX8_see_77 rfl rfl rfl ?_
          refine R_getI' (q := 81) dX8_see_78 fl_X8_161 rfl (uI_same _ _ _ _) rfl ?_
          refine R_ri dX8_see_81 rfl ?_
          refine ⟨rfl, hR.see ⟨uI_same _ _ _ _, ?_⟩ (((Fm.i (by decide) (by decide)).tr (Fm.i (by decide) (by decide))).tr (Fm.f (by decide)))⟩
          intro i hi
          have hi : i < aM A + 1 := hi
          refine ⟨(uI_nep (by decide)).trans ((uI_nep (by decide)).trans ?_), (uI_nep (by decide)).trans ?_⟩
          · show _ = nI (fnU (aL A) (aM A) (4 * a + b) i)
            unfold fnU
            by_cases h : i = aM A
            · rw [if_pos h, h]
              exact uI_same _ _ _ _
            · rw [if_neg h, uI_ne h]
              exact (h5.2 i (by omega)).1
          · show _ = nI (fnU (aV A) (aM A) e i)
            unfold fnU
            by_cases h : i = aM A
            · rw [if_pos h, h]
              exact uI_same _ _ _ _
            · rw [if_neg h, uI_ne h, uI_nep (by decide)]
              exact (h5.2 i (by omega)).2
        · rw [if_neg (by omega)]
          refine R_bipush (v := (-4)) (q := 42) dX8_see_40 (by decide) rfl ?_
          refine R_ri dX8_see_42 rfl ?_
          exact ⟨rfl, hR⟩
      · rw [if_neg c3]
        refine R_bipush (v := (-2)) (q := 30) dX8_see_28 (by decide) rfl ?_
        refine R_ri dX8_see_30 rfl ?_
        exact ⟨rfl, hR⟩
    · rw [if_neg (fun h => c2 h.2)]
      refine R_iconst (v := (-1)) (q := 15) dX8_see_14 (by decide) rfl ?_
      refine R_ri dX8_see_15 rfl ?_
      exact ⟨rfl, hR⟩
theorem c_munsee (hR : ModR w A) : Ct X 1 d MX8_unsee [vR 8 0 []] w (qI fun u w' => u = (opUnsee A).1 ∧ ModR w' (opUnsee A).2) := by
  obtain ⟨h1, h2, h3, h4, h5, h6⟩ := id hR
  refine Ct.of (by decide) rfl (Nat.le_of_ble_eq_true rfl) ?_
  show Wq _ _ _ _ 0 [(0, _)] [] _ _
  refine R_aload_n (i := 0) (q := 1) dX8_unsee_0 rfl rfl rfl ?_
  refine R_getI' (q := 4) dX8_unsee_1 fl_X8_161 rfl (h5.1) rfl ?_
  refine R_istore_n (i := 1) (q := 5) (loc' := [(1, _), (0, _)]) dX8_unsee_4 rfl (by decide) (by rfl) rfl ?_
  refine R_aload_n (i := 0) (q := 6) dX8_unsee_5 rfl rfl rfl ?_
  refine R_iconst (v := nI 0) (q := 7) dX8_unsee_6 (by decide) rfl ?_
  refine R_putI (q := 10) dX8_unsee_7 fl_X8_161 rfl rfl ?_
  refine R_iload_n (i := 1) (q := 11) dX8_unsee_10 rfl rfl rfl ?_
  refine R_ri dX8_unsee_11 rfl ?_
  exact ⟨rfl, hR.see ⟨uI_same _ _ _ _, fun i hi => absurd hi (Nat.not_lt_zero i)⟩ (Fm.f (by decide))⟩
theorem l_mwh2 {k : Nat} {x : Int32} (hR : ModR w A) (hA : AOK A) (hL : LayA w (aP A) (pH (aP A)) k) (hk : k < 16) (Q : Option AV → Wd → Prop) (kk : Wq X 1 (d + 4) MX8_which 71 [(4, vI (nI (aM A))), (3, vI (bI (soA A k))), (2, vI (nI k)), (1, vI x), (0, vR 8 0 [])] [] w Q) : ∀ (f i : Nat), aM A ≤ i + f → i ≤ aM A → Wq X 1 (d + 4) MX8_which 24 [(4, vI (nI i)), (3, vI (bI (∀ j, j < i → outN (aP A) (pH (aP A)) k (aL A j) = aV A j))), (2, vI (nI k)), (1, vI x), (0, vR 8 0 [])] [] w Q := by
  obtain ⟨h1, h2, h3, h4, h5, h6⟩ := id hR
  have hM := hA.2.2.2.2.2.1
  have hM2 := hA.2.2.2.2.2.2
  have hN := hA.2.1.2.2.1
  intro f
  induction f with
  | zero =>
    intro i g1 g2
    refine R_iload (q := 26) dX8_which_24 rfl rfl ?_
    refine R_aload_n (i := 0) (q := 27) dX8_which_26 rfl rfl rfl ?_
    refine R_getI' (q := 30) dX8_which_27 fl_X8_161 rfl (h5.1) rfl ?_
    refine R_icmp_geN (by omega) (by omega) (tgt := 71) (q := 33) dX8_which_30 (by decide) rfl (fun c1 => ?_) (fun c1 => ?_)
    · obtain rfl : i = aM A := by omega
      exact kk
    · omega
  | succ f ih =>
    intro i g1 g2
    refine R_iload (q := 26) dX8_which_24 rfl rfl ?_
    refine R_aload_n (i := 0) (q := 27) dX8_which_26 rfl rfl rfl ?_
    refine R_getI' (q := 30) dX8_which_27 fl_X8_161 rfl (h5.1) rfl ?_
    refine R_icmp_geN (by omega) (by omega) (tgt := 71) (q := 33) dX8_which_30 (by decide) rfl (fun c1 => ?_) (fun c1 => ?_)
    · obtain rfl : i = aM A := by omega
      exact kk
    · have e := ih (i + 1) (by omega) (by omega)
      have hl := hM2 i c1
      have hol := outN_le (S := aP A) (sh := pH (aP A)) (lo := k) (k := aL A i)
      have cont : Wq X 1 (d + 4) MX8_which 64 [(4, vI (nI i)), (3, vI (bI (∀ j, j < i → outN (aP A) (pH (aP A)) k (aL A j) = aV A j))), (2, vI (nI k)), (1, vI x), (0, vR 8 0 [])] [vI (bI (∀ j, j < i + 1 → outN (aP A) (pH (aP A)) k (aL A j) = aV A j))] w Q := by
        refine R_istore_n (i := 3) (q := 65) (loc' := [(3, _), (4, _), (2, _), (1, _), (0, _)]) dX8_which_64 rfl (by decide) (by rfl) rfl ?_
        first | refine R_iincN (q := 68) (loc' := [(4, _), (3, _), (2, _), (1, _), (0, _)]) dX8_which_65 (by rfl) (by decide) (by rfl) rfl ?_ | refine R_iinc (q := 68) (loc' := [(4, _), (3, _), (2, _), (1, _), (0, _)]) dX8_which_65 (by rfl) (by rfl) (by decide) (by rfl) rfl ?_
        refine R_goto (q := 24) dX8_which_68 (by decide) ?_
        refine R_loc [0, 1, 2, 3, 4] (loc' := [(4, _), (3, _), (2, _), (1, _), (0, _)]) (by rfl) ?_
        exact e
      refine R_iload_n (i := 3) (q := 34) dX8_which_33 rfl rfl rfl ?_
      refine R_if_eqB (tgt := 63) (q := 37) dX8_which_34 (by decide) rfl (fun c2 => ?_) (fun c2 => ?_)
      · rw [bI_f (c := ∀ j, j < i + 1 → outN (aP A) (pH (aP A)) k (aL A j) = aV A j) (fun h => c2 (fun j hj => h j (by omega)))] at cont
        refine R_iconst (v := nI 0) (q := 64) dX8_which_63 (by decide) rfl ?_
        exact cont
      · refine R_aload_n (i := 0) (q := 38) dX8_which_37 rfl rfl rfl ?_
        refine R_getR (q := 41) dX8_which_38 fl_X8_35 rfl (by decide) rfl ?_
        refine R_aload_n (i := 0) (q := 42) dX8_which_41 rfl rfl rfl ?_
        refine R_getR (q := 45) dX8_which_42 fl_X8_29 rfl (by decide) rfl ?_
        refine R_iload (q := 47) dX8_which_45 rfl rfl ?_
        refine R_iald' (q := 48) dX8_which_47 (rfl) (by omega) (by decide) ((h5.2 i c1).1) rfl ?_
        refine R_iald' (q := 49) dX8_which_48 (rfl) (by omega) (by decide) (hL.2 (aL A i) hl.1) rfl ?_
        refine R_aload_n (i := 0) (q := 50) dX8_which_49 rfl rfl rfl ?_
        refine R_getR (q := 53) dX8_which_50 fl_X8_32 rfl (by decide) rfl ?_
        refine R_iload (q := 55) dX8_which_53 rfl rfl ?_
        refine R_iald' (q := 56) dX8_which_55 (rfl) (by omega) (by decide) ((h5.2 i c1).2) rfl ?_
        refine R_icmp_neN (by omega) (by omega) (tgt := 63) (q := 59) dX8_which_56 (by decide) rfl (fun c3 => ?_) (fun c3 => ?_)
        · rw [bI_f (c := ∀ j, j < i + 1 → outN (aP A) (pH (aP A)) k (aL A j) = aV A j) (fun h => c3 (h i (by omega)))] at cont
          refine R_iconst (v := nI 0) (q := 64) dX8_which_63 (by decide) rfl ?_
          exact cont
        · rw [bI_t (c := ∀ j, j < i + 1 → outN (aP A) (pH (aP A)) k (aL A j) = aV A j) (fun j hj => by
            rcases Nat.lt_or_ge j i with h | h
            · exact c2 j h
            · obtain rfl : j = i := by omega
              exact c3)] at cont
          refine R_iconst (v := nI 1) (q := 60) dX8_which_59 (by decide) rfl ?_
          refine R_goto (q := 64) dX8_which_60 (by decide) ?_
          exact cont
theorem l_mwh1 {w0 : Wd} (hR : ModR w0 A) (hA : AOK A) : ∀ (f k : Nat) (w : Wd), 16 ≤ k + f → k ≤ 16 → Fr FL2 w0 w → Wq X 1 (d + 4) MX8_which 4 [(2, vI (nI k)), (1, vI (whI A k)), (0, vR 8 0 [])] [] w (qI fun z w' => z = whI A 16 ∧ Fr FL2 w0 w') := by
  intro f
  induction f with
  | zero =>
    intro k w h1 h2 hF
    refine R_iload_n (i := 2) (q := 5) dX8_which_4 rfl rfl rfl ?_
    refine R_bipush (v := nI 16) (q := 7) dX8_which_5 (by decide) rfl ?_
    refine R_icmp_geN (by omega) (by omega) (tgt := 91) (q := 10) dX8_which_7 (by decide) rfl (fun c1 => ?_) (fun c1 => ?_)
    · obtain rfl : k = 16 := by omega
      refine R_iload_n (i := 1) (q := 92) dX8_which_91 rfl rfl rfl ?_
      refine R_ri dX8_which_92 rfl ?_
      exact ⟨rfl, hF⟩
    · omega
  | succ f ih =>
    intro k w h1 h2 hF
    refine R_iload_n (i := 2) (q := 5) dX8_which_4 rfl rfl rfl ?_
    refine R_bipush (v := nI 16) (q := 7) dX8_which_5 (by decide) rfl ?_
    refine R_icmp_geN (by omega) (by omega) (tgt := 91) (q := 10) dX8_which_7 (by decide) rfl (fun c1 => ?_) (fun c1 => ?_)
    · obtain rfl : k = 16 := by omega
      refine R_iload_n (i := 1) (q := 92) dX8_which_91 rfl rfl rfl ?_
      refine R_ri dX8_which_92 rfl ?_
      exact ⟨rfl, hF⟩
    · have hRw := hR.sc (hF.m (by decide) (by decide))
      refine R_aload_n (i := 0) (q := 11) dX8_which_10 rfl rfl rfl ?_
      refine R_aload_n (i := 0) (q := 12) dX8_which_11 rfl rfl rfl ?_
      refine R_getR (q := 15) dX8_which_12 fl_X8_13 rfl (by decide) rfl ?_
      refine R_iload_n (i := 2) (q := 16) dX8_which_15 rfl rfl rfl ?_
      refine R_cV2v (M' := MX8_layOut) (q := 19) dX8_which_16 ml_X8_126 mk_X8_layOut (Nat.le_of_ble_eq_true rfl) rfl (c_layOut hRw.2.1.1.2.2 hA.2.1.r hRw.2.1.2 (Or.inl rfl) c1) ?_
      rintro w1 ⟨hL1, hF1⟩
      have hF2 := hF.tr hF1
      have hR1 := hR.sc (hF2.m (by decide) (by decide))
      have e := ih (k + 1) w1 (by omega) (by omega) hF2
      simp only [whI] at e
      refine R_iconst (v := nI 1) (q := 20) dX8_which_19 (by decide) rfl ?_
      refine R_istore_n (i := 3) (q := 21) (loc' := [(3, _), (2, _), (1, _), (0, _)]) dX8_which_20 rfl (by decide) (by rfl) rfl ?_
      refine R_iconst (v := nI 0) (q := 22) dX8_which_21 (by decide) rfl ?_
      refine R_istore (q := 24) (loc' := [(4, _), (3, _), (2, _), (1, _), (0, _)]) dX8_which_22 (by decide) (by rfl) rfl ?_
      have h9 := l_mwh2 (X := X) (d := d) (x := whI A k) hR1 hA hL1 c1 (qI fun z w' => z = whI A 16 ∧ Fr FL2 w0 w') ?_ (aM A) 0 (by omega) (by omega)
      · rw [bI_t (c := ∀ j, j < 0 → outN (aP A) (pH (aP A)) k (aL A j) = aV A j) (fun j hj => absurd hj (Nat.not_lt_zero j))] at h9
        exact h9
      · skip
        refine R_iload_n (i := 1) (q := 72) dX8_which_71 rfl rfl rfl ?_
        refine R_iload_n (i := 3) (q := 73) dX8_which_72 rfl rfl rfl ?_
        refine R_if_eqB (tgt := 82) (q := 76) dX8_which_73 (by decide) rfl (fun c2 => ?_) (fun c2 => ?_)
        · rw [if_neg c2] at e
          refine R_iconst (v := nI 0) (q := 83) dX8_which_82 (by decide) rfl ?_
          refine R_ior (q := 84) dX8_which_83 rfl ?_
          rw [show whI A k ||| nI 0 = whI A k by rw [show nI 0 = 0 from rfl, Int32.or_zero]]
          refine R_istore_n (i := 1) (q := 85) (loc' := [(1, _), (4, _), (3, _), (2, _), (0, _)]) dX8_which_84 rfl (by decide) (by rfl) rfl ?_
          first | refine R_iincN (q := 88) (loc' := [(2, _), (1, _), (4, _), (3, _), (0, _)]) dX8_which_85 (by rfl) (by decide) (by rfl) rfl ?_ | refine R_iinc (q := 88) (loc' := [(2, _), (1, _), (4, _), (3, _), (0, _)]) dX8_which_85 (by rfl) (by rfl) (by decide) (by rfl) rfl ?_
          refine R_goto (q := 4) dX8_which_88 (by decide) ?_
          refine R_loc [0, 1, 4] (loc' := [(2, _), (1, _), (0, _)]) (by rfl) ?_
          exact e
        · rw [if_pos c2] at e
          refine R_iconst (v := nI 1) (q := 77) dX8_which_76 (by decide) rfl ?_
          refine R_iload_n (i := 2) (q := 78) dX8_which_77 rfl rfl rfl ?_
          refine R_ishl (q := 79) dX8_which_78 rfl ?_
          refine R_goto (q := 83) dX8_which_79 (by decide) ?_
          refine R_ior (q := 84) dX8_which_83 rfl ?_
          refine R_istore_n (i := 1) (q := 85) (loc' := [(1, _), (4, _), (3, _), (2, _), (0, _)]) dX8_which_84 rfl (by decide) (by rfl) rfl ?_
          first | refine R_iincN (q := 88) (loc' := [(2, _), (1, _), (4, _), (3, _), (0, _)]) dX8_which_85 (by rfl) (by decide) (by rfl) rfl ?_ | refine R_iinc (q := 88) (loc' := [(2, _), (1, _), (4, _), (3, _), (0, _)]) dX8_which_85 (by rfl) (by rfl) (by decide) (by rfl) rfl ?_
          refine R_goto (q := 4) dX8_which_88 (by decide) ?_
          refine R_loc [0, 1, 4] (loc' := [(2, _), (1, _), (0, _)]) (by rfl) ?_
          exact e
theorem c_mwhich (hR : ModR w A) (hA : AOK A) : Ct X 1 (d + 4) MX8_which [vR 8 0 []] w (qI fun u w' => u = whI A 16 ∧ ModR w' A) := by
  refine Ct.of (by decide) rfl (Nat.le_of_ble_eq_true rfl) ?_
  show Wq _ _ _ _ 0 [(0, _)] [] _ _
  refine R_iconst (v := nI 0) (q := 1) dX8_which_0 (by decide) rfl ?_
  refine R_istore_n (i := 1) (q := 2) (loc' := [(1, _), (0, _)]) dX8_which_1 rfl (by decide) (by rfl) rfl ?_
  refine R_iconst (v := nI 0) (q := 3) dX8_which_2 (by decide) rfl ?_
  refine R_istore_n (i := 2) (q := 4) (loc' := [(2, _), (1, _), (0, _)]) dX8_which_3 rfl (by decide) (by rfl) rfl ?_
  refine Wq_mono (l_mwh1 hR hA 16 0 w (by omega) (by omega) Fr.rf) ?_
  rintro z w2 ⟨h1, h2⟩
  exact ⟨h1, hR.sc (h2.m (by decide) (by decide))⟩
end MG
