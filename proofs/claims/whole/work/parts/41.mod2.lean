theorem RowA.fr {w w' : Wd} {q : List Nat} {S : Pic} {F : List (List Nat)} (h : RowA w q S) (hf : Fr F w w') (hq : q ∉ F) : RowA w' q S := by
  unfold RowA CelA
  rw [hf.2 _ hq]
  exact h
theorem DimA.fr {w w' : Wd} {S : Pic} {F : List (List Nat)} (h : DimA w S) (hf : Fr F w w') (hq : [] ∉ F) : DimA w' S := by
  unfold DimA
  rw [hf.2 _ hq]
  exact h
abbrev FL2 : List (List Nat) := [[16], [17]]
/-- what is laid out -/
def LayA (w : Wd) (S : Pic) (sh lo : Nat) : Prop := (∀ l, l < 4 → w.1 [17] l = bI (blk sh lo l = true)) ∧ ∀ k, k < 16 → w.1 [16] k = nI (outN S sh lo k)
section MC
variable {X : Cx} {d : Nat} {w : Wd} {q : List Nat}
theorem c_comes {S : Pic} {l j : Nat} {a b : Prop} [Decidable a] [Decidable b] (hn : w.1 [] 4 = nI (pN S)) (hO : OKr S) (hS : RowA w q S) (hl : l < 4) (hj : j < 4) (hab : a ∨ b) : Ct X 1 (d + 2) MX8_comes [vR 8 0 [], vR 9 38 q, vI (nI l), vI (nI j), vI (bI a), vI (bI b)] w (qI fun z w' => z = nI (vl S a b (4 * l + j)) ∧ w' = w) := by
  have hdt : w.1 q (20 + 4 * l + j) = nI (pdt S (4 * l + j)) := by
    rw [Nat.add_assoc]
    exact hS.2.1 _ (by omega)
  have hk := hO.2.2.2 (4 * l + j) (by omega)
  have hN := hO.1.1
  have hd20 := hO.1.2.2 (4 * l + j) (by omega)
  have tail0 : pN S = 0 → Wq X 1 (d + 2) MX8_comes 29 [(6, vI (nI (pdt S (4 * l + j)))), (0, vR 8 0 []), (1, vR 9 38 q), (2, vI (nI l)), (3, vI (nI j)), (4, vI (bI a)), (5, vI (bI b))] [] w (qI fun z w' => z = nI (vl S a b (4 * l + j)) ∧ w' = w) := by
    intro h0
    refine R_aload_n (i := 0) (q := 30) dX8_comes_29 rfl rfl rfl ?_
    refine R_getI' (q := 33) dX8_comes_30 fl_X8_54 rfl (hn) rfl ?_
    refine R_if_neN (by omega) (tgt := 40) (q := 36) dX8_comes_33 (by decide) rfl (fun c1 => ?_) (fun c1 => ?_)
    · exact absurd h0 c1
    · refine R_iconst (v := nI 0) (q := 37) dX8_comes_36 (by decide) rfl ?_
      refine R_goto (q := 42) dX8_comes_37 (by decide) ?_
      refine R_ri dX8_comes_42 rfl ?_
      refine ⟨?_, rfl⟩
      unfold vl
      rw [if_pos (by omega)]
  have half : ∀ h, h < 2 → pdt S (4 * l + j) < pN S → vl S a b (4 * l + j) = gN (hf S h) (hf S h (pdt S (4 * l + j))) (pN S) → Wq X 1 (d + 2) MX8_comes 53 [(6, vI (nI (pdt S (4 * l + j)))), (0, vR 8 0 []), (1, vR 9 38 q), (2, vI (nI l)), (3, vI (nI j)), (4, vI (bI a)), (5, vI (bI b))] [vI (nI h)] w (qI fun z w' => z = nI (vl S a b (4 * l + j)) ∧ w' = w) := by
    intro h hh hlt hv
    have hb := hO.1.2.1 _ hlt
    have hfl : hf S h (pdt S (4 * l + j)) < 6 := by
      unfold hf
      split
      · exact hb.1
      · exact hb.2
    refine R_istore (q := 55) (loc' := [(7, _), (6, _), (0, _), (1, _), (2, _), (3, _), (4, _), (5, _)]) dX8_comes_53 (by decide) (by rfl) rfl ?_
    refine R_aload_n (i := 0) (q := 56) dX8_comes_55 rfl rfl rfl ?_
    refine R_aload_n (i := 1) (q := 57) dX8_comes_56 rfl rfl rfl ?_
    refine R_iload (q := 59) dX8_comes_57 rfl rfl ?_
    refine R_aload_n (i := 1) (q := 60) dX8_comes_59 rfl rfl rfl ?_
    refine R_iload (q := 62) dX8_comes_60 rfl rfl ?_
    refine R_iald' (q := 63) dX8_comes_62 (rfl) (by omega) (by decide) (hS.1 _ hlt) rfl ?_
    refine R_iload (q := 65) dX8_comes_63 rfl rfl ?_
    refine R_cS2i (M' := MX8_lineOf) (q := 68) dX8_comes_65 ml_X8_102 mk_X8_lineOf (Nat.le_of_ble_eq_true rfl) rfl (c_lineOf (by omega) hh) ?_
    rintro _ w ⟨rfl, rfl⟩
    rw [line_hf hb.2]
    refine R_cV3i (M' := MX8_guessOf) (q := 71) dX8_comes_68 ml_X8_106 mk_X8_guessOf (Nat.le_of_ble_eq_true rfl) rfl (c_guessOf hn hO.1 hS.1 hh hfl) ?_
    rintro _ w ⟨rfl, rfl⟩
    refine R_ri dX8_comes_71 rfl ?_
    exact ⟨by rw [hv]; exact gI_eq (cH_pos hlt rfl), rfl⟩
  refine Ct.of (by decide) rfl (Nat.le_of_ble_eq_true rfl) ?_
  show Wq _ _ _ _ 0 [(0, _), (1, _), (2, _), (3, _), (4, _), (5, _)] [] _ _
  refine R_aload_n (i := 1) (q := 1) dX8_comes_0 rfl rfl rfl ?_
  refine R_bipush (v := nI 20) (q := 3) dX8_comes_1 (by decide) rfl ?_
  refine R_iconst (v := nI 4) (q := 4) dX8_comes_3 (by decide) rfl ?_
  refine R_iload_n (i := 2) (q := 5) dX8_comes_4 rfl rfl rfl ?_
  first | refine R_imulN (q := 6) dX8_comes_5 rfl ?_ | refine R_imul (q := 6) dX8_comes_5 rfl ?_
  first | refine R_iaddN (q := 7) dX8_comes_6 rfl ?_ | refine R_iadd (q := 7) dX8_comes_6 rfl ?_
  refine R_iload_n (i := 3) (q := 8) dX8_comes_7 rfl rfl rfl ?_
  first | refine R_iaddN (q := 9) dX8_comes_8 rfl ?_ | refine R_iadd (q := 9) dX8_comes_8 rfl ?_
  refine R_iald' (q := 10) dX8_comes_9 (rfl) (by omega) (by decide) (hdt) rfl ?_
  refine R_istore (q := 12) (loc' := [(6, _), (0, _), (1, _), (2, _), (3, _), (4, _), (5, _)]) dX8_comes_10 (by decide) (by rfl) rfl ?_
  refine R_iload (q := 14) dX8_comes_12 rfl rfl ?_
  refine R_if_eqB (tgt := 22) (q := 17) dX8_comes_14 (by decide) rfl (fun c1 => ?_) (fun c1 => ?_)
  · have hbb : b := hab.resolve_left c1
    refine R_aload_n (i := 0) (q := 23) dX8_comes_22 rfl rfl rfl ?_
    refine R_getI' (q := 26) dX8_comes_23 fl_X8_54 rfl (hn) rfl ?_
    refine R_if_neN (by omega) (tgt := 43) (q := 29) dX8_comes_26 (by decide) rfl (fun c2 => ?_) (fun c2 => ?_)
    · have hlt : pdt S (4 * l + j) < pN S := hk.resolve_right c2
      refine R_iload (q := 45) dX8_comes_43 rfl rfl ?_
      refine R_if_eqB (tgt := 52) (q := 48) dX8_comes_45 (by decide) rfl (fun c3 => ?_) (fun c3 => ?_)
      · refine R_iconst (v := nI 1) (q := 53) dX8_comes_52 (by decide) rfl ?_
        refine half 1 (by decide) hlt ?_
        unfold vl
        rw [if_neg (fun h => h hlt), if_neg (fun h => c1 h.1), if_neg c1]
        rfl
      · exact absurd c3 c1
    · exact tail0 c2
  · refine R_iload (q := 19) dX8_comes_17 rfl rfl ?_
    refine R_if_neB (tgt := 29) (q := 22) dX8_comes_19 (by decide) rfl (fun c2 => ?_) (fun c2 => ?_)
    · refine R_aload_n (i := 0) (q := 30) dX8_comes_29 rfl rfl rfl ?_
      refine R_getI' (q := 33) dX8_comes_30 fl_X8_54 rfl (hn) rfl ?_
      refine R_if_neN (by omega) (tgt := 40) (q := 36) dX8_comes_33 (by decide) rfl (fun c3 => ?_) (fun c3 => ?_)
      · have hlt : pdt S (4 * l + j) < pN S := hk.resolve_right c3
        refine R_iload (q := 42) dX8_comes_40 rfl rfl ?_
        refine R_ri dX8_comes_42 rfl ?_
        refine ⟨?_, rfl⟩
        unfold vl
        rw [if_neg (fun h => h hlt), if_pos ⟨c1, c2⟩]
      · refine R_iconst (v := nI 0) (q := 37) dX8_comes_36 (by decide) rfl ?_
        refine R_goto (q := 42) dX8_comes_37 (by decide) ?_
        refine R_ri dX8_comes_42 rfl ?_
        refine ⟨?_, rfl⟩
        unfold vl
        rw [if_pos (by omega)]
    · refine R_aload_n (i := 0) (q := 23) dX8_comes_22 rfl rfl rfl ?_
      refine R_getI' (q := 26) dX8_comes_23 fl_X8_54 rfl (hn) rfl ?_
      refine R_if_neN (by omega) (tgt := 43) (q := 29) dX8_comes_26 (by decide) rfl (fun c3 => ?_) (fun c3 => ?_)
      · have hlt : pdt S (4 * l + j) < pN S := hk.resolve_right c3
        refine R_iload (q := 45) dX8_comes_43 rfl rfl ?_
        refine R_if_eqB (tgt := 52) (q := 48) dX8_comes_45 (by decide) rfl (fun c4 => ?_) (fun c4 => ?_)
        · exact absurd c1 c4
        · refine R_iconst (v := nI 0) (q := 49) dX8_comes_48 (by decide) rfl ?_
          refine R_goto (q := 53) dX8_comes_49 (by decide) ?_
          refine half 0 (by decide) hlt ?_
          unfold vl
          rw [if_neg (fun h => h hlt), if_neg (fun h => c2 h.2), if_pos c1]
          rfl
      · exact tail0 c3
theorem l_mup {l : Nat} {b : Nat → Bool} (hb : ∀ k, k < 4 → w.1 [17] k = bI (b k = true)) (Q : Option AV → Wd → Prop) : ∀ (u : Nat), u ≤ 4 → Wq X 1 d MX8_fill 23 [(2, vI (nI (uv b u) - nI 1)), (0, vR 8 0 []), (1, vI (nI l))] [] w Q → Wq X 1 d MX8_fill 4 [(2, vI (nI u - nI 1)), (0, vR 8 0 []), (1, vI (nI l))] [] w Q := by
  intro u
  induction u with
  | zero =>
    intro h1 kk
    refine R_iload_n (i := 2) (q := 5) dX8_fill_4 rfl rfl rfl ?_
    refine R_if_lt (tgt := 23) (q := 8) dX8_fill_5 (by decide) rfl (fun c1 => ?_) (fun c1 => ?_)
    · exact kk
    · exact absurd (by decide) c1
  | succ u ih =>
    intro h1 kk
    have e0 : nI (u + 1) - nI 1 = nI u := by rw [pk_sub (by omega)]; rfl
    refine R_iload_n (i := 2) (q := 5) dX8_fill_4 rfl rfl rfl ?_
    refine R_if_lt (tgt := 23) (q := 8) dX8_fill_5 (by decide) rfl (fun c1 => ?_) (fun c1 => ?_)
    · exact absurd (e0 ▸ c1) (nI_pos (by omega))
    · refine R_aload_n (i := 0) (q := 9) dX8_fill_8 rfl rfl rfl ?_
      refine R_getR (q := 12) dX8_fill_9 fl_X8_38 rfl (by decide) rfl ?_
      rw [e0]
      refine R_iload_n (i := 2) (q := 13) dX8_fill_12 rfl rfl rfl ?_
      refine R_zald' (q := 14) dX8_fill_13 (rfl) (by omega) (by decide) (hb u (by omega)) rfl ?_
      refine R_if_eqB (tgt := 23) (q := 17) dX8_fill_14 (by decide) rfl (fun c2 => ?_) (fun c2 => ?_)
      · simp only [uv] at kk
        rw [if_neg c2, e0] at kk
        exact kk
      · simp only [uv] at kk
        rw [if_pos c2] at kk
        refine R_iinc (q := 20) (loc' := [(2, vI (nI u - nI 1)), (0, _), (1, _)]) dX8_fill_17 (by rfl) (sub_dec u) (by decide) (by rfl) rfl ?_
        refine R_goto (q := 4) dX8_fill_20 (by decide) ?_
        exact ih (by omega) kk
theorem l_mdn {l : Nat} {b : Nat → Bool} {x : Int32} (hb : ∀ k, k < 4 → w.1 [17] k = bI (b k = true)) (Q : Option AV → Wd → Prop) : ∀ (f k : Nat), 4 ≤ k + f → k ≤ 4 → Wq X 1 d MX8_fill 47 [(3, vI (nI (dv b f k))), (2, vI x), (0, vR 8 0 []), (1, vI (nI l))] [] w Q → Wq X 1 d MX8_fill 27 [(3, vI (nI k)), (2, vI x), (0, vR 8 0 []), (1, vI (nI l))] [] w Q := by
  intro f
  induction f with
  | zero =>
    intro k h1 h2 kk
    refine R_iload_n (i := 3) (q := 28) dX8_fill_27 rfl rfl rfl ?_
    refine R_iconst (v := nI 4) (q := 29) dX8_fill_28 (by decide) rfl ?_
    refine R_icmp_geN (by omega) (by omega) (tgt := 47) (q := 32) dX8_fill_29 (by decide) rfl (fun c1 => ?_) (fun c1 => ?_)
    · exact kk
    · omega
  | succ f ih =>
    intro k h1 h2 kk
    refine R_iload_n (i := 3) (q := 28) dX8_fill_27 rfl rfl rfl ?_
    refine R_iconst (v := nI 4) (q := 29) dX8_fill_28 (by decide) rfl ?_
    refine R_icmp_geN (by omega) (by omega) (tgt := 47) (q := 32) dX8_fill_29 (by decide) rfl (fun c1 => ?_) (fun c1 => ?_)
    · simp only [dv] at kk
      rw [if_neg (by omega)] at kk
      exact kk
    · refine R_aload_n (i := 0) (q := 33) dX8_fill_32 rfl rfl rfl ?_
      refine R_getR (q := 36) dX8_fill_33 fl_X8_38 rfl (by decide) rfl ?_
      refine R_iload_n (i := 3) (q := 37) dX8_fill_36 rfl rfl rfl ?_
      refine R_zald' (q := 38) dX8_fill_37 (rfl) (by omega) (by decide) (hb k c1) rfl ?_
      refine R_if_eqB (tgt := 47) (q := 41) dX8_fill_38 (by decide) rfl (fun c2 => ?_) (fun c2 => ?_)
      · simp only [dv] at kk
        rw [if_neg (fun h => c2 h.2)] at kk
        exact kk
      · simp only [dv] at kk
        rw [if_pos ⟨c1, c2⟩] at kk
        first | refine R_iincN (q := 44) (loc' := [(3, _), (2, _), (0, _), (1, _)]) dX8_fill_41 (by rfl) (by decide) (by rfl) rfl ?_ | refine R_iinc (q := 44) (loc' := [(3, _), (2, _), (0, _), (1, _)]) dX8_fill_41 (by rfl) (by rfl) (by decide) (by rfl) rfl ?_
        refine R_goto (q := 27) dX8_fill_44 (by decide) ?_
        exact ih (k + 1) (by omega) (by omega) kk
theorem l_mbl {l u dn : Nat} {D : Nat → Nat} (hl : l < 4) (hul : u ≤ l) (hdl : l < dn) (hdn : dn ≤ 4) (hD : ∀ k, D k ≤ 20) (h1 : 0 < u → ∀ j, j < 4 → w.1 [16] ((u - 1) * 4 + j) = nI (D ((u - 1) * 4 + j))) (h2 : dn < 4 → ∀ j, j < 4 → w.1 [16] (dn * 4 + j) = nI (D (dn * 4 + j))) : ∀ (f i : Nat), 4 ≤ i + f → i ≤ 4 → Wq X 1 d MX8_fill 50 [(4, vI (nI i)), (3, vI (nI dn)), (2, vI (nI u - nI 1)), (0, vR 8 0 []), (1, vI (nI l))] [] (uA w [16] (fun k => if 4 * l ≤ k ∧ k < 4 * l + i then nI (bw D u dn (k - 4 * l)) else w.1 [16] k)) (qV fun w' => w' = uA w [16] (fun k => if 4 * l ≤ k ∧ k < 4 * l + 4 then nI (bw D u dn (k - 4 * l)) else w.1 [16] k)) := by
  have upd_eq : ∀ (i : Nat), uI (uA w [16] (fun k => if 4 * l ≤ k ∧ k < 4 * l + i then nI (bw D u dn (k - 4 * l)) else w.1 [16] k)) [16] (4 * l + i) (nI (bw D u dn i)) = uA w [16] (fun k => if 4 * l ≤ k ∧ k < 4 * l + (i + 1) then nI (bw D u dn (k - 4 * l)) else w.1 [16] k) := by
    intro i
    unfold uI uA
    dsimp only
    congr 1
    funext q
    by_cases hq : q = [16]
    · simp only [if_pos hq, if_true]
      funext j
      simp only [upd]
      by_cases hj : j = 4 * l + i
      · rw [if_pos hj, if_pos (by omega), hj]
        congr 2
        omega
      · rw [if_neg hj]
        by_cases h3 : 4 * l ≤ j ∧ j < 4 * l + i
        · rw [if_pos h3, if_pos (by omega)]
        · rw [if_neg h3, if_neg (by omega)]
    · simp only [if_neg hq]
  have rd : ∀ (i k : Nat), (k < 4 * l ∨ 4 * l + 4 ≤ k) → i ≤ 4 → (uA w [16] (fun k => if 4 * l ≤ k ∧ k < 4 * l + i then nI (bw D u dn (k - 4 * l)) else w.1 [16] k)).1 [16] k = w.1 [16] k := by
    intro i k h hi
    rw [uA_same, if_neg (by omega)]
  intro f
  induction f with
  | zero =>
    intro i h3 h4
    refine R_iload (q := 52) dX8_fill_50 rfl rfl ?_
    refine R_iconst (v := nI 4) (q := 53) dX8_fill_52 (by decide) rfl ?_
    refine R_icmp_geN (by omega) (by omega) (tgt := 140) (q := 56) dX8_fill_53 (by decide) rfl (fun c1 => ?_) (fun c1 => ?_)
    · refine R_rv dX8_fill_140 rfl ?_
      have : i = 4 := by omega
      rw [this]
    · omega
  | succ f ih =>
    intro i h3 h4
    refine R_iload (q := 52) dX8_fill_50 rfl rfl ?_
    refine R_iconst (v := nI 4) (q := 53) dX8_fill_52 (by decide) rfl ?_
    refine R_icmp_geN (by omega) (by omega) (tgt := 140) (q := 56) dX8_fill_53 (by decide) rfl (fun c1 => ?_) (fun c1 => ?_)
    · refine R_rv dX8_fill_140 rfl ?_
      have : i = 4 := by omega
      rw [this]
    · have fin : ∀ a b : AV, Wq X 1 d MX8_fill 133 [(6, b), (5, a), (4, vI (nI i)), (3, vI (nI dn)), (2, vI (nI u - nI 1)), (0, vR 8 0 []), (1, vI (nI l))] [vI (nI (bw D u dn i)), vI (nI (4 * l + i)), vR 9 16 [16]] (uA w [16] (fun k => if 4 * l ≤ k ∧ k < 4 * l + i then nI (bw D u dn (k - 4 * l)) else w.1 [16] k)) (qV fun w' => w' = uA w [16] (fun k => if 4 * l ≤ k ∧ k < 4 * l + 4 then nI (bw D u dn (k - 4 * l)) else w.1 [16] k)) := by
        intro a b
        refine R_iast (q := 134) dX8_fill_133 (rfl) (by omega) (by decide) rfl ?_
        first | refine R_iincN (q := 137) (loc' := [(4, _), (6, _), (5, _), (3, _), (2, _), (0, _), (1, _)]) dX8_fill_134 (by rfl) (by decide) (by rfl) rfl ?_ | refine R_iinc (q := 137) (loc' := [(4, _), (6, _), (5, _), (3, _), (2, _), (0, _), (1, _)]) dX8_fill_134 (by rfl) (by rfl) (by decide) (by rfl) rfl ?_
        refine R_goto (q := 50) dX8_fill_137 (by decide) ?_
        rw [upd_eq i]
        refine R_loc [0, 3, 4, 5, 6] (loc' := [(4, _), (3, _), (2, _), (0, _), (1, _)]) (by rfl) ?_
        exact ih (i + 1) (by omega) (by omega)
      rcases Nat.eq_zero_or_pos u with hu | hu
      · subst hu
        refine R_iload_n (i := 2) (q := 57) dX8_fill_56 rfl rfl rfl ?_
        refine R_if_lt (tgt := 74) (q := 60) dX8_fill_57 (by decide) rfl (fun c2 => ?_) (fun c2 => ?_)
        · refine R_iconst (v := nI 0) (q := 75) dX8_fill_74 (by decide) rfl ?_
          refine R_istore (q := 77) (loc' := [(5, _), (4, _), (3, _), (2, _), (0, _), (1, _)]) dX8_fill_75 (by decide) (by rfl) rfl ?_
          refine R_iload_n (i := 3) (q := 78) dX8_fill_77 rfl rfl rfl ?_
          refine R_iconst (v := nI 4) (q := 79) dX8_fill_78 (by decide) rfl ?_
          refine R_icmp_geN (by omega) (by omega) (tgt := 96) (q := 82) dX8_fill_79 (by decide) rfl (fun c3 => ?_) (fun c3 => ?_)
          · have e9 : bw D 0 dn i = 0 := by unfold bw; rw [if_pos rfl, if_pos c3]
            rw [e9] at fin
            refine R_iconst (v := nI 0) (q := 97) dX8_fill_96 (by decide) rfl ?_
            refine R_istore (q := 99) (loc' := [(6, _), (5, _), (4, _), (3, _), (2, _), (0, _), (1, _)]) dX8_fill_97 (by decide) (by rfl) rfl ?_
            refine R_aload_n (i := 0) (q := 100) dX8_fill_99 rfl rfl rfl ?_
            refine R_getR (q := 103) dX8_fill_100 fl_X8_35 rfl (by decide) rfl ?_
            refine R_iconst (v := nI 4) (q := 104) dX8_fill_103 (by decide) rfl ?_
            refine R_iload_n (i := 1) (q := 105) dX8_fill_104 rfl rfl rfl ?_
            first | refine R_imulN (q := 106) dX8_fill_105 rfl ?_ | refine R_imul (q := 106) dX8_fill_105 rfl ?_
            refine R_iload (q := 108) dX8_fill_106 rfl rfl ?_
            first | refine R_iaddN (q := 109) dX8_fill_108 rfl ?_ | refine R_iadd (q := 109) dX8_fill_108 rfl ?_
            refine R_iload_n (i := 2) (q := 110) dX8_fill_109 rfl rfl rfl ?_
            refine R_if_lt (tgt := 128) (q := 113) dX8_fill_110 (by decide) rfl (fun c4 => ?_) (fun c4 => ?_)
            · refine R_iload (q := 130) dX8_fill_128 rfl rfl ?_
              refine R_iload (q := 132) dX8_fill_130 rfl rfl ?_
              first | refine R_iaddN (q := 133) dX8_fill_132 rfl ?_ | refine R_iadd (q := 133) dX8_fill_132 rfl ?_
              exact fin _ _
            · exact absurd (by decide) c4
          · have e9 : bw D 0 dn i = D (dn * 4 + i) := by unfold bw; rw [if_pos rfl, if_neg (by omega)]
            rw [e9] at fin
            have hv : (uA w [16] (fun k => if 4 * l ≤ k ∧ k < 4 * l + i then nI (bw D 0 dn (k - 4 * l)) else w.1 [16] k)).1 [16] (4 * dn + i) = nI (D (dn * 4 + i)) := by
              rw [rd i _ (by omega) h4, Nat.mul_comm 4 dn]
              exact h2 c3 i c1
            refine R_aload_n (i := 0) (q := 83) dX8_fill_82 rfl rfl rfl ?_
            refine R_getR (q := 86) dX8_fill_83 fl_X8_35 rfl (by decide) rfl ?_
            refine R_iconst (v := nI 4) (q := 87) dX8_fill_86 (by decide) rfl ?_
            refine R_iload_n (i := 3) (q := 88) dX8_fill_87 rfl rfl rfl ?_
            first | refine R_imulN (q := 89) dX8_fill_88 rfl ?_ | refine R_imul (q := 89) dX8_fill_88 rfl ?_
            refine R_iload (q := 91) dX8_fill_89 rfl rfl ?_
            first | refine R_iaddN (q := 92) dX8_fill_91 rfl ?_ | refine R_iadd (q := 92) dX8_fill_91 rfl ?_
            refine R_iald' (q := 93) dX8_fill_92 (rfl) (by omega) (by decide) (hv) rfl ?_
            refine R_goto (q := 97) dX8_fill_93 (by decide) ?_
            refine R_istore (q := 99) (loc' := [(6, _), (5, _), (4, _), (3, _), (2, _), (0, _), (1, _)]) dX8_fill_97 (by decide) (by rfl) rfl ?_
            refine R_aload_n (i := 0) (q := 100) dX8_fill_99 rfl rfl rfl ?_
            refine R_getR (q := 103) dX8_fill_100 fl_X8_35 rfl (by decide) rfl ?_
            refine R_iconst (v := nI 4) (q := 104) dX8_fill_103 (by decide) rfl ?_
            refine R_iload_n (i := 1) (q := 105) dX8_fill_104 rfl rfl rfl ?_
            first | refine R_imulN (q := 106) dX8_fill_105 rfl ?_ | refine R_imul (q := 106) dX8_fill_105 rfl ?_
            refine R_iload (q := 108) dX8_fill_106 rfl rfl ?_
            first | refine R_iaddN (q := 109) dX8_fill_108 rfl ?_ | refine R_iadd (q := 109) dX8_fill_108 rfl ?_
            refine R_iload_n (i := 2) (q := 110) dX8_fill_109 rfl rfl rfl ?_
            refine R_if_lt (tgt := 128) (q := 113) dX8_fill_110 (by decide) rfl (fun c4 => ?_) (fun c4 => ?_)
            · refine R_iload (q := 130) dX8_fill_128 rfl rfl ?_
              refine R_iload (q := 132) dX8_fill_130 rfl rfl ?_
              first | refine R_iaddN (q := 133) dX8_fill_132 rfl ?_ | refine R_iadd (q := 133) dX8_fill_132 rfl ?_
              rw [Nat.zero_add]
              exact fin _ _
            · exact absurd (by decide) c4
        · exact absurd (by decide) c2
      · obtain ⟨v, rfl⟩ : ∃ v, u = v + 1 := ⟨u - 1, by omega⟩
        have e0 : nI (v + 1) - nI 1 = nI v := by rw [pk_sub (by omega)]; rfl
        rw [e0] at fin ⊢
        have h1v := h1 hu i c1
        rw [Nat.add_sub_cancel] at h1v
        have hpos : ¬ nI v < 0 := nI_pos (by omega)
        have hv1 : (uA w [16] (fun k => if 4 * l ≤ k ∧ k < 4 * l + i then nI (bw D (v + 1) dn (k - 4 * l)) else w.1 [16] k)).1 [16] (4 * v + i) = nI (D (v * 4 + i)) := by
          rw [rd i _ (by omega) h4, Nat.mul_comm 4 v]
          exact h1v
        refine R_iload_n (i := 2) (q := 57) dX8_fill_56 rfl rfl rfl ?_
        refine R_if_lt (tgt := 74) (q := 60) dX8_fill_57 (by decide) rfl (fun c2 => ?_) (fun c2 => ?_)
        · exact absurd c2 hpos
        · refine R_aload_n (i := 0) (q := 61) dX8_fill_60 rfl rfl rfl ?_
          refine R_getR (q := 64) dX8_fill_61 fl_X8_35 rfl (by decide) rfl ?_
          refine R_iconst (v := nI 4) (q := 65) dX8_fill_64 (by decide) rfl ?_
          refine R_iload_n (i := 2) (q := 66) dX8_fill_65 rfl rfl rfl ?_
          first | refine R_imulN (q := 67) dX8_fill_66 rfl ?_ | refine R_imul (q := 67) dX8_fill_66 rfl ?_
          refine R_iload (q := 69) dX8_fill_67 rfl rfl ?_
          first | refine R_iaddN (q := 70) dX8_fill_69 rfl ?_ | refine R_iadd (q := 70) dX8_fill_69 rfl ?_
          refine R_iald' (q := 71) dX8_fill_70 (rfl) (by omega) (by decide) (hv1) rfl ?_
          refine R_goto (q := 75) dX8_fill_71 (by decide) ?_
          refine R_istore (q := 77) (loc' := [(5, _), (4, _), (3, _), (2, _), (0, _), (1, _)]) dX8_fill_75 (by decide) (by rfl) rfl ?_
          refine R_iload_n (i := 3) (q := 78) dX8_fill_77 rfl rfl rfl ?_
          refine R_iconst (v := nI 4) (q := 79) dX8_fill_78 (by decide) rfl ?_
          refine R_icmp_geN (by omega) (by omega) (tgt := 96) (q := 82) dX8_fill_79 (by decide) rfl (fun c3 => ?_) (fun c3 => ?_)
          · have e9 : bw D (v + 1) dn i = D (v * 4 + i) := by unfold bw; rw [if_neg (by omega), if_pos c3, Nat.add_sub_cancel]
            rw [e9] at fin
            refine R_iconst (v := nI 0) (q := 97) dX8_fill_96 (by decide) rfl ?_
            refine R_istore (q := 99) (loc' := [(6, _), (5, _), (4, _), (3, _), (2, _), (0, _), (1, _)]) dX8_fill_97 (by decide) (by rfl) rfl ?_
            refine R_aload_n (i := 0) (q := 100) dX8_fill_99 rfl rfl rfl ?_
            refine R_getR (q := 103) dX8_fill_100 fl_X8_35 rfl (by decide) rfl ?_
            refine R_iconst (v := nI 4) (q := 104) dX8_fill_103 (by decide) rfl ?_
            refine R_iload_n (i := 1) (q := 105) dX8_fill_104 rfl rfl rfl ?_
            first | refine R_imulN (q := 106) dX8_fill_105 rfl ?_ | refine R_imul (q := 106) dX8_fill_105 rfl ?_
            refine R_iload (q := 108) dX8_fill_106 rfl rfl ?_
            first | refine R_iaddN (q := 109) dX8_fill_108 rfl ?_ | refine R_iadd (q := 109) dX8_fill_108 rfl ?_
            refine R_iload_n (i := 2) (q := 110) dX8_fill_109 rfl rfl rfl ?_
            refine R_if_lt (tgt := 128) (q := 113) dX8_fill_110 (by decide) rfl (fun c4 => ?_) (fun c4 => ?_)
            · exact absurd c4 hpos
            · refine R_iload_n (i := 3) (q := 114) dX8_fill_113 rfl rfl rfl ?_
              refine R_iconst (v := nI 4) (q := 115) dX8_fill_114 (by decide) rfl ?_
              refine R_icmp_geN (by omega) (by omega) (tgt := 128) (q := 118) dX8_fill_115 (by decide) rfl (fun c5 => ?_) (fun c5 => ?_)
              · refine R_iload (q := 130) dX8_fill_128 rfl rfl ?_
                refine R_iload (q := 132) dX8_fill_130 rfl rfl ?_
                first | refine R_iaddN (q := 133) dX8_fill_132 rfl ?_ | refine R_iadd (q := 133) dX8_fill_132 rfl ?_
                rw [Nat.add_zero]
                exact fin _ _
              · omega
          · have e9 : bw D (v + 1) dn i = (D (v * 4 + i) + D (dn * 4 + i)) / 2 := by unfold bw; rw [if_neg (by omega), if_neg (by omega), Nat.add_sub_cancel]
            rw [e9] at fin
            have hv : (uA w [16] (fun k => if 4 * l ≤ k ∧ k < 4 * l + i then nI (bw D (v + 1) dn (k - 4 * l)) else w.1 [16] k)).1 [16] (4 * dn + i) = nI (D (dn * 4 + i)) := by
              rw [rd i _ (by omega) h4, Nat.mul_comm 4 dn]
              exact h2 c3 i c1
            have d1 := hD (v * 4 + i)
            have d2 := hD (dn * 4 + i)
            refine R_aload_n (i := 0) (q := 83) dX8_fill_82 rfl rfl rfl ?_
            refine R_getR (q := 86) dX8_fill_83 fl_X8_35 rfl (by decide) rfl ?_
            refine R_iconst (v := nI 4) (q := 87) dX8_fill_86 (by decide) rfl ?_
            refine R_iload_n (i := 3) (q := 88) dX8_fill_87 rfl rfl rfl ?_
            first | refine R_imulN (q := 89) dX8_fill_88 rfl ?_ | refine R_imul (q := 89) dX8_fill_88 rfl ?_
            refine R_iload (q := 91) dX8_fill_89 rfl rfl ?_
            first | refine R_iaddN (q := 92) dX8_fill_91 rfl ?_ | refine R_iadd (q := 92) dX8_fill_91 rfl ?_
            refine R_iald' (q := 93) dX8_fill_92 (rfl) (by omega) (by decide) (hv) rfl ?_
            refine R_goto (q := 97) dX8_fill_93 (by decide) ?_
            refine R_istore (q := 99) (loc' := [(6, _), (5, _), (4, _), (3, _), (2, _), (0, _), (1, _)]) dX8_fill_97 (by decide) (by rfl) rfl ?_
            refine R_aload_n (i := 0) (q := 100) dX8_fill_99 rfl rfl rfl ?_
            refine R_getR (q := 103) dX8_fill_100 fl_X8_35 rfl (by decide) rfl ?_
            refine R_iconst (v := nI 4) (q := 104) dX8_fill_103 (by decide) rfl ?_
            refine R_iload_n (i := 1) (q := 105) dX8_fill_104 rfl rfl rfl ?_
            first | refine R_imulN (q := 106) dX8_fill_105 rfl ?_ | refine R_imul (q := 106) dX8_fill_105 rfl ?_
            refine R_iload (q := 108) dX8_fill_106 rfl rfl ?_
            first | refine R_iaddN (q := 109) dX8_fill_108 rfl ?_ | refine R_iadd (q := 109) dX8_fill_108 rfl ?_
            refine R_iload_n (i := 2) (q := 110) dX8_fill_109 rfl rfl rfl ?_
            refine R_if_lt (tgt := 128) (q := 113) dX8_fill_110 (by decide) rfl (fun c4 => ?_) (fun c4 => ?_)
            · exact absurd c4 hpos
            · refine R_iload_n (i := 3) (q := 114) dX8_fill_113 rfl rfl rfl ?_
              refine R_iconst (v := nI 4) (q := 115) dX8_fill_114 (by decide) rfl ?_
              refine R_icmp_geN (by omega) (by omega) (tgt := 128) (q := 118) dX8_fill_115 (by decide) rfl (fun c5 => ?_) (fun c5 => ?_)
              · omega
              · refine R_iload (q := 120) dX8_fill_118 rfl rfl ?_
                refine R_iload (q := 122) dX8_fill_120 rfl rfl ?_
                first | refine R_iaddN (q := 123) dX8_fill_122 rfl ?_ | refine R_iadd (q := 123) dX8_fill_122 rfl ?_
                refine R_iconst (v := nI 2) (q := 124) dX8_fill_123 (by decide) rfl ?_
                refine R_idivN (by omega) (by omega) (by omega) (q := 125) dX8_fill_124 rfl ?_
                refine R_goto (q := 133) dX8_fill_125 (by decide) ?_
                exact fin _ _
theorem c_mfill {l : Nat} {b : Nat → Bool} {D : Nat → Nat} (hb : ∀ k, k < 4 → w.1 [17] k = bI (b k = true)) (hl : l < 4) (hD : ∀ k, D k ≤ 20) (hA : ∀ k, k < 16 → b (k / 4) = false → w.1 [16] k = nI (D k)) : Ct X 1 d MX8_fill [vR 8 0 [], vI (nI l)] w (qV fun w' => w' = uA w [16] (fun k => if 4 * l ≤ k ∧ k < 4 * l + 4 then nI (bw D (uv b l) (dv b 4 (l + 1)) (k - 4 * l)) else w.1 [16] k)) := by
  have hu := uv_le b l
  have hn := uv_nb b l
  have hdv := dv_nb b 4 (l + 1) (by omega) (by omega)
  refine Ct.of (by decide) rfl (Nat.le_of_ble_eq_true rfl) ?_
  show Wq _ _ _ _ 0 [(0, _), (1, _)] [] _ _
  refine R_iload_n (i := 1) (q := 1) dX8_fill_0 rfl rfl rfl ?_
  refine R_iconst (v := nI 1) (q := 2) dX8_fill_1 (by decide) rfl ?_
  refine R_isub (q := 3) dX8_fill_2 rfl ?_
  refine R_istore_n (i := 2) (q := 4) (loc' := [(2, _), (0, _), (1, _)]) dX8_fill_3 rfl (by decide) (by rfl) rfl ?_
  refine l_mup hb _ l (by omega) ?_
  refine R_iload_n (i := 1) (q := 24) dX8_fill_23 rfl rfl rfl ?_
  refine R_iconst (v := nI 1) (q := 25) dX8_fill_24 (by decide) rfl ?_
  first | refine R_iaddN (q := 26) dX8_fill_25 rfl ?_ | refine R_iadd (q := 26) dX8_fill_25 rfl ?_
  refine R_istore_n (i := 3) (q := 27) (loc' := [(3, _), (2, _), (0, _), (1, _)]) dX8_fill_26 rfl (by decide) (by rfl) rfl ?_
  refine l_mdn hb _ 4 (l + 1) (by omega) (by omega) ?_
  refine R_iconst (v := nI 0) (q := 48) dX8_fill_47 (by decide) rfl ?_
  refine R_istore (q := 50) (loc' := [(4, _), (3, _), (2, _), (0, _), (1, _)]) dX8_fill_48 (by decide) (by rfl) rfl ?_
  have h := l_mbl (X := X) (d := d) (w := w) (l := l) (u := uv b l) (dn := dv b 4 (l + 1)) (D := D) hl hu (by omega) (by omega) hD ?_ ?_ 4 0 (by omega) (by omega)
  · rw [uA_id w [16] _ (fun k => if_neg (by omega))] at h
    exact h
  · intro h0 j hj
    rcases hn with hn | ⟨hn1, hn2⟩
    · omega
    · refine hA _ (by omega) ?_
      rw [show ((uv b l - 1) * 4 + j) / 4 = uv b l - 1 by omega]
      exact hn2
  · intro h0 j hj
    rcases hdv with hdv | ⟨h3, h4, h5⟩
    · omega
    · refine hA _ (by omega) ?_
      rw [show (dv b 4 (l + 1) * 4 + j) / 4 = dv b 4 (l + 1) by omega]
      exact h5
theorem l_li {S : Pic} {sh lo l : Nat} (hn : w.1 [] 4 = nI (pN S)) (hO : OKr S) (hS : RowA w q S) (hq : q = [5] ∨ q = [6]) (hl : l < 4) (hbl : w.1 [17] l = bI (blk sh lo l = true)) (hnb : blk sh lo l = false) (hab : rC lo l ∨ cC sh lo l) (Q : Option AV → Wd → Prop) (kk : Wq X 1 (d + 3) MX8_layOut 114 [(6, vI (nI 4)), (5, vI (bI (cC sh lo l))), (4, vI (bI (rC lo l))), (3, vI (nI l)), (0, vR 8 0 []), (1, vR 9 38 q), (2, vI (nI lo))] [] (uA w [16] (fun k => if 4 * l ≤ k ∧ k < 4 * l + 4 then nI (vk S sh lo k) else w.1 [16] k)) Q) : ∀ (f i : Nat), 4 ≤ i + f → i ≤ 4 → Wq X 1 (d + 3) MX8_layOut 70 [(6, vI (nI i)), (5, vI (bI (cC sh lo l))), (4, vI (bI (rC lo l))), (3, vI (nI l)), (0, vR 8 0 []), (1, vR 9 38 q), (2, vI (nI lo))] [] (uA w [16] (fun k => if 4 * l ≤ k ∧ k < 4 * l + i then nI (vk S sh lo k) else w.1 [16] k)) Q := by
  have hq16 : q ∉ [[16]] := by rcases hq with rfl | rfl <;> decide
  have upd_eq : ∀ (i : Nat), i < 4 → uI (uA w [16] (fun k => if 4 * l ≤ k ∧ k < 4 * l + i then nI (vk S sh lo k) else w.1 [16] k)) [16] (4 * l + i) (nI (vl S (rC lo l) (cC sh lo l) (4 * l + i))) = uA w [16] (fun k => if 4 * l ≤ k ∧ k < 4 * l + (i + 1) then nI (vk S sh lo k) else w.1 [16] k) := by
    intro i hi
    unfold uI uA
    dsimp only
    congr 1
    funext q
    by_cases hq : q = [16]
    · simp only [if_pos hq, if_true]
      funext j
      simp only [upd]
      by_cases hj : j = 4 * l + i
      · rw [if_pos hj, if_pos (by omega), hj]
        unfold vk
        rw [show (4 * l + i) / 4 = l by omega]
      · rw [if_neg hj]
        by_cases h3 : 4 * l ≤ j ∧ j < 4 * l + i
        · rw [if_pos h3, if_pos (by omega)]
        · rw [if_neg h3, if_neg (by omega)]
    · simp only [if_neg hq]
  intro f
  induction f with
  | zero =>
    intro i h3 h4
    refine R_iload (q := 72) dX8_layOut_70 rfl rfl ?_
    refine R_iconst (v := nI 4) (q := 73) dX8_layOut_72 (by decide) rfl ?_
    refine R_icmp_geN (by omega) (by omega) (tgt := 114) (q := 76) dX8_layOut_73 (by decide) rfl (fun c1 => ?_) (fun c1 => ?_)
    · obtain rfl : i = 4 := by omega
      exact kk
    · omega
  | succ f ih =>
    intro i h3 h4
    refine R_iload (q := 72) dX8_layOut_70 rfl rfl ?_
    refine R_iconst (v := nI 4) (q := 73) dX8_layOut_72 (by decide) rfl ?_
    refine R_icmp_geN (by omega) (by omega) (tgt := 114) (q := 76) dX8_layOut_73 (by decide) rfl (fun c1 => ?_) (fun c1 => ?_)
    · obtain rfl : i = 4 := by omega
      exact kk
    · refine R_aload_n (i := 0) (q := 77) dX8_layOut_76 rfl rfl rfl ?_
      refine R_getR (q := 80) dX8_layOut_77 fl_X8_38 rfl (by decide) rfl ?_
      refine R_iload_n (i := 3) (q := 81) dX8_layOut_80 rfl rfl rfl ?_
      refine R_zald' (q := 82) dX8_layOut_81 (rfl) (by omega) (by decide) ((congrFun (uA_ne (by decide)) l).trans hbl) rfl ?_
      refine R_if_neB (tgt := 114) (q := 85) dX8_layOut_82 (by decide) rfl (fun c2 => ?_) (fun c2 => ?_)
      · rw [hnb] at c2
        cases c2
      · have hS1 : RowA (uA w [16] (fun k => if 4 * l ≤ k ∧ k < 4 * l + i then nI (vk S sh lo k) else w.1 [16] k)) q S := hS.fr (Fr.a (by simp)) hq16
        refine R_aload_n (i := 0) (q := 86) dX8_layOut_85 rfl rfl rfl ?_
        refine R_getR (q := 89) dX8_layOut_86 fl_X8_35 rfl (by decide) rfl ?_
        refine R_iconst (v := nI 4) (q := 90) dX8_layOut_89 (by decide) rfl ?_
        refine R_iload_n (i := 3) (q := 91) dX8_layOut_90 rfl rfl rfl ?_
        first | refine R_imulN (q := 92) dX8_layOut_91 rfl ?_ | refine R_imul (q := 92) dX8_layOut_91 rfl ?_
        refine R_iload (q := 94) dX8_layOut_92 rfl rfl ?_
        first | refine R_iaddN (q := 95) dX8_layOut_94 rfl ?_ | refine R_iadd (q := 95) dX8_layOut_94 rfl ?_
        refine R_aload_n (i := 0) (q := 96) dX8_layOut_95 rfl rfl rfl ?_
        refine R_aload_n (i := 1) (q := 97) dX8_layOut_96 rfl rfl rfl ?_
        refine R_iload_n (i := 3) (q := 98) dX8_layOut_97 rfl rfl rfl ?_
        refine R_iload (q := 100) dX8_layOut_98 rfl rfl ?_
        refine R_iload (q := 102) dX8_layOut_100 rfl rfl ?_
        refine R_iload (q := 104) dX8_layOut_102 rfl rfl ?_
        refine R_cV5i (M' := MX8_comes) (q := 107) dX8_layOut_104 ml_X8_118 mk_X8_comes (Nat.le_of_ble_eq_true rfl) rfl (c_comes ((congrFun (uA_ne (by decide)) 4).trans hn) hO hS1 hl c1 hab) ?_
        rintro _ w9 ⟨rfl, rfl⟩
        refine R_iast (q := 108) dX8_layOut_107 (rfl) (by omega) (by decide) rfl ?_
        first | refine R_iincN (q := 111) (loc' := [(6, _), (5, _), (4, _), (3, _), (0, _), (1, _), (2, _)]) dX8_layOut_108 (by rfl) (by decide) (by rfl) rfl ?_ | refine R_iinc (q := 111) (loc' := [(6, _), (5, _), (4, _), (3, _), (0, _), (1, _), (2, _)]) dX8_layOut_108 (by rfl) (by rfl) (by decide) (by rfl) rfl ?_
        refine R_goto (q := 70) dX8_layOut_111 (by decide) ?_
        rw [upd_eq i c1]
        exact ih (i + 1) (by omega) (by omega)
theorem l_l1 {S : Pic} {sh lo : Nat} {w0 : Wd} (hn0 : w0.1 [] 4 = nI (pN S)) (hO : OKr S) (hS0 : RowA w0 q S) (hsh : sh = pH S) (hq : q = [5] ∨ q = [6]) (hlo : lo < 16) (Q : Option AV → Wd → Prop) (kk : ∀ w, (∀ j, j < 4 → w.1 [17] j = bI (blk sh lo j = true)) → (∀ k, k < 16 → blk sh lo (k / 4) = false → w.1 [16] k = nI (vk S sh lo k)) → Fr FL2 w0 w → Wq X 1 (d + 3) MX8_layOut 120 [(3, vI (nI 4)), (0, vR 8 0 []), (1, vR 9 38 q), (2, vI (nI lo))] [] w Q) : ∀ (f l : Nat) (w : Wd), 4 ≤ l + f → l ≤ 4 → (∀ j, j < l → w.1 [17] j = bI (blk sh lo j = true)) → (∀ k, k < 16 → k / 4 < l → blk sh lo (k / 4) = false → w.1 [16] k = nI (vk S sh lo k)) → Fr FL2 w0 w → Wq X 1 (d + 3) MX8_layOut 2 [(3, vI (nI l)), (0, vR 8 0 []), (1, vR 9 38 q), (2, vI (nI lo))] [] w Q := by
  have hqF : q ∉ FL2 := by rcases hq with rfl | rfl <;> decide
  have hsh4 : sh < 4 := by rw [hsh]; exact hO.2.1
  intro f
  induction f with
  | zero =>
    intro l w h1 h2 hB hA hF
    refine R_iload_n (i := 3) (q := 3) dX8_layOut_2 rfl rfl rfl ?_
    refine R_iconst (v := nI 4) (q := 4) dX8_layOut_3 (by decide) rfl ?_
    refine R_icmp_geN (by omega) (by omega) (tgt := 120) (q := 7) dX8_layOut_4 (by decide) rfl (fun c1 => ?_) (fun c1 => ?_)
    · obtain rfl : l = 4 := by omega
      exact kk w hB (fun k hk hb => hA k hk (by omega) hb) hF
    · omega
  | succ f ih =>
    intro l w h1 h2 hB hA hF
    refine R_iload_n (i := 3) (q := 3) dX8_layOut_2 rfl rfl rfl ?_
    refine R_iconst (v := nI 4) (q := 4) dX8_layOut_3 (by decide) rfl ?_
    refine R_icmp_geN (by omega) (by omega) (tgt := 120) (q := 7) dX8_layOut_4 (by decide) rfl (fun c1 => ?_) (fun c1 => ?_)
    · obtain rfl : l = 4 := by omega
      exact kk w hB (fun k hk hb => hA k hk (by omega) hb) hF
    · have hm4 : (l + 4 - sh) % 4 < 4 := Nat.mod_lt _ (by decide)
      have hSw := hS0.fr hF hqF
      have hnw : w.1 [] 4 = nI (pN S) := by rw [hF.2 _ (by decide)]; exact hn0
      have k66 : Wq X 1 (d + 3) MX8_layOut 66 [(5, vI (bI (cC sh lo l))), (4, vI (bI (rC lo l))), (3, vI (nI l)), (0, vR 8 0 []), (1, vR 9 38 q), (2, vI (nI lo))] [vI (bI (blk sh lo l = true)), vI (nI l), vR 10 4 [17]] w Q := by
        refine R_zast (q := 67) dX8_layOut_66 rfl c1 (by decide) (bI_b _) rfl ?_
        refine R_iconst (v := nI 0) (q := 68) dX8_layOut_67 (by decide) rfl ?_
        refine R_istore (q := 70) (loc' := [(6, _), (5, _), (4, _), (3, _), (0, _), (1, _), (2, _)]) dX8_layOut_68 (by decide) (by rfl) rfl ?_
        have hF1 : Fr [[17]] w (uI w [17] l (bI (blk sh lo l = true))) := Fr.i (by simp)
        have hB1 : ∀ j, j < l + 1 → (uI w [17] l (bI (blk sh lo l = true))).1 [17] j = bI (blk sh lo j = true) := by
          intro j hj
          by_cases h : j = l
          · rw [h]; exact uI_same _ _ _ _
          · rw [uI_ne h]; exact hB j (by omega)
        by_cases hbk : blk sh lo l = true
        · skip
          refine R_iload (q := 72) dX8_layOut_70 rfl rfl ?_
          refine R_iconst (v := nI 4) (q := 73) dX8_layOut_72 (by decide) rfl ?_
          refine R_icmp_geN (by omega) (by omega) (tgt := 114) (q := 76) dX8_layOut_73 (by decide) rfl (fun c5 => ?_) (fun c5 => ?_)
          · omega
          · refine R_aload_n (i := 0) (q := 77) dX8_layOut_76 rfl rfl rfl ?_
            refine R_getR (q := 80) dX8_layOut_77 fl_X8_38 rfl (by decide) rfl ?_
            refine R_iload_n (i := 3) (q := 81) dX8_layOut_80 rfl rfl rfl ?_
            refine R_zald' (q := 82) dX8_layOut_81 (rfl) (by omega) (by decide) (hB1 l (by omega)) rfl ?_
            refine R_if_neB (tgt := 114) (q := 85) dX8_layOut_82 (by decide) rfl (fun c6 => ?_) (fun c6 => ?_)
            · first | refine R_iincN (q := 117) (loc' := [(3, _), (6, _), (5, _), (4, _), (0, _), (1, _), (2, _)]) dX8_layOut_114 (by rfl) (by decide) (by rfl) rfl ?_ | refine R_iinc (q := 117) (loc' := [(3, _), (6, _), (5, _), (4, _), (0, _), (1, _), (2, _)]) dX8_layOut_114 (by rfl) (by rfl) (by decide) (by rfl) rfl ?_
              refine R_goto (q := 2) dX8_layOut_117 (by decide) ?_
              refine R_loc [0, 4, 5, 6] (loc' := [(3, _), (0, _), (1, _), (2, _)]) (by rfl) ?_
              refine ih (l + 1) _ (by omega) (by omega) hB1 ?_ (hF.tr (hF1.up (by decide)))
              intro k hk hkl hb
              rw [uI_nep (by decide)]
              refine hA k hk ?_ hb
              rcases Nat.lt_or_ge (k / 4) l with h9 | h9
              · exact h9
              · have : k / 4 = l := by omega
                rw [this, hbk] at hb
                cases hb
            · exact absurd hbk c6
        · have hbf : blk sh lo l = false := by
            cases h : blk sh lo l
            · rfl
            · exact absurd h hbk
          have hab : rC lo l ∨ cC sh lo l := by
            by_cases h5 : rC lo l
            · exact Or.inl h5
            · by_cases h6 : cC sh lo l
              · exact Or.inr h6
              · exact absurd (blk_t h5 h6) hbk
          have hin := l_li (X := X) (d := d) (w := uI w [17] l (bI (blk sh lo l = true))) (sh := sh) (lo := lo) (by rw [uI_nep (by decide)]; exact hnw) hO (hSw.fr hF1 (fun h => hqF (by simp at h; simp [h]))) hq c1 (hB1 l (by omega)) hbf hab Q ?_ 4 0 (by omega) (by omega)
          · rw [uA_id _ [16] _ (fun k => if_neg (by omega))] at hin
            exact hin
          · skip
            first | refine R_iincN (q := 117) (loc' := [(3, _), (6, _), (5, _), (4, _), (0, _), (1, _), (2, _)]) dX8_layOut_114 (by rfl) (by decide) (by rfl) rfl ?_ | refine R_iinc (q := 117) (loc' := [(3, _), (6, _), (5, _), (4, _), (0, _), (1, _), (2, _)]) dX8_layOut_114 (by rfl) (by rfl) (by decide) (by rfl) rfl ?_
            refine R_goto (q := 2) dX8_layOut_117 (by decide) ?_
            refine R_loc [0, 4, 5, 6] (loc' := [(3, _), (0, _), (1, _), (2, _)]) (by rfl) ?_
            refine ih (l + 1) _ (by omega) (by omega) ?_ ?_ ((hF.tr (hF1.up (by decide))).tr (Fr.a (by decide)))
            · intro j hj
              rw [uA_ne (by decide)]
              exact hB1 j hj
            · intro k hk hkl hb
              rw [uA_same]
              by_cases h9 : 4 * l ≤ k ∧ k < 4 * l + 4
              · rw [if_pos h9]
              · rw [if_neg h9, uI_nep (by decide)]
                exact hA k hk (by omega) hb
      have k44 : Wq X 1 (d + 3) MX8_layOut 44 [(4, vI (bI (rC lo l))), (3, vI (nI l)), (0, vR 8 0 []), (1, vR 9 38 q), (2, vI (nI lo))] [vI (bI (cC sh lo l))] w Q := by
        refine R_istore (q := 46) (loc' := [(5, _), (4, _), (3, _), (0, _), (1, _), (2, _)]) dX8_layOut_44 (by decide) (by rfl) rfl ?_
        refine R_aload_n (i := 0) (q := 47) dX8_layOut_46 rfl rfl rfl ?_
        refine R_getR (q := 50) dX8_layOut_47 fl_X8_38 rfl (by decide) rfl ?_
        refine R_iload_n (i := 3) (q := 51) dX8_layOut_50 rfl rfl rfl ?_
        refine R_iload (q := 53) dX8_layOut_51 rfl rfl ?_
        refine R_if_neB (tgt := 65) (q := 56) dX8_layOut_53 (by decide) rfl (fun c3 => ?_) (fun c3 => ?_)
        · rw [show blk sh lo l = false from blk_f (Or.inl c3)] at k66
          refine R_iconst (v := nI 0) (q := 66) dX8_layOut_65 (by decide) rfl ?_
          exact k66
        · refine R_iload (q := 58) dX8_layOut_56 rfl rfl ?_
          refine R_if_neB (tgt := 65) (q := 61) dX8_layOut_58 (by decide) rfl (fun c4 => ?_) (fun c4 => ?_)
          · rw [show blk sh lo l = false from blk_f (Or.inr c4)] at k66
            refine R_iconst (v := nI 0) (q := 66) dX8_layOut_65 (by decide) rfl ?_
            exact k66
          · rw [show blk sh lo l = true from blk_t c3 c4] at k66
            refine R_iconst (v := nI 1) (q := 62) dX8_layOut_61 (by decide) rfl ?_
            refine R_goto (q := 66) dX8_layOut_62 (by decide) ?_
            exact k66
      have k20 : Wq X 1 (d + 3) MX8_layOut 20 [(3, vI (nI l)), (0, vR 8 0 []), (1, vR 9 38 q), (2, vI (nI lo))] [vI (bI (rC lo l))] w Q := by
        refine R_istore (q := 22) (loc' := [(4, _), (3, _), (0, _), (1, _), (2, _)]) dX8_layOut_20 (by decide) (by rfl) rfl ?_
        refine R_iload_n (i := 2) (q := 23) dX8_layOut_22 rfl rfl rfl ?_
        refine R_iload_n (i := 3) (q := 24) dX8_layOut_23 rfl rfl rfl ?_
        refine R_iconst (v := nI 4) (q := 25) dX8_layOut_24 (by decide) rfl ?_
        first | refine R_iaddN (q := 26) dX8_layOut_25 rfl ?_ | refine R_iadd (q := 26) dX8_layOut_25 rfl ?_
        refine R_aload_n (i := 1) (q := 27) dX8_layOut_26 rfl rfl rfl ?_
        refine R_bipush (v := nI 36) (q := 29) dX8_layOut_27 (by decide) rfl ?_
        refine R_iald' (q := 30) dX8_layOut_29 (rfl) (by omega) (by decide) (show w.1 q 36 = nI sh by rw [hsh]; exact hSw.2.2.1) rfl ?_
        refine R_isubN (by omega) (q := 31) dX8_layOut_30 rfl ?_
        refine R_iconst (v := nI 4) (q := 32) dX8_layOut_31 (by decide) rfl ?_
        refine R_iremN (by omega) (by omega) (by omega) (q := 33) dX8_layOut_32 rfl ?_
        refine R_cS2i (M' := MX8_has) (q := 36) dX8_layOut_33 ml_X8_114 mk_X8_has (Nat.le_of_ble_eq_true rfl) rfl (c_has hlo hm4) ?_
        rintro _ w9 ⟨rfl, rfl⟩
        have hb9 := bitN_lt lo ((l + 4 - sh) % 4)
        refine R_if_neB (tgt := 43) (q := 39) dX8_layOut_36 (by decide) rfl (fun c3 => ?_) (fun c3 => ?_)
        · rw [show bI (cC sh lo l) = nI 0 from bI_f (by show ¬ bitN lo ((l + 4 - sh) % 4) = 0; omega)] at k44
          refine R_iconst (v := nI 0) (q := 44) dX8_layOut_43 (by decide) rfl ?_
          exact k44
        · rw [show bI (cC sh lo l) = nI 1 from bI_t (show bitN lo ((l + 4 - sh) % 4) = 0 by omega)] at k44
          refine R_iconst (v := nI 1) (q := 40) dX8_layOut_39 (by decide) rfl ?_
          refine R_goto (q := 44) dX8_layOut_40 (by decide) ?_
          exact k44
      refine R_iload_n (i := 2) (q := 8) dX8_layOut_7 rfl rfl rfl ?_
      refine R_iload_n (i := 3) (q := 9) dX8_layOut_8 rfl rfl rfl ?_
      refine R_cS2i (M' := MX8_has) (q := 12) dX8_layOut_9 ml_X8_114 mk_X8_has (Nat.le_of_ble_eq_true rfl) rfl (c_has hlo c1) ?_
      rintro _ w9 ⟨rfl, rfl⟩
      have hb9 := bitN_lt lo l
      refine R_if_neB (tgt := 19) (q := 15) dX8_layOut_12 (by decide) rfl (fun c3 => ?_) (fun c3 => ?_)
      · rw [show bI (rC lo l) = nI 0 from bI_f (by show ¬ bitN lo l = 0; omega)] at k20
        refine R_iconst (v := nI 0) (q := 20) dX8_layOut_19 (by decide) rfl ?_
        exact k20
      · rw [show bI (rC lo l) = nI 1 from bI_t (show bitN lo l = 0 by omega)] at k20
        refine R_iconst (v := nI 1) (q := 16) dX8_layOut_15 (by decide) rfl ?_
        refine R_goto (q := 20) dX8_layOut_16 (by decide) ?_
        exact k20
theorem l_l2 {S : Pic} {sh lo : Nat} {w0 : Wd} (hN : pN S ≤ 20) : ∀ (f l : Nat) (w : Wd), 4 ≤ l + f → l ≤ 4 → (∀ j, j < 4 → w.1 [17] j = bI (blk sh lo j = true)) → (∀ k, k < 16 → blk sh lo (k / 4) = false → w.1 [16] k = nI (vk S sh lo k)) → (∀ k, k < 16 → k / 4 < l → w.1 [16] k = nI (outN S sh lo k)) → Fr FL2 w0 w → Wq X 1 (d + 3) MX8_layOut 122 [(3, vI (nI l)), (0, vR 8 0 []), (1, vR 9 38 q), (2, vI (nI lo))] [] w (qV fun w' => LayA w' S sh lo ∧ Fr FL2 w0 w') := by
  intro f
  induction f with
  | zero =>
    intro l w h1 h2 hB hA hC hF
    refine R_iload_n (i := 3) (q := 123) dX8_layOut_122 rfl rfl rfl ?_
    refine R_iconst (v := nI 4) (q := 124) dX8_layOut_123 (by decide) rfl ?_
    refine R_icmp_geN (by omega) (by omega) (tgt := 147) (q := 127) dX8_layOut_124 (by decide) rfl (fun c1 => ?_) (fun c1 => ?_)
    · obtain rfl : l = 4 := by omega
      refine R_rv dX8_layOut_147 rfl ?_
      exact ⟨⟨hB, fun k hk => hC k hk (by omega)⟩, hF⟩
    · omega
  | succ f ih =>
    intro l w h1 h2 hB hA hC hF
    refine R_iload_n (i := 3) (q := 123) dX8_layOut_122 rfl rfl rfl ?_
    refine R_iconst (v := nI 4) (q := 124) dX8_layOut_123 (by decide) rfl ?_
    refine R_icmp_geN (by omega) (by omega) (tgt := 147) (q := 127) dX8_layOut_124 (by decide) rfl (fun c1 => ?_) (fun c1 => ?_)
    · obtain rfl : l = 4 := by omega
      refine R_rv dX8_layOut_147 rfl ?_
      exact ⟨⟨hB, fun k hk => hC k hk (by omega)⟩, hF⟩
    · refine R_aload_n (i := 0) (q := 128) dX8_layOut_127 rfl rfl rfl ?_
      refine R_getR (q := 131) dX8_layOut_128 fl_X8_38 rfl (by decide) rfl ?_
      refine R_iload_n (i := 3) (q := 132) dX8_layOut_131 rfl rfl rfl ?_
      refine R_zald' (q := 133) dX8_layOut_132 (rfl) (by omega) (by decide) (hB l c1) rfl ?_
      refine R_if_eqB (tgt := 141) (q := 136) dX8_layOut_133 (by decide) rfl (fun c2 => ?_) (fun c2 => ?_)
      · have hbf : blk sh lo l = false := by
          cases h : blk sh lo l
          · rfl
          · exact absurd h c2
        first | refine R_iincN (q := 144) (loc' := [(3, _), (0, _), (1, _), (2, _)]) dX8_layOut_141 (by rfl) (by decide) (by rfl) rfl ?_ | refine R_iinc (q := 144) (loc' := [(3, _), (0, _), (1, _), (2, _)]) dX8_layOut_141 (by rfl) (by rfl) (by decide) (by rfl) rfl ?_
        refine R_goto (q := 122) dX8_layOut_144 (by decide) ?_
        refine ih (l + 1) w (by omega) (by omega) hB hA ?_ hF
        intro k hk hkl
        rcases Nat.lt_or_ge (k / 4) l with h9 | h9
        · exact hC k hk h9
        · have e : k / 4 = l := by omega
          rw [hA k hk (by rw [e]; exact hbf)]
          unfold outN
          rw [e, hbf]
          rfl
      · refine R_aload_n (i := 0) (q := 137) dX8_layOut_136 rfl rfl rfl ?_
        refine R_iload_n (i := 3) (q := 138) dX8_layOut_137 rfl rfl rfl ?_
        refine R_cV1v (M' := MX8_fill) (q := 141) dX8_layOut_138 ml_X8_122 mk_X8_fill (Nat.le_of_ble_eq_true rfl) rfl (c_mfill (b := blk sh lo) (D := vk S sh lo) hB c1 (fun k => Nat.le_trans vl_le hN) hA) ?_
        rintro w1 rfl
        first | refine R_iincN (q := 144) (loc' := [(3, _), (0, _), (1, _), (2, _)]) dX8_layOut_141 (by rfl) (by decide) (by rfl) rfl ?_ | refine R_iinc (q := 144) (loc' := [(3, _), (0, _), (1, _), (2, _)]) dX8_layOut_141 (by rfl) (by rfl) (by decide) (by rfl) rfl ?_
        refine R_goto (q := 122) dX8_layOut_144 (by decide) ?_
        refine ih (l + 1) _ (by omega) (by omega) (fun j hj => by rw [uA_ne (by decide)]; exact hB j hj) ?_ ?_ (hF.tr (Fr.a (by simp)))
        · intro k hk hb
          rw [uA_same, if_neg]
          · exact hA k hk hb
          · intro h9
            rw [show k / 4 = l by omega, c2] at hb
            cases hb
        · intro k hk hkl
          rw [uA_same]
          by_cases h9 : 4 * l ≤ k ∧ k < 4 * l + 4
          · rw [if_pos h9]
            unfold outN
            rw [show k / 4 = l by omega, if_pos c2, show k % 4 = k - 4 * l by omega]
          · rw [if_neg h9]
            exact hC k hk (by omega)
theorem c_layOut {S : Pic} {lo : Nat} (hn : w.1 [] 4 = nI (pN S)) (hO : OKr S) (hS : RowA w q S) (hq : q = [5] ∨ q = [6]) (hlo : lo < 16) : Ct X 1 (d + 3) MX8_layOut [vR 8 0 [], vR 9 38 q, vI (nI lo)] w (qV fun w' => LayA w' S (pH S) lo ∧ Fr FL2 w w') := by
  refine Ct.of (by decide) rfl (Nat.le_of_ble_eq_true rfl) ?_
  show Wq _ _ _ _ 0 [(0, _), (1, _), (2, _)] [] _ _
  refine R_iconst (v := nI 0) (q := 1) dX8_layOut_0 (by decide) rfl ?_
  refine R_istore_n (i := 3) (q := 2) (loc' := [(3, _), (0, _), (1, _), (2, _)]) dX8_layOut_1 rfl (by decide) (by rfl) rfl ?_
  refine l_l1 (w0 := w) hn hO hS rfl hq hlo _ ?_ 4 0 w (by omega) (by omega) (fun j hj => absurd hj (Nat.not_lt_zero j)) (fun k _ h => absurd h (Nat.not_lt_zero _)) Fr.rf
  intro w1 hB1 hA1 hF1
  refine R_iconst (v := nI 0) (q := 121) dX8_layOut_120 (by decide) rfl ?_
  refine R_istore_n (i := 3) (q := 122) (loc' := [(3, _), (0, _), (1, _), (2, _)]) dX8_layOut_121 rfl (by decide) (by rfl) rfl ?_
  exact l_l2 hO.1.1 4 0 w1 (by omega) (by omega) hB1 hA1 (fun k _ h => absurd h (Nat.not_lt_zero _)) hF1
theorem l_mmiss {S : Pic} {sh lo : Nat} {w0 : Wd} (hS : RowA w q S) (hA : LayA w S sh lo) (hF : Fr FL2 w0 w) : ∀ (f k : Nat), 16 ≤ k + f → k ≤ 16 → Wq X 1 (d + 4) MX8_missBy 11 [(4, vI (nI k)), (3, vI (nI (sm (fun k => sq (outN S sh lo k) (pdt S k)) k))), (0, vR 8 0 []), (1, vR 9 38 q), (2, vI (nI lo))] [] w (qI fun x w' => x = nI (msN S sh lo) ∧ Fr FL2 w0 w') := by
  intro f
  induction f with
  | zero =>
    intro k h1 h2
    refine R_iload (q := 13) dX8_missBy_11 rfl rfl ?_
    refine R_bipush (v := nI 16) (q := 15) dX8_missBy_13 (by decide) rfl ?_
    refine R_icmp_geN (by omega) (by omega) (tgt := 49) (q := 18) dX8_missBy_15 (by decide) rfl (fun c1 => ?_) (fun c1 => ?_)
    · obtain rfl : k = 16 := by omega
      refine R_iload_n (i := 3) (q := 50) dX8_missBy_49 rfl rfl rfl ?_
      refine R_ri dX8_missBy_50 rfl ?_
      exact ⟨rfl, hF⟩
    · omega
  | succ f ih =>
    intro k h1 h2
    refine R_iload (q := 13) dX8_missBy_11 rfl rfl ?_
    refine R_bipush (v := nI 16) (q := 15) dX8_missBy_13 (by decide) rfl ?_
    refine R_icmp_geN (by omega) (by omega) (tgt := 49) (q := 18) dX8_missBy_15 (by decide) rfl (fun c1 => ?_) (fun c1 => ?_)
    · obtain rfl : k = 16 := by omega
      refine R_iload_n (i := 3) (q := 50) dX8_missBy_49 rfl rfl rfl ?_
      refine R_ri dX8_missBy_50 rfl ?_
      exact ⟨rfl, hF⟩
    · have e := ih (k + 1) (by omega) (by omega)
      simp only [sm] at e
      refine R_aload_n (i := 0) (q := 19) dX8_missBy_18 rfl rfl rfl ?_
      refine R_getR (q := 22) dX8_missBy_19 fl_X8_35 rfl (by decide) rfl ?_
      refine R_iload (q := 24) dX8_missBy_22 rfl rfl ?_
      refine R_iald' (q := 25) dX8_missBy_24 (rfl) (by omega) (by decide) (hA.2 k c1) rfl ?_
      refine R_aload_n (i := 1) (q := 26) dX8_missBy_25 rfl rfl rfl ?_
      refine R_bipush (v := nI 20) (q := 28) dX8_missBy_26 (by decide) rfl ?_
      refine R_iload (q := 30) dX8_missBy_28 rfl rfl ?_
      first | refine R_iaddN (q := 31) dX8_missBy_30 rfl ?_ | refine R_iadd (q := 31) dX8_missBy_30 rfl ?_
      refine R_iald' (q := 32) dX8_missBy_31 (rfl) (by omega) (by decide) (hS.2.1 k c1) rfl ?_
      refine R_isub (q := 33) dX8_missBy_32 rfl ?_
      refine R_istore (q := 35) (loc' := [(5, _), (4, _), (3, _), (0, _), (1, _), (2, _)]) dX8_missBy_33 (by decide) (by rfl) rfl ?_
      refine R_iload_n (i := 3) (q := 36) dX8_missBy_35 rfl rfl rfl ?_
      refine R_iload (q := 38) dX8_missBy_36 rfl rfl ?_
      refine R_iload (q := 40) dX8_missBy_38 rfl rfl ?_
      refine R_imul (q := 41) dX8_missBy_40 rfl ?_
      rw [sq_nI]
      first | refine R_iaddN (q := 42) dX8_missBy_41 rfl ?_ | refine R_iadd (q := 42) dX8_missBy_41 rfl ?_
      refine R_istore_n (i := 3) (q := 43) (loc' := [(3, _), (5, _), (4, _), (0, _), (1, _), (2, _)]) dX8_missBy_42 rfl (by decide) (by rfl) rfl ?_
      first | refine R_iincN (q := 46) (loc' := [(4, _), (3, _), (5, _), (0, _), (1, _), (2, _)]) dX8_missBy_43 (by rfl) (by decide) (by rfl) rfl ?_ | refine R_iinc (q := 46) (loc' := [(4, _), (3, _), (5, _), (0, _), (1, _), (2, _)]) dX8_missBy_43 (by rfl) (by rfl) (by decide) (by rfl) rfl ?_
      refine R_goto (q := 11) dX8_missBy_46 (by decide) ?_
      refine R_loc [0, 1, 3, 4, 5] (loc' := [(4, _), (3, _), (0, _), (1, _), (2, _)]) (by rfl) ?_
      exact e
theorem c_mmissBy {S : Pic} {lo : Nat} (hn : w.1 [] 4 = nI (pN S)) (hO : OKr S) (hS : RowA w q S) (hq : q = [5] ∨ q = [6]) (hlo : lo < 16) : Ct X 1 (d + 4) MX8_missBy [vR 8 0 [], vR 9 38 q, vI (nI lo)] w (qI fun x w' => x = nI (msN S (pH S) lo) ∧ Fr FL2 w w') := by
  have hqF : q ∉ FL2 := by rcases hq with rfl | rfl <;> decide
  refine Ct.of (by decide) rfl (Nat.le_of_ble_eq_true rfl) ?_
  show Wq _ _ _ _ 0 [(0, _), (1, _), (2, _)] [] _ _
  refine R_aload_n (i := 0) (q := 1) dX8_missBy_0 rfl rfl rfl ?_
  refine R_aload_n (i := 1) (q := 2) dX8_missBy_1 rfl rfl rfl ?_
  refine R_iload_n (i := 2) (q := 3) dX8_missBy_2 rfl rfl rfl ?_
  refine R_cV2v (M' := MX8_layOut) (q := 6) dX8_missBy_3 ml_X8_126 mk_X8_layOut (Nat.le_of_ble_eq_true rfl) rfl (c_layOut hn hO hS hq hlo) ?_
  rintro w1 ⟨hA1, hF1⟩
  refine R_iconst (v := nI 0) (q := 7) dX8_missBy_6 (by decide) rfl ?_
  refine R_istore_n (i := 3) (q := 8) (loc' := [(3, _), (0, _), (1, _), (2, _)]) dX8_missBy_7 rfl (by decide) (by rfl) rfl ?_
  refine R_iconst (v := nI 0) (q := 9) dX8_missBy_8 (by decide) rfl ?_
  refine R_istore (q := 11) (loc' := [(4, _), (3, _), (0, _), (1, _), (2, _)]) dX8_missBy_9 (by decide) (by rfl) rfl ?_
  exact l_mmiss (hS.fr hF1 hqF) hA1 hF1 16 0 (by omega) (by omega)
theorem l_blanks {S : Pic} {sh lo : Nat} {w0 : Wd} (hA : LayA w S sh lo) (hF : Fr FL2 w0 w) : ∀ (f k : Nat), 4 ≤ k + f → k ≤ 4 → Wq X 1 d MX8_blanks 19 [(2, vI (nI k)), (1, vI (nI (bmN (blk sh lo) k))), (0, vR 8 0 [])] [] w (qI fun x w' => x = nI (bmN (blk sh lo) 4) ∧ Fr FL2 w0 w') := by
  intro f
  induction f with
  | zero =>
    intro k h1 h2
    refine R_iload_n (i := 2) (q := 20) dX8_blanks_19 rfl rfl rfl ?_
    refine R_iconst (v := nI 4) (q := 21) dX8_blanks_20 (by decide) rfl ?_
    refine R_icmp_geN (by omega) (by omega) (tgt := 49) (q := 24) dX8_blanks_21 (by decide) rfl (fun c1 => ?_) (fun c1 => ?_)
    · obtain rfl : k = 4 := by omega
      refine R_iload_n (i := 1) (q := 50) dX8_blanks_49 rfl rfl rfl ?_
      refine R_ri dX8_blanks_50 rfl ?_
      exact ⟨rfl, hF⟩
    · omega
  | succ f ih =>
    intro k h1 h2
    refine R_iload_n (i := 2) (q := 20) dX8_blanks_19 rfl rfl rfl ?_
    refine R_iconst (v := nI 4) (q := 21) dX8_blanks_20 (by decide) rfl ?_
    refine R_icmp_geN (by omega) (by omega) (tgt := 49) (q := 24) dX8_blanks_21 (by decide) rfl (fun c1 => ?_) (fun c1 => ?_)
    · obtain rfl : k = 4 := by omega
      refine R_iload_n (i := 1) (q := 50) dX8_blanks_49 rfl rfl rfl ?_
      refine R_ri dX8_blanks_50 rfl ?_
      exact ⟨rfl, hF⟩
    · have e := ih (k + 1) (by omega) (by omega)
      simp only [bmN] at e
      refine R_iload_n (i := 1) (q := 25) dX8_blanks_24 rfl rfl rfl ?_
      refine R_aload_n (i := 0) (q := 26) dX8_blanks_25 rfl rfl rfl ?_
      refine R_getR (q := 29) dX8_blanks_26 fl_X8_38 rfl (by decide) rfl ?_
      refine R_iload_n (i := 2) (q := 30) dX8_blanks_29 rfl rfl rfl ?_
      refine R_zald' (q := 31) dX8_blanks_30 (rfl) (by omega) (by decide) (hA.1 k c1) rfl ?_
      refine R_if_eqB (tgt := 40) (q := 34) dX8_blanks_31 (by decide) rfl (fun c2 => ?_) (fun c2 => ?_)
      · rw [if_neg c2, Nat.add_zero] at e
        refine R_iconst (v := nI 0) (q := 41) dX8_blanks_40 (by decide) rfl ?_
        refine R_ior (q := 42) dX8_blanks_41 rfl ?_
        rw [show nI (bmN (blk sh lo) k) ||| nI 0 = nI (bmN (blk sh lo) k) by rw [show nI 0 = 0 from rfl, Int32.or_zero]]
        refine R_istore_n (i := 1) (q := 43) (loc' := [(1, _), (2, _), (0, _)]) dX8_blanks_42 rfl (by decide) (by rfl) rfl ?_
        first | refine R_iincN (q := 46) (loc' := [(2, _), (1, _), (0, _)]) dX8_blanks_43 (by rfl) (by decide) (by rfl) rfl ?_ | refine R_iinc (q := 46) (loc' := [(2, _), (1, _), (0, _)]) dX8_blanks_43 (by rfl) (by rfl) (by decide) (by rfl) rfl ?_
        refine R_goto (q := 19) dX8_blanks_46 (by decide) ?_
        refine R_loc [0, 1, 2] (loc' := [(2, _), (1, _), (0, _)]) (by rfl) ?_
        exact e
      · rw [if_pos c2] at e
        refine R_iconst (v := nI 1) (q := 35) dX8_blanks_34 (by decide) rfl ?_
        refine R_iload_n (i := 2) (q := 36) dX8_blanks_35 rfl rfl rfl ?_
        refine R_ishl (q := 37) dX8_blanks_36 rfl ?_
        refine R_goto (q := 41) dX8_blanks_37 (by decide) ?_
        refine R_ior (q := 42) dX8_blanks_41 rfl ?_
        rw [or_fin k c1 _ (Nat.lt_of_lt_of_le (bmN_lt _ k) (show 2 ^ k ≤ 2 ^ 4 from Nat.pow_le_pow_right (by decide) (by omega))) (bmN_lt _ k)]
        refine R_istore_n (i := 1) (q := 43) (loc' := [(1, _), (2, _), (0, _)]) dX8_blanks_42 rfl (by decide) (by rfl) rfl ?_
        first | refine R_iincN (q := 46) (loc' := [(2, _), (1, _), (0, _)]) dX8_blanks_43 (by rfl) (by decide) (by rfl) rfl ?_ | refine R_iinc (q := 46) (loc' := [(2, _), (1, _), (0, _)]) dX8_blanks_43 (by rfl) (by rfl) (by decide) (by rfl) rfl ?_
        refine R_goto (q := 19) dX8_blanks_46 (by decide) ?_
        refine R_loc [0, 1, 2] (loc' := [(2, _), (1, _), (0, _)]) (by rfl) ?_
        exact e
theorem c_blanks {S : Pic} (hn : w.1 [] 4 = nI (pN S)) (hO : OKr S) (hS : RowA w [5] S) : Ct X 1 (d + 4) MX8_blanks [vR 8 0 []] w (qI fun x w' => x = nI (bmN (blk (pH S) (pL S)) 4) ∧ Fr FL2 w w') := by
  refine Ct.of (by decide) rfl (Nat.le_of_ble_eq_true rfl) ?_
  show Wq _ _ _ _ 0 [(0, _)] [] _ _
  refine R_aload_n (i := 0) (q := 1) dX8_blanks_0 rfl rfl rfl ?_
  refine R_aload_n (i := 0) (q := 2) dX8_blanks_1 rfl rfl rfl ?_
  refine R_getR (q := 5) dX8_blanks_2 fl_X8_13 rfl (by decide) rfl ?_
  refine R_aload_n (i := 0) (q := 6) dX8_blanks_5 rfl rfl rfl ?_
  refine R_getR (q := 9) dX8_blanks_6 fl_X8_13 rfl (by decide) rfl ?_
  refine R_bipush (v := nI 37) (q := 11) dX8_blanks_9 (by decide) rfl ?_
  refine R_iald' (q := 12) dX8_blanks_11 (rfl) (by omega) (by decide) (hS.2.2.2) rfl ?_
  refine R_cV2v (M' := MX8_layOut) (q := 15) dX8_blanks_12 ml_X8_126 mk_X8_layOut (Nat.le_of_ble_eq_true rfl) rfl (c_layOut hn hO hS (Or.inl rfl) hO.2.2.1) ?_
  rintro w1 ⟨hA1, hF1⟩
  refine R_iconst (v := nI 0) (q := 16) dX8_blanks_15 (by decide) rfl ?_
  refine R_istore_n (i := 1) (q := 17) (loc' := [(1, _), (0, _)]) dX8_blanks_16 rfl (by decide) (by rfl) rfl ?_
  refine R_iconst (v := nI 0) (q := 18) dX8_blanks_17 (by decide) rfl ?_
  refine R_istore_n (i := 2) (q := 19) (loc' := [(2, _), (1, _), (0, _)]) dX8_blanks_18 rfl (by decide) (by rfl) rfl ?_
  exact l_blanks hA1 hF1 4 0 (by omega) (by omega)
end MC
