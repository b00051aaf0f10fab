section ST
variable {X : Cx} {d : Nat} {p : List Nat} {w : Wd}
theorem c_hasShade {x : Int32} {n : Nat} (hn : w.1 p 2 = nI n) : Ct X 0 d MX5_hasShade [vR 5 0 p, vI x] w (qI fun y w' => y = bI (inN x n) ∧ w' = w) := by
  refine Ct.of (by decide) rfl (Nat.le_of_ble_eq_true rfl) ?_
  show Wq _ _ _ _ 0 [(0, _), (1, _)] [] _ _
  refine R_iload_n (i := 1) (q := 1) dX5_hasShade_0 rfl rfl rfl ?_
  refine R_if_lt (tgt := 16) (q := 4) dX5_hasShade_1 (by decide) rfl (fun c1 => ?_) (fun c1 => ?_)
  · refine R_iconst (v := nI 0) (q := 17) dX5_hasShade_16 (by decide) rfl ?_
    refine R_rz dX5_hasShade_17 rfl (by decide) ?_
    exact ⟨(bI_f (fun h => h.1 c1)).symm, rfl⟩
  · refine R_iload_n (i := 1) (q := 5) dX5_hasShade_4 rfl rfl rfl ?_
    refine R_aload_n (i := 0) (q := 6) dX5_hasShade_5 rfl rfl rfl ?_
    refine R_getI' (q := 9) dX5_hasShade_6 fl_X5_31 rfl (hn) rfl ?_
    refine R_icmp_ge (tgt := 16) (q := 12) dX5_hasShade_9 (by decide) rfl (fun c2 => ?_) (fun c2 => ?_)
    · refine R_iconst (v := nI 0) (q := 17) dX5_hasShade_16 (by decide) rfl ?_
      refine R_rz dX5_hasShade_17 rfl (by decide) ?_
      exact ⟨(bI_f (fun h => h.2 c2)).symm, rfl⟩
    · refine R_iconst (v := nI 1) (q := 13) dX5_hasShade_12 (by decide) rfl ?_
      refine R_goto (q := 17) dX5_hasShade_13 (by decide) ?_
      refine R_rz dX5_hasShade_17 rfl (by decide) ?_
      exact ⟨(bI_t ⟨c1, c2⟩).symm, rfl⟩
theorem c_hasCell {x y : Int32} {a b : Nat} (ha : w.1 p 0 = nI a) (hb : w.1 p 1 = nI b) : Ct X 0 d MX5_hasCell [vR 5 0 p, vI x, vI y] w (qI fun z w' => z = bI (inN x a ∧ inN y b) ∧ w' = w) := by
  refine Ct.of (by decide) rfl (Nat.le_of_ble_eq_true rfl) ?_
  show Wq _ _ _ _ 0 [(0, _), (1, _), (2, _)] [] _ _
  refine R_iload_n (i := 1) (q := 1) dX5_hasCell_0 rfl rfl rfl ?_
  refine R_if_lt (tgt := 28) (q := 4) dX5_hasCell_1 (by decide) rfl (fun c1 => ?_) (fun c1 => ?_)
  · refine R_iconst (v := nI 0) (q := 29) dX5_hasCell_28 (by decide) rfl ?_
    refine R_rz dX5_hasCell_29 rfl (by decide) ?_
    exact ⟨(bI_f (fun h => h.1.1 c1)).symm, rfl⟩
  · refine R_iload_n (i := 1) (q := 5) dX5_hasCell_4 rfl rfl rfl ?_
    refine R_aload_n (i := 0) (q := 6) dX5_hasCell_5 rfl rfl rfl ?_
    refine R_getI' (q := 9) dX5_hasCell_6 fl_X5_9 rfl (ha) rfl ?_
    refine R_icmp_ge (tgt := 28) (q := 12) dX5_hasCell_9 (by decide) rfl (fun c2 => ?_) (fun c2 => ?_)
    · refine R_iconst (v := nI 0) (q := 29) dX5_hasCell_28 (by decide) rfl ?_
      refine R_rz dX5_hasCell_29 rfl (by decide) ?_
      exact ⟨(bI_f (fun h => h.1.2 c2)).symm, rfl⟩
    · refine R_iload_n (i := 2) (q := 13) dX5_hasCell_12 rfl rfl rfl ?_
      refine R_if_lt (tgt := 28) (q := 16) dX5_hasCell_13 (by decide) rfl (fun c3 => ?_) (fun c3 => ?_)
      · refine R_iconst (v := nI 0) (q := 29) dX5_hasCell_28 (by decide) rfl ?_
        refine R_rz dX5_hasCell_29 rfl (by decide) ?_
        exact ⟨(bI_f (fun h => h.2.1 c3)).symm, rfl⟩
      · refine R_iload_n (i := 2) (q := 17) dX5_hasCell_16 rfl rfl rfl ?_
        refine R_aload_n (i := 0) (q := 18) dX5_hasCell_17 rfl rfl rfl ?_
        refine R_getI' (q := 21) dX5_hasCell_18 fl_X5_15 rfl (hb) rfl ?_
        refine R_icmp_ge (tgt := 28) (q := 24) dX5_hasCell_21 (by decide) rfl (fun c4 => ?_) (fun c4 => ?_)
        · refine R_iconst (v := nI 0) (q := 29) dX5_hasCell_28 (by decide) rfl ?_
          refine R_rz dX5_hasCell_29 rfl (by decide) ?_
          exact ⟨(bI_f (fun h => h.2.2 c4)).symm, rfl⟩
        · refine R_iconst (v := nI 1) (q := 25) dX5_hasCell_24 (by decide) rfl ?_
          refine R_goto (q := 29) dX5_hasCell_25 (by decide) ?_
          refine R_rz dX5_hasCell_29 rfl (by decide) ?_
          exact ⟨(bI_t ⟨⟨c1, c2⟩, c3, c4⟩).symm, rfl⟩
theorem c_numbersOf {x : Int32} : Ct X 0 d MX5_numbersOf [vR 5 0 p, vI x] w (qI fun z w' => z = (if x = 0 then w.1 p 0 else w.1 p 1) ∧ w' = w) := by
  refine Ct.of (by decide) rfl (Nat.le_of_ble_eq_true rfl) ?_
  show Wq _ _ _ _ 0 [(0, _), (1, _)] [] _ _
  refine R_iload_n (i := 1) (q := 1) dX5_numbersOf_0 rfl rfl rfl ?_
  refine R_if_ne (tgt := 11) (q := 4) dX5_numbersOf_1 (by decide) rfl (fun c1 => ?_) (fun c1 => ?_)
  · refine R_aload_n (i := 0) (q := 12) dX5_numbersOf_11 rfl rfl rfl ?_
    refine R_getI (q := 15) dX5_numbersOf_12 fl_X5_15 rfl rfl ?_
    refine R_ri dX5_numbersOf_15 rfl ?_
    exact ⟨(if_neg c1).symm, rfl⟩
  · refine R_aload_n (i := 0) (q := 5) dX5_numbersOf_4 rfl rfl rfl ?_
    refine R_getI (q := 8) dX5_numbersOf_5 fl_X5_9 rfl rfl ?_
    refine R_goto (q := 15) dX5_numbersOf_8 (by decide) ?_
    refine R_ri dX5_numbersOf_15 rfl ?_
    exact ⟨(if_pos c1).symm, rfl⟩
theorem c_put {x y z : Int32} {n : Nat} (hn : w.1 p 2 = nI n) (hN : n ≤ 20) : Ct X 0 (d + 1) MX5_put [vR 5 0 p, vI x, vI y, vI z] w (qV fun w' => (¬ inN x n ∧ w' = w) ∨ ∃ s, s < n ∧ x = nI s ∧ w' = uI (uI w (5 :: p) s y) (6 :: p) s z) := by
  refine Ct.of (by decide) rfl (Nat.le_of_ble_eq_true rfl) ?_
  show Wq _ _ _ _ 0 [(0, _), (1, _), (2, _), (3, _)] [] _ _
  refine R_aload_n (i := 0) (q := 1) dX5_put_0 rfl rfl rfl ?_
  refine R_iload_n (i := 1) (q := 2) dX5_put_1 rfl rfl rfl ?_
  refine R_cV1i (M' := MX5_hasShade) (q := 5) dX5_put_2 ml_X5_61 mk_X5_hasShade (Nat.le_of_ble_eq_true rfl) rfl (c_hasShade hn) ?_
  rintro _ w ⟨rfl, rfl⟩
  refine R_if_eqB (tgt := 22) (q := 8) dX5_put_5 (by decide) rfl (fun c1 => ?_) (fun c1 => ?_)
  · refine R_rv dX5_put_22 rfl ?_
    exact Or.inl ⟨c1, rfl⟩
  · obtain ⟨s, hs, rfl⟩ := inN_ex (by omega) c1
    refine R_aload_n (i := 0) (q := 9) dX5_put_8 rfl rfl rfl ?_
    refine R_getR (q := 12) dX5_put_9 fl_X5_21 rfl (by decide) rfl ?_
    refine R_iload_n (i := 1) (q := 13) dX5_put_12 rfl rfl rfl ?_
    refine R_iload_n (i := 2) (q := 14) dX5_put_13 rfl rfl rfl ?_
    refine R_iast (q := 15) dX5_put_14 (rfl) (by omega) (by decide) rfl ?_
    refine R_aload_n (i := 0) (q := 16) dX5_put_15 rfl rfl rfl ?_
    refine R_getR (q := 19) dX5_put_16 fl_X5_25 rfl (by decide) rfl ?_
    refine R_iload_n (i := 1) (q := 20) dX5_put_19 rfl rfl rfl ?_
    refine R_iload_n (i := 3) (q := 21) dX5_put_20 rfl rfl rfl ?_
    refine R_iast (q := 22) dX5_put_21 (rfl) (by omega) (by decide) rfl ?_
    refine R_rv dX5_put_22 rfl ?_
    exact Or.inr ⟨s, hs, rfl, rfl⟩
/-- the shade in a cell -/
def ShA (S : Pic) (r0 c0 : Nat) (x : Int32) : Prop := (∃ s, s < pN S ∧ pro S s = r0 ∧ pco S s = c0 ∧ x = nI s) ∨ ((∀ s, s < pN S → ¬ (pro S s = r0 ∧ pco S s = c0)) ∧ x = -9)
theorem l_shadeIn {S : Pic} {r0 c0 : Nat} (hS : StA w p S) (hN : pN S ≤ 20) (hr : r0 < 2 ^ 31) (hc : c0 < 2 ^ 31) (hb : ∀ s, s < pN S → pro S s < 2 ^ 31 ∧ pco S s < 2 ^ 31) : ∀ (k i : Nat), pN S ≤ i + k → i ≤ pN S → (∀ s, s < i → ¬ (pro S s = r0 ∧ pco S s = c0)) → Wq X 0 d MX5_shadeIn 2 [(3, vI (nI i)), (0, vR 5 0 p), (1, vI (nI r0)), (2, vI (nI c0))] [] w (qI fun x w' => ShA S r0 c0 x ∧ w' = w) := by
  obtain ⟨hR, hC, hn, hs, hl, hro, hco, hdt⟩ := id hS
  intro k
  induction k with
  | zero =>
    intro i h1 h2 h3
    refine R_iload_n (i := 3) (q := 3) dX5_shadeIn_2 rfl rfl rfl ?_
    refine R_aload_n (i := 0) (q := 4) dX5_shadeIn_3 rfl rfl rfl ?_
    refine R_getI' (q := 7) dX5_shadeIn_4 fl_X5_31 rfl (hn) rfl ?_
    refine R_icmp_geN (by omega) (by omega) (tgt := 38) (q := 10) dX5_shadeIn_7 (by decide) rfl (fun c1 => ?_) (fun c1 => ?_)
    · refine R_bipush (v := (-9)) (q := 40) dX5_shadeIn_38 (by decide) rfl ?_
      refine R_ri dX5_shadeIn_40 rfl ?_
      exact ⟨Or.inr ⟨fun s hs => h3 s (by omega), rfl⟩, rfl⟩
    · omega
  | succ k ih =>
    intro i h1 h2 h3
    refine R_iload_n (i := 3) (q := 3) dX5_shadeIn_2 rfl rfl rfl ?_
    refine R_aload_n (i := 0) (q := 4) dX5_shadeIn_3 rfl rfl rfl ?_
    refine R_getI' (q := 7) dX5_shadeIn_4 fl_X5_31 rfl (hn) rfl ?_
    refine R_icmp_geN (by omega) (by omega) (tgt := 38) (q := 10) dX5_shadeIn_7 (by decide) rfl (fun c1 => ?_) (fun c1 => ?_)
    · refine R_bipush (v := (-9)) (q := 40) dX5_shadeIn_38 (by decide) rfl ?_
      refine R_ri dX5_shadeIn_40 rfl ?_
      exact ⟨Or.inr ⟨fun s hs => h3 s (by omega), rfl⟩, rfl⟩
    · have hbi := hb i c1
      refine R_aload_n (i := 0) (q := 11) dX5_shadeIn_10 rfl rfl rfl ?_
      refine R_getR (q := 14) dX5_shadeIn_11 fl_X5_21 rfl (by decide) rfl ?_
      refine R_iload_n (i := 3) (q := 15) dX5_shadeIn_14 rfl rfl rfl ?_
      refine R_iald' (q := 16) dX5_shadeIn_15 (rfl) (by omega) (by decide) (hro i c1) rfl ?_
      refine R_iload_n (i := 1) (q := 17) dX5_shadeIn_16 rfl rfl rfl ?_
      refine R_icmp_neN (by omega) (by omega) (tgt := 32) (q := 20) dX5_shadeIn_17 (by decide) rfl (fun c2 => ?_) (fun c2 => ?_)
      · first | refine R_iincN (q := 35) (loc' := [(3, _), (0, _), (1, _), (2, _)]) dX5_shadeIn_32 (by rfl) (by decide) (by rfl) rfl ?_ | refine R_iinc (q := 35) (loc' := [(3, _), (0, _), (1, _), (2, _)]) dX5_shadeIn_32 (by rfl) (by rfl) (by decide) (by rfl) rfl ?_
        refine R_goto (q := 2) dX5_shadeIn_35 (by decide) ?_
        exact ih (i + 1) (by omega) (by omega) (fun s hs => by
          rcases Nat.lt_or_ge s i with h | h
          · exact h3 s h
          · obtain rfl : s = i := by omega
            exact fun h => c2 h.1)
      · refine R_aload_n (i := 0) (q := 21) dX5_shadeIn_20 rfl rfl rfl ?_
        refine R_getR (q := 24) dX5_shadeIn_21 fl_X5_25 rfl (by decide) rfl ?_
        refine R_iload_n (i := 3) (q := 25) dX5_shadeIn_24 rfl rfl rfl ?_
        refine R_iald' (q := 26) dX5_shadeIn_25 (rfl) (by omega) (by decide) (hco i c1) rfl ?_
        refine R_iload_n (i := 2) (q := 27) dX5_shadeIn_26 rfl rfl rfl ?_
        refine R_icmp_neN (by omega) (by omega) (tgt := 32) (q := 30) dX5_shadeIn_27 (by decide) rfl (fun c3 => ?_) (fun c3 => ?_)
        · first | refine R_iincN (q := 35) (loc' := [(3, _), (0, _), (1, _), (2, _)]) dX5_shadeIn_32 (by rfl) (by decide) (by rfl) rfl ?_ | refine R_iinc (q := 35) (loc' := [(3, _), (0, _), (1, _), (2, _)]) dX5_shadeIn_32 (by rfl) (by rfl) (by decide) (by rfl) rfl ?_
          refine R_goto (q := 2) dX5_shadeIn_35 (by decide) ?_
          exact ih (i + 1) (by omega) (by omega) (fun s hs => by
            rcases Nat.lt_or_ge s i with h | h
            · exact h3 s h
            · obtain rfl : s = i := by omega
              exact fun h => c3 h.2)
        · refine R_iload_n (i := 3) (q := 31) dX5_shadeIn_30 rfl rfl rfl ?_
          refine R_ri dX5_shadeIn_31 rfl ?_
          exact ⟨Or.inl ⟨i, c1, c2, c3, rfl⟩, rfl⟩
theorem c_shadeIn {S : Pic} {r0 c0 : Nat} (hS : StA w p S) (hN : pN S ≤ 20) (hr : r0 < 2 ^ 31) (hc : c0 < 2 ^ 31) (hb : ∀ s, s < pN S → pro S s < 2 ^ 31 ∧ pco S s < 2 ^ 31) : Ct X 0 d MX5_shadeIn [vR 5 0 p, vI (nI r0), vI (nI c0)] w (qI fun x w' => ShA S r0 c0 x ∧ w' = w) := by
  refine Ct.of (by decide) rfl (Nat.le_of_ble_eq_true rfl) ?_
  show Wq _ _ _ _ 0 [(0, _), (1, _), (2, _)] [] _ _
  refine R_iconst (v := nI 0) (q := 1) dX5_shadeIn_0 (by decide) rfl ?_
  refine R_istore_n (i := 3) (q := 2) (loc' := [(3, _), (0, _), (1, _), (2, _)]) dX5_shadeIn_1 rfl (by decide) (by rfl) rfl ?_
  exact l_shadeIn hS hN hr hc hb (pN S) 0 (by omega) (by omega) (fun s hs => absurd hs (Nat.not_lt_zero s))
end ST
