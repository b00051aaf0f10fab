section ME
variable {X : Cx} {d : Nat} {w : Wd} {A : Ab}
def bsM (S : Pic) : Nat → Nat × Nat
  | 0 => (0, 0)
  | v + 1 => bsF S v
theorem bsM_bd {S : Pic} (hO : OKo S) : ∀ v, (bsM S v).2 ≤ 6400
  | 0 => Nat.zero_le _
  | v + 1 => bsF_bd hO v
theorem l_mbs2 {S : Pic} {w0 : Wd} {v : Nat} {best least : AV} (hn0 : w0.1 [] 4 = nI (pN S)) (hO : OKr S) (hv : v < 4) (Q : Option AV → Wd → Prop) (kk : ∀ w, RowA w [6] (shP S v) → Fr [[6], [16], [17]] w0 w → Wq X 1 (d + 5) MX8_bestShift 78 [(5, vI (nI 4)), (4, vI (nI (gmN S v 4))), (3, vI (nI v)), (2, least), (1, best), (0, vR 8 0 [])] [] w Q) : ∀ (f k : Nat) (w : Wd), 4 ≤ k + f → k ≤ 4 → RowA w [6] (shP S v) → Fr [[6], [16], [17]] w0 w → Wq X 1 (d + 5) MX8_bestShift 36 [(5, vI (nI k)), (4, vI (nI (gmN S v k))), (3, vI (nI v)), (2, least), (1, best), (0, vR 8 0 [])] [] w Q := by
  have hO2 : OKr (shP S v) := ⟨hO.1, hv, hO.2.2.1, hO.2.2.2⟩
  intro f
  induction f with
  | zero =>
    intro k w h1 h2 hS hF
    refine R_iload (q := 38) dX8_bestShift_36 rfl rfl ?_
    refine R_iconst (v := nI 4) (q := 39) dX8_bestShift_38 (by decide) rfl ?_
    refine R_icmp_geN (by omega) (by omega) (tgt := 78) (q := 42) dX8_bestShift_39 (by decide) rfl (fun c1 => ?_) (fun c1 => ?_)
    · obtain rfl : k = 4 := by omega
      exact kk w hS hF
    · omega
  | succ f ih =>
    intro k w h1 h2 hS hF
    have hn9 : w.1 [] 4 = nI (pN (shP S v)) := by rw [hF.2 _ (by decide)]; exact hn0
    refine R_iload (q := 38) dX8_bestShift_36 rfl rfl ?_
    refine R_iconst (v := nI 4) (q := 39) dX8_bestShift_38 (by decide) rfl ?_
    refine R_icmp_geN (by omega) (by omega) (tgt := 78) (q := 42) dX8_bestShift_39 (by decide) rfl (fun c1 => ?_) (fun c1 => ?_)
    · obtain rfl : k = 4 := by omega
      exact kk w hS hF
    · have e := fun w => ih (k + 1) w (by omega) (by omega)
      simp only [gmN] at e
      have b1 := gmN_bd (v := v) hO.1 k
      have b2 := msN_bd (sh := v) (lo := 2 ^ k) hO.1
      refine R_aload_n (i := 0) (q := 43) dX8_bestShift_42 rfl rfl rfl ?_
      refine R_aload_n (i := 0) (q := 44) dX8_bestShift_43 rfl rfl rfl ?_
      refine R_getR (q := 47) dX8_bestShift_44 fl_X8_16 rfl (by decide) rfl ?_
      refine R_iconst (v := nI 1) (q := 48) dX8_bestShift_47 (by decide) rfl ?_
      refine R_iload (q := 50) dX8_bestShift_48 rfl rfl ?_
      refine R_ishl (q := 51) dX8_bestShift_50 rfl ?_
      rw [(one_shl k c1).1]
      refine R_cV2i (M' := MX8_missBy) (q := 54) dX8_bestShift_51 ml_X8_142 mk_X8_missBy (Nat.le_of_ble_eq_true rfl) rfl (c_mmissBy hn9 hO2 hS (Or.inr rfl) (one_shl k c1).2) ?_
      rintro _ w1 ⟨rfl, hF1⟩
      rw [show msN (shP S v) (pH (shP S v)) (2 ^ k) = msN S v (2 ^ k) from rfl]
      have hS1 := hS.fr hF1 (by decide)
      have hF2 := hF.tr (hF1.up (G := [[6], [16], [17]]) (by decide))
      refine R_istore (q := 56) (loc' := [(6, _), (5, _), (4, _), (3, _), (2, _), (1, _), (0, _)]) dX8_bestShift_54 (by decide) (by rfl) rfl ?_
      refine R_iload (q := 58) dX8_bestShift_56 rfl rfl ?_
      refine R_iload (q := 60) dX8_bestShift_58 rfl rfl ?_
      refine R_icmp_leN (by omega) (by omega) (tgt := 68) (q := 63) dX8_bestShift_60 (by decide) rfl (fun c2 => ?_) (fun c2 => ?_)
      · have e2 := e w1
        rw [if_neg (by omega)] at e2
        refine R_iload (q := 70) dX8_bestShift_68 rfl rfl ?_
        refine R_istore (q := 72) (loc' := [(4, _), (6, _), (5, _), (3, _), (2, _), (1, _), (0, _)]) dX8_bestShift_70 (by decide) (by rfl) rfl ?_
        first | refine R_iincN (q := 75) (loc' := [(5, _), (4, _), (6, _), (3, _), (2, _), (1, _), (0, _)]) dX8_bestShift_72 (by rfl) (by decide) (by rfl) rfl ?_ | refine R_iinc (q := 75) (loc' := [(5, _), (4, _), (6, _), (3, _), (2, _), (1, _), (0, _)]) dX8_bestShift_72 (by rfl) (by rfl) (by decide) (by rfl) rfl ?_
        refine R_goto (q := 36) dX8_bestShift_75 (by decide) ?_
        refine R_loc [0, 1, 3, 4, 5, 6] (loc' := [(5, _), (4, _), (3, _), (2, _), (1, _), (0, _)]) (by rfl) ?_
        exact e2 hS1 hF2
      · have e2 := e w1
        rw [if_pos c2] at e2
        refine R_iload (q := 65) dX8_bestShift_63 rfl rfl ?_
        refine R_goto (q := 70) dX8_bestShift_65 (by decide) ?_
        refine R_istore (q := 72) (loc' := [(4, _), (6, _), (5, _), (3, _), (2, _), (1, _), (0, _)]) dX8_bestShift_70 (by decide) (by rfl) rfl ?_
        first | refine R_iincN (q := 75) (loc' := [(5, _), (4, _), (6, _), (3, _), (2, _), (1, _), (0, _)]) dX8_bestShift_72 (by rfl) (by decide) (by rfl) rfl ?_ | refine R_iinc (q := 75) (loc' := [(5, _), (4, _), (6, _), (3, _), (2, _), (1, _), (0, _)]) dX8_bestShift_72 (by rfl) (by rfl) (by decide) (by rfl) rfl ?_
        refine R_goto (q := 36) dX8_bestShift_75 (by decide) ?_
        refine R_loc [0, 1, 3, 4, 5, 6] (loc' := [(5, _), (4, _), (3, _), (2, _), (1, _), (0, _)]) (by rfl) ?_
        exact e2 hS1 hF2
theorem l_mbs1 {S : Pic} {w0 : Wd} (hn0 : w0.1 [] 4 = nI (pN S)) (hO : OKr S) : ∀ (f v : Nat) (w : Wd) (h0 : Nat), 4 ≤ v + f → v ≤ 4 → RowA w [6] (shP S h0) → Fr [[6], [16], [17]] w0 w → Wq X 1 (d + 5) MX8_bestShift 17 [(3, vI (nI v)), (2, vI (nI (bsM S v).2)), (1, vI (nI (bsM S v).1)), (0, vR 8 0 [])] [] w (qI fun z w' => z = nI (bsF S 3).1 ∧ Fr [[6], [16], [17]] w0 w') := by
  intro f
  induction f with
  | zero =>
    intro v w h0 h1 h2 hS hF
    refine R_iload_n (i := 3) (q := 18) dX8_bestShift_17 rfl rfl rfl ?_
    refine R_iconst (v := nI 4) (q := 19) dX8_bestShift_18 (by decide) rfl ?_
    refine R_icmp_geN (by omega) (by omega) (tgt := 99) (q := 22) dX8_bestShift_19 (by decide) rfl (fun c1 => ?_) (fun c1 => ?_)
    · obtain rfl : v = 4 := by omega
      refine R_iload_n (i := 1) (q := 100) dX8_bestShift_99 rfl rfl rfl ?_
      refine R_ri dX8_bestShift_100 rfl ?_
      exact ⟨rfl, hF⟩
    · omega
  | succ f ih =>
    intro v w h0 h1 h2 hS hF
    refine R_iload_n (i := 3) (q := 18) dX8_bestShift_17 rfl rfl rfl ?_
    refine R_iconst (v := nI 4) (q := 19) dX8_bestShift_18 (by decide) rfl ?_
    refine R_icmp_geN (by omega) (by omega) (tgt := 99) (q := 22) dX8_bestShift_19 (by decide) rfl (fun c1 => ?_) (fun c1 => ?_)
    · obtain rfl : v = 4 := by omega
      refine R_iload_n (i := 1) (q := 100) dX8_bestShift_99 rfl rfl rfl ?_
      refine R_ri dX8_bestShift_100 rfl ?_
      exact ⟨rfl, hF⟩
    · refine R_aload_n (i := 0) (q := 23) dX8_bestShift_22 rfl rfl rfl ?_
      refine R_getR (q := 26) dX8_bestShift_23 fl_X8_16 rfl (by decide) rfl ?_
      refine R_bipush (v := nI 36) (q := 28) dX8_bestShift_26 (by decide) rfl ?_
      refine R_iload_n (i := 3) (q := 29) dX8_bestShift_28 rfl rfl rfl ?_
      refine R_iast (q := 30) dX8_bestShift_29 (rfl) (by omega) (by decide) rfl ?_
      refine R_iconst (v := nI 0) (q := 31) dX8_bestShift_30 (by decide) rfl ?_
      refine R_istore (q := 33) (loc' := [(4, _), (3, _), (2, _), (1, _), (0, _)]) dX8_bestShift_31 (by decide) (by rfl) rfl ?_
      refine R_iconst (v := nI 0) (q := 34) dX8_bestShift_33 (by decide) rfl ?_
      refine R_istore (q := 36) (loc' := [(5, _), (4, _), (3, _), (2, _), (1, _), (0, _)]) dX8_bestShift_34 (by decide) (by rfl) rfl ?_
      have hS1 : RowA (uI w [6] 36 (nI v)) [6] (shP S v) := RowA_sh (S := shP S h0) hO.1.1 hS
      refine l_mbs2 (w0 := w0) hn0 hO c1 _ ?_ 4 0 _ (by omega) (by omega) hS1 (hF.tr (Fr.i (by simp)))
      intro w1 hS2 hF2
      have b1 := bsM_bd hO.1 v
      have b2 := gmN_bd (v := v) hO.1 4
      refine R_iload_n (i := 3) (q := 79) dX8_bestShift_78 rfl rfl rfl ?_
      refine R_if_eqN (by omega) (tgt := 88) (q := 82) dX8_bestShift_79 (by decide) rfl (fun c2 => ?_) (fun c2 => ?_)
      · have e := ih (v + 1) w1 v (by omega) (by omega) hS2 hF2
        subst c2
        refine R_iload_n (i := 3) (q := 89) dX8_bestShift_88 rfl rfl rfl ?_
        refine R_istore_n (i := 1) (q := 90) (loc' := [(1, _), (5, _), (4, _), (3, _), (2, _), (0, _)]) dX8_bestShift_89 rfl (by decide) (by rfl) rfl ?_
        refine R_iload (q := 92) dX8_bestShift_90 rfl rfl ?_
        refine R_istore_n (i := 2) (q := 93) (loc' := [(2, _), (1, _), (5, _), (4, _), (3, _), (0, _)]) dX8_bestShift_92 rfl (by decide) (by rfl) rfl ?_
        first | refine R_iincN (q := 96) (loc' := [(3, _), (2, _), (1, _), (5, _), (4, _), (0, _)]) dX8_bestShift_93 (by rfl) (by decide) (by rfl) rfl ?_ | refine R_iinc (q := 96) (loc' := [(3, _), (2, _), (1, _), (5, _), (4, _), (0, _)]) dX8_bestShift_93 (by rfl) (by rfl) (by decide) (by rfl) rfl ?_
        refine R_goto (q := 17) dX8_bestShift_96 (by decide) ?_
        refine R_loc [0, 1, 2, 5] (loc' := [(3, _), (2, _), (1, _), (0, _)]) (by rfl) ?_
        exact e
      · obtain ⟨u, rfl⟩ : ∃ u, v = u + 1 := ⟨v - 1, by omega⟩
        have e := ih (u + 1 + 1) w1 (u + 1) (by omega) (by omega) hS2 hF2
        have e9 : bsM S (u + 1 + 1) = (if gmN S (u + 1) 4 < (bsM S (u + 1)).2 then (u + 1, gmN S (u + 1) 4) else bsM S (u + 1)) := rfl
        rw [e9] at e
        refine R_iload (q := 84) dX8_bestShift_82 rfl rfl ?_
        refine R_iload_n (i := 2) (q := 85) dX8_bestShift_84 rfl rfl rfl ?_
        refine R_icmp_geN (by omega) (by omega) (tgt := 93) (q := 88) dX8_bestShift_85 (by decide) rfl (fun c3 => ?_) (fun c3 => ?_)
        · rw [if_neg (by omega)] at e
          first | refine R_iincN (q := 96) (loc' := [(3, _), (5, _), (4, _), (2, _), (1, _), (0, _)]) dX8_bestShift_93 (by rfl) (by decide) (by rfl) rfl ?_ | refine R_iinc (q := 96) (loc' := [(3, _), (5, _), (4, _), (2, _), (1, _), (0, _)]) dX8_bestShift_93 (by rfl) (by rfl) (by decide) (by rfl) rfl ?_
          refine R_goto (q := 17) dX8_bestShift_96 (by decide) ?_
          refine R_loc [0, 3, 4, 5] (loc' := [(3, _), (2, _), (1, _), (0, _)]) (by rfl) ?_
          exact e
        · rw [if_pos c3] at e
          refine R_iload_n (i := 3) (q := 89) dX8_bestShift_88 rfl rfl rfl ?_
          refine R_istore_n (i := 1) (q := 90) (loc' := [(1, _), (5, _), (4, _), (3, _), (2, _), (0, _)]) dX8_bestShift_89 rfl (by decide) (by rfl) rfl ?_
          refine R_iload (q := 92) dX8_bestShift_90 rfl rfl ?_
          refine R_istore_n (i := 2) (q := 93) (loc' := [(2, _), (1, _), (5, _), (4, _), (3, _), (0, _)]) dX8_bestShift_92 rfl (by decide) (by rfl) rfl ?_
          first | refine R_iincN (q := 96) (loc' := [(3, _), (2, _), (1, _), (5, _), (4, _), (0, _)]) dX8_bestShift_93 (by rfl) (by decide) (by rfl) rfl ?_ | refine R_iinc (q := 96) (loc' := [(3, _), (2, _), (1, _), (5, _), (4, _), (0, _)]) dX8_bestShift_93 (by rfl) (by rfl) (by decide) (by rfl) rfl ?_
          refine R_goto (q := 17) dX8_bestShift_96 (by decide) ?_
          refine R_loc [0, 1, 2, 5] (loc' := [(3, _), (2, _), (1, _), (0, _)]) (by rfl) ?_
          exact e
theorem c_mbestShift {S : Pic} (hS : PicM w S) (hO : OKr S) : Ct X 1 (d + 5) MX8_bestShift [vR 8 0 []] w (qI fun z w' => z = nI (bsF S 3).1 ∧ Fr [[6], [16], [17]] w w') := by
  refine Ct.of (by decide) rfl (Nat.le_of_ble_eq_true rfl) ?_
  show Wq _ _ _ _ 0 [(0, _)] [] _ _
  refine R_iconst (v := nI 0) (q := 1) dX8_bestShift_0 (by decide) rfl ?_
  refine R_istore_n (i := 1) (q := 2) (loc' := [(1, _), (0, _)]) dX8_bestShift_1 rfl (by decide) (by rfl) rfl ?_
  refine R_iconst (v := nI 0) (q := 3) dX8_bestShift_2 (by decide) rfl ?_
  refine R_istore_n (i := 2) (q := 4) (loc' := [(2, _), (1, _), (0, _)]) dX8_bestShift_3 rfl (by decide) (by rfl) rfl ?_
  refine R_aload_n (i := 0) (q := 5) dX8_bestShift_4 rfl rfl rfl ?_
  refine R_getR (q := 8) dX8_bestShift_5 fl_X8_13 rfl (by decide) rfl ?_
  refine R_aload_n (i := 0) (q := 9) dX8_bestShift_8 rfl rfl rfl ?_
  refine R_getR (q := 12) dX8_bestShift_9 fl_X8_16 rfl (by decide) rfl ?_
  refine R_cS2v (M' := MX8_copy) (q := 15) dX8_bestShift_12 ml_X8_134 mk_X8_copy (Nat.le_of_ble_eq_true rfl) rfl (c_mcopy (by decide) hO.1.1 hS.2) ?_
  rintro w2 ⟨hS2, hF2⟩
  refine R_iconst (v := nI 0) (q := 16) dX8_bestShift_15 (by decide) rfl ?_
  refine R_istore_n (i := 3) (q := 17) (loc' := [(3, _), (2, _), (1, _), (0, _)]) dX8_bestShift_16 rfl (by decide) (by rfl) rfl ?_
  exact l_mbs1 (w0 := w) hS.1.2.2 hO 4 0 w2 (pH S) (by omega) (by omega) hS2 (hF2.up (by decide))
theorem ly_in {r c b : Nat} (hr : r < 100) (hc : c < 100) (hb : b < 100) : ((-(nI b)).toInt64 ≤ (nI r - nI c).toInt64 ∧ (nI r - nI c).toInt64 ≤ (nI b).toInt64) ↔ dst r c ≤ b := by
  have e : (-(nI b)).toInt = 0 - (b : Int) := by
    rw [← Int32.zero_sub, show (0 : Int32) = nI 0 from rfl, pk_sub_toInt (by decide) (by omega)]
    rfl
  rw [Int64.le_iff_toInt_le, Int64.le_iff_toInt_le, Int32.toInt_toInt64, Int32.toInt_toInt64, Int32.toInt_toInt64, e, pk_sub_toInt (by omega) (by omega), nI_toInt (by omega)]
  unfold dst
  split <;> omega
theorem lay_m1 {q : List Nat} {S : Pic} {L : List (Nat × Nat)} {a b : Nat} (hN : pN S ≤ 20) (hl : L.length < pN S) (h : RowA w q (layP S L)) : RowA (uI w q L.length (nI (6 * a + b))) q (layP S (L ++ [(a, b)])) := by
  obtain ⟨h1, h2, h3, h4⟩ := h
  refine ⟨?_, ?_, ?_, ?_⟩
  · intro s hs
    have hs : s < pN S := hs
    show _ = nI (6 * (if s < (L ++ [(a, b)]).length then ((L ++ [(a, b)]).getD s (0, 0)).1 else pro S s) + (if s < (L ++ [(a, b)]).length then ((L ++ [(a, b)]).getD s (0, 0)).2 else pco S s))
    rw [List.length_append, List.length_cons, List.length_nil]
    by_cases h9 : s = L.length
    · rw [if_pos (by omega), if_pos (by omega), h9, gD_r]
      exact uI_same _ _ _ _
    · rw [uI_ne h9]
      have h8 : w.1 q s = nI (6 * (if s < L.length then (L.getD s (0, 0)).1 else pro S s) + (if s < L.length then (L.getD s (0, 0)).2 else pco S s)) := h1 s hs
      rw [h8]
      rcases Nat.lt_or_ge s L.length with h7 | h7
      · rw [if_pos h7, if_pos h7, if_pos (by omega), if_pos (by omega), gD_l h7]
      · rw [if_neg (by omega), if_neg (by omega), if_neg (by omega), if_neg (by omega)]
  · intro k hk
    rw [uI_ne (by omega)]
    exact h2 k hk
  · rw [uI_ne (by omega)]
    exact h3
  · rw [uI_ne (by omega)]
    exact h4
theorem lay_m2 {q : List Nat} {S : Pic} {L : List (Nat × Nat)} {x : Nat × Nat} (hl : pN S ≤ L.length) (h : RowA w q (layP S L)) : RowA w q (layP S (L ++ [x])) := by
  refine h.cg rfl rfl rfl ?_ ?_ (fun _ _ => rfl)
  · intro s hs
    have hs : s < pN S := hs
    show (if s < (L ++ [x]).length then ((L ++ [x]).getD s (0, 0)).1 else pro S s) = (if s < L.length then (L.getD s (0, 0)).1 else pro S s)
    rw [List.length_append, List.length_cons, List.length_nil, if_pos (by omega), if_pos (by omega), gD_l (by omega)]
  · intro s hs
    have hs : s < pN S := hs
    show (if s < (L ++ [x]).length then ((L ++ [x]).getD s (0, 0)).2 else pco S s) = (if s < L.length then (L.getD s (0, 0)).2 else pco S s)
    rw [List.length_append, List.length_cons, List.length_nil, if_pos (by omega), if_pos (by omega), gD_l (by omega)]
theorem l_ly2 {q : List Nat} {S : Pic} {w0 : Wd} {b t : Nat} {acc : List (Nat × Nat)} (hq : [] ≠ q) (hD0 : DimA w0 S) (hR6 : pR S ≤ 6) (hC6 : 1 ≤ pC S ∧ pC S ≤ 6) (hN : pN S ≤ 20) (hb : b < 6) (ht : t < 11) (Q : Option AV → Wd → Prop) (kk : ∀ w, RowA w q (layP S (laR (pC S) b t acc (pR S))) → Fr [q] w0 w → Wq X 1 (d + 1) MX8_layOn 93 [(5, vI (nI (pR S))), (4, vI (nI t)), (3, vI (nI (min (laR (pC S) b t acc (pR S)).length (pN S)))), (0, vR 8 0 []), (1, vR 9 38 q), (2, vI (nI b))] [] w Q) : ∀ (f r : Nat) (w : Wd), pR S ≤ r + f → r ≤ pR S → RowA w q (layP S (laR (pC S) b t acc r)) → Fr [q] w0 w → Wq X 1 (d + 1) MX8_layOn 15 [(5, vI (nI r)), (4, vI (nI t)), (3, vI (nI (min (laR (pC S) b t acc r).length (pN S)))), (0, vR 8 0 []), (1, vR 9 38 q), (2, vI (nI b))] [] w Q := by
  have hq2 : [] ∉ [q] := by simpa using hq
  intro f
  induction f with
  | zero =>
    intro r w h1 h2 hS hF
    have hD := hD0.fr hF hq2
    refine R_iload (q := 17) dX8_layOn_15 rfl rfl ?_
    refine R_aload_n (i := 0) (q := 18) dX8_layOn_17 rfl rfl rfl ?_
    refine R_getI' (q := 21) dX8_layOn_18 fl_X8_47 rfl (hD.1) rfl ?_
    refine R_icmp_geN (by omega) (by omega) (tgt := 93) (q := 24) dX8_layOn_21 (by decide) rfl (fun c1 => ?_) (fun c1 => ?_)
    · obtain rfl : r = pR S := by omega
      exact kk w hS hF
    · omega
  | succ f ih =>
    intro r w h1 h2 hS hF
    have hD := hD0.fr hF hq2
    refine R_iload (q := 17) dX8_layOn_15 rfl rfl ?_
    refine R_aload_n (i := 0) (q := 18) dX8_layOn_17 rfl rfl rfl ?_
    refine R_getI' (q := 21) dX8_layOn_18 fl_X8_47 rfl (hD.1) rfl ?_
    refine R_icmp_geN (by omega) (by omega) (tgt := 93) (q := 24) dX8_layOn_21 (by decide) rfl (fun c1 => ?_) (fun c1 => ?_)
    · obtain rfl : r = pR S := by omega
      exact kk w hS hF
    · have e := fun w => ih (r + 1) w (by omega) (by omega)
      simp only [laR] at e
      refine R_iload (q := 26) dX8_layOn_24 rfl rfl ?_
      refine R_iload (q := 28) dX8_layOn_26 rfl rfl ?_
      refine R_isub (q := 29) dX8_layOn_28 rfl ?_
      refine R_istore (q := 31) (loc' := [(6, _), (5, _), (4, _), (3, _), (0, _), (1, _), (2, _)]) dX8_layOn_29 (by decide) (by rfl) rfl ?_
      refine R_iload (q := 33) dX8_layOn_31 rfl rfl ?_
      refine R_i2l (q := 34) dX8_layOn_33 rfl ?_
      refine R_lconst (v := 0) (q := 35) dX8_layOn_34 (by decide) rfl ?_
      refine R_aload_n (i := 0) (q := 36) dX8_layOn_35 rfl rfl rfl ?_
      refine R_getI' (q := 39) dX8_layOn_36 fl_X8_51 rfl (hD.2.1) rfl ?_
      refine R_iconst (v := nI 1) (q := 40) dX8_layOn_39 (by decide) rfl ?_
      refine R_isub (q := 41) dX8_layOn_40 rfl ?_
      refine R_i2l (q := 42) dX8_layOn_41 rfl ?_
      refine R_cS3i (M' := MX8_in) (q := 45) dX8_layOn_42 ml_X8_57 mk_X8_in (Nat.le_of_ble_eq_true rfl) rfl (c_in) ?_
      rintro _ w ⟨rfl, rfl⟩
      rw [bI_iff (in64 (n := pC S) (by omega) (pred64 (by omega))), bI_iff (sub_in (a := t) (b := r) (c := pC S) (by omega) (by omega) (by omega))]
      refine R_if_eqB (tgt := 87) (q := 48) dX8_layOn_45 (by decide) rfl (fun c2 => ?_) (fun c2 => ?_)
      · have e2 := e w
        rw [if_neg (fun h => c2 ⟨h.1, h.2.1⟩)] at e2
        first | refine R_iincN (q := 90) (loc' := [(5, _), (6, _), (4, _), (3, _), (0, _), (1, _), (2, _)]) dX8_layOn_87 (by rfl) (by decide) (by rfl) rfl ?_ | refine R_iinc (q := 90) (loc' := [(5, _), (6, _), (4, _), (3, _), (0, _), (1, _), (2, _)]) dX8_layOn_87 (by rfl) (by rfl) (by decide) (by rfl) rfl ?_
        refine R_goto (q := 15) dX8_layOn_90 (by decide) ?_
        refine R_loc [0, 2, 3, 4, 5, 6] (loc' := [(5, _), (4, _), (3, _), (0, _), (1, _), (2, _)]) (by rfl) ?_
        exact e2 hS hF
      · rw [pk_sub c2.1]
        refine R_iload (q := 50) dX8_layOn_48 rfl rfl ?_
        refine R_iload (q := 52) dX8_layOn_50 rfl rfl ?_
        refine R_isub (q := 53) dX8_layOn_52 rfl ?_
        refine R_i2l (q := 54) dX8_layOn_53 rfl ?_
        refine R_iload_n (i := 2) (q := 55) dX8_layOn_54 rfl rfl rfl ?_
        refine R_ineg (q := 56) dX8_layOn_55 rfl ?_
        refine R_i2l (q := 57) dX8_layOn_56 rfl ?_
        refine R_iload_n (i := 2) (q := 58) dX8_layOn_57 rfl rfl rfl ?_
        refine R_i2l (q := 59) dX8_layOn_58 rfl ?_
        refine R_cS3i (M' := MX8_in) (q := 62) dX8_layOn_59 ml_X8_57 mk_X8_in (Nat.le_of_ble_eq_true rfl) rfl (c_in) ?_
        rintro _ w ⟨rfl, rfl⟩
        rw [bI_iff (ly_in (r := r) (c := t - r) (b := b) (by omega) (by omega) (by omega))]
        refine R_if_eqB (tgt := 87) (q := 65) dX8_layOn_62 (by decide) rfl (fun c3 => ?_) (fun c3 => ?_)
        · have e2 := e w
          rw [if_neg (fun h => c3 h.2.2)] at e2
          first | refine R_iincN (q := 90) (loc' := [(5, _), (6, _), (4, _), (3, _), (0, _), (1, _), (2, _)]) dX8_layOn_87 (by rfl) (by decide) (by rfl) rfl ?_ | refine R_iinc (q := 90) (loc' := [(5, _), (6, _), (4, _), (3, _), (0, _), (1, _), (2, _)]) dX8_layOn_87 (by rfl) (by rfl) (by decide) (by rfl) rfl ?_
          refine R_goto (q := 15) dX8_layOn_90 (by decide) ?_
          refine R_loc [0, 2, 3, 4, 5, 6] (loc' := [(5, _), (4, _), (3, _), (0, _), (1, _), (2, _)]) (by rfl) ?_
          exact e2 hS hF
        · have hc : r ≤ t ∧ t - r < pC S ∧ dst r (t - r) ≤ b := ⟨c2.1, c2.2, c3⟩
          have hlen : (laR (pC S) b t acc r ++ [(r, t - r)]).length = (laR (pC S) b t acc r).length + 1 := by simp
          refine R_iload_n (i := 3) (q := 66) dX8_layOn_65 rfl rfl rfl ?_
          refine R_aload_n (i := 0) (q := 67) dX8_layOn_66 rfl rfl rfl ?_
          refine R_getI' (q := 70) dX8_layOn_67 fl_X8_54 rfl (hD.2.2) rfl ?_
          refine R_icmp_geN (by omega) (by omega) (tgt := 87) (q := 73) dX8_layOn_70 (by decide) rfl (fun c4 => ?_) (fun c4 => ?_)
          · have e2 := e w
            rw [if_pos hc, hlen, show min ((laR (pC S) b t acc r).length + 1) (pN S) = min (laR (pC S) b t acc r).length (pN S) by omega] at e2
            first | refine R_iincN (q := 90) (loc' := [(5, _), (6, _), (4, _), (3, _), (0, _), (1, _), (2, _)]) dX8_layOn_87 (by rfl) (by decide) (by rfl) rfl ?_ | refine R_iinc (q := 90) (loc' := [(5, _), (6, _), (4, _), (3, _), (0, _), (1, _), (2, _)]) dX8_layOn_87 (by rfl) (by rfl) (by decide) (by rfl) rfl ?_
            refine R_goto (q := 15) dX8_layOn_90 (by decide) ?_
            refine R_loc [0, 2, 3, 4, 5, 6] (loc' := [(5, _), (4, _), (3, _), (0, _), (1, _), (2, _)]) (by rfl) ?_
            exact e2 (lay_m2 (by omega) hS) hF
          · have hm : min (laR (pC S) b t acc r).length (pN S) = (laR (pC S) b t acc r).length := by omega
            have e2 := e (uI w q (laR (pC S) b t acc r).length (nI (6 * r + (t - r))))
            rw [if_pos hc, hlen, show min ((laR (pC S) b t acc r).length + 1) (pN S) = (laR (pC S) b t acc r).length + 1 by omega] at e2
            rw [hm]
            refine R_aload_n (i := 1) (q := 74) dX8_layOn_73 rfl rfl rfl ?_
            refine R_iload_n (i := 3) (q := 75) dX8_layOn_74 rfl rfl rfl ?_
            refine R_bipush (v := nI 6) (q := 77) dX8_layOn_75 (by decide) rfl ?_
            refine R_iload (q := 79) dX8_layOn_77 rfl rfl ?_
            first | refine R_imulN (q := 80) dX8_layOn_79 rfl ?_ | refine R_imul (q := 80) dX8_layOn_79 rfl ?_
            refine R_iload (q := 82) dX8_layOn_80 rfl rfl ?_
            first | refine R_iaddN (q := 83) dX8_layOn_82 rfl ?_ | refine R_iadd (q := 83) dX8_layOn_82 rfl ?_
            refine R_iast (q := 84) dX8_layOn_83 (rfl) (by omega) (by decide) rfl ?_
            first | refine R_iincN (q := 87) (loc' := [(3, _), (6, _), (5, _), (4, _), (0, _), (1, _), (2, _)]) dX8_layOn_84 (by rfl) (by decide) (by rfl) rfl ?_ | refine R_iinc (q := 87) (loc' := [(3, _), (6, _), (5, _), (4, _), (0, _), (1, _), (2, _)]) dX8_layOn_84 (by rfl) (by rfl) (by decide) (by rfl) rfl ?_
            first | refine R_iincN (q := 90) (loc' := [(5, _), (3, _), (6, _), (4, _), (0, _), (1, _), (2, _)]) dX8_layOn_87 (by rfl) (by decide) (by rfl) rfl ?_ | refine R_iinc (q := 90) (loc' := [(5, _), (3, _), (6, _), (4, _), (0, _), (1, _), (2, _)]) dX8_layOn_87 (by rfl) (by rfl) (by decide) (by rfl) rfl ?_
            refine R_goto (q := 15) dX8_layOn_90 (by decide) ?_
            refine R_loc [0, 3, 1, 4, 5, 6] (loc' := [(5, _), (4, _), (3, _), (0, _), (1, _), (2, _)]) (by rfl) ?_
            exact e2 (lay_m1 hN (by omega) hS) (hF.tr (Fr.i (by simp)))
theorem l_ly1 {q : List Nat} {S : Pic} {w0 : Wd} {b : Nat} (hq : [] ≠ q) (hD0 : DimA w0 S) (hR6 : 1 ≤ pR S ∧ pR S ≤ 6) (hC6 : 1 ≤ pC S ∧ pC S ≤ 6) (hN : pN S ≤ 20) (hb : b < 6) : ∀ (f t : Nat) (w : Wd), 11 ≤ t + f → t ≤ 11 → RowA w q (layP S (laT (pR S) (pC S) b t)) → Fr [q] w0 w → Wq X 1 (d + 1) MX8_layOn 5 [(4, vI (nI t)), (3, vI (nI (min (laT (pR S) (pC S) b t).length (pN S)))), (0, vR 8 0 []), (1, vR 9 38 q), (2, vI (nI b))] [] w (qI fun z w' => z = bI (pN S ≤ cw (pC S) b (pR S)) ∧ RowA w' q (layS S b) ∧ Fr [q] w0 w') := by
  have hq2 : [] ∉ [q] := by simpa using hq
  have hla := la_fin (pR S) (by omega) (pC S) (by omega) b hb hR6.1 hC6.1
  intro f
  induction f with
  | zero =>
    intro t w h1 h2 hS hF
    have hD := hD0.fr hF hq2
    refine R_iload (q := 7) dX8_layOn_5 rfl rfl ?_
    refine R_bipush (v := nI 11) (q := 9) dX8_layOn_7 (by decide) rfl ?_
    refine R_icmp_geN (by omega) (by omega) (tgt := 99) (q := 12) dX8_layOn_9 (by decide) rfl (fun c1 => ?_) (fun c1 => ?_)
    · obtain rfl : t = 11 := by omega
      rw [hla.2.1] at hS ⊢
      rw [hla.1]
      refine R_iload_n (i := 3) (q := 100) dX8_layOn_99 rfl rfl rfl ?_
      refine R_aload_n (i := 0) (q := 101) dX8_layOn_100 rfl rfl rfl ?_
      refine R_getI' (q := 104) dX8_layOn_101 fl_X8_54 rfl (hD.2.2) rfl ?_
      refine R_icmp_neN (by omega) (by omega) (tgt := 111) (q := 107) dX8_layOn_104 (by decide) rfl (fun c2 => ?_) (fun c2 => ?_)
      · refine R_iconst (v := nI 0) (q := 112) dX8_layOn_111 (by decide) rfl ?_
        refine R_rz dX8_layOn_112 rfl (by decide) ?_
        exact ⟨(bI_f (by omega)).symm, hS, hF⟩
      · refine R_iconst (v := nI 1) (q := 108) dX8_layOn_107 (by decide) rfl ?_
        refine R_goto (q := 112) dX8_layOn_108 (by decide) ?_
        refine R_rz dX8_layOn_112 rfl (by decide) ?_
        exact ⟨(bI_t (by omega)).symm, hS, hF⟩
    · omega
  | succ f ih =>
    intro t w h1 h2 hS hF
    have hD := hD0.fr hF hq2
    refine R_iload (q := 7) dX8_layOn_5 rfl rfl ?_
    refine R_bipush (v := nI 11) (q := 9) dX8_layOn_7 (by decide) rfl ?_
    refine R_icmp_geN (by omega) (by omega) (tgt := 99) (q := 12) dX8_layOn_9 (by decide) rfl (fun c1 => ?_) (fun c1 => ?_)
    · obtain rfl : t = 11 := by omega
      rw [hla.2.1] at hS ⊢
      rw [hla.1]
      refine R_iload_n (i := 3) (q := 100) dX8_layOn_99 rfl rfl rfl ?_
      refine R_aload_n (i := 0) (q := 101) dX8_layOn_100 rfl rfl rfl ?_
      refine R_getI' (q := 104) dX8_layOn_101 fl_X8_54 rfl (hD.2.2) rfl ?_
      refine R_icmp_neN (by omega) (by omega) (tgt := 111) (q := 107) dX8_layOn_104 (by decide) rfl (fun c2 => ?_) (fun c2 => ?_)
      · refine R_iconst (v := nI 0) (q := 112) dX8_layOn_111 (by decide) rfl ?_
        refine R_rz dX8_layOn_112 rfl (by decide) ?_
        exact ⟨(bI_f (by omega)).symm, hS, hF⟩
      · refine R_iconst (v := nI 1) (q := 108) dX8_layOn_107 (by decide) rfl ?_
        refine R_goto (q := 112) dX8_layOn_108 (by decide) ?_
        refine R_rz dX8_layOn_112 rfl (by decide) ?_
        exact ⟨(bI_t (by omega)).symm, hS, hF⟩
    · refine R_iconst (v := nI 0) (q := 13) dX8_layOn_12 (by decide) rfl ?_
      refine R_istore (q := 15) (loc' := [(5, _), (4, _), (3, _), (0, _), (1, _), (2, _)]) dX8_layOn_13 (by decide) (by rfl) rfl ?_
      refine l_ly2 (w0 := w0) (acc := laT (pR S) (pC S) b t) hq hD0 hR6.2 hC6 hN hb c1 _ ?_ (pR S) 0 w (by omega) (by omega) hS hF
      intro w1 hS1 hF1
      first | refine R_iincN (q := 96) (loc' := [(4, _), (5, _), (3, _), (0, _), (1, _), (2, _)]) dX8_layOn_93 (by rfl) (by decide) (by rfl) rfl ?_ | refine R_iinc (q := 96) (loc' := [(4, _), (5, _), (3, _), (0, _), (1, _), (2, _)]) dX8_layOn_93 (by rfl) (by rfl) (by decide) (by rfl) rfl ?_
      refine R_goto (q := 5) dX8_layOn_96 (by decide) ?_
      refine R_loc [0, 2, 3, 4, 5] (loc' := [(4, _), (3, _), (0, _), (1, _), (2, _)]) (by rfl) ?_
      exact ih (t + 1) w1 (by omega) (by omega) hS1 hF1
theorem c_layOn {q : List Nat} {S : Pic} {b : Nat} (hq : [] ≠ q) (hD : DimA w S) (hR6 : 1 ≤ pR S ∧ pR S ≤ 6) (hC6 : 1 ≤ pC S ∧ pC S ≤ 6) (hN : pN S ≤ 20) (hb : b < 6) (hS : RowA w q S) : Ct X 1 (d + 1) MX8_layOn [vR 8 0 [], vR 9 38 q, vI (nI b)] w (qI fun z w' => z = bI (pN S ≤ cw (pC S) b (pR S)) ∧ RowA w' q (layS S b) ∧ Fr [q] w w') := by
  refine Ct.of (by decide) rfl (Nat.le_of_ble_eq_true rfl) ?_
  show Wq _ _ _ _ 0 [(0, _), (1, _), (2, _)] [] _ _
  refine R_iconst (v := nI 0) (q := 1) dX8_layOn_0 (by decide) rfl ?_
  refine R_istore_n (i := 3) (q := 2) (loc' := [(3, _), (0, _), (1, _), (2, _)]) dX8_layOn_1 rfl (by decide) (by rfl) rfl ?_
  refine R_iconst (v := nI 0) (q := 3) dX8_layOn_2 (by decide) rfl ?_
  refine R_istore (q := 5) (loc' := [(4, _), (3, _), (0, _), (1, _), (2, _)]) dX8_layOn_3 (by decide) (by rfl) rfl ?_
  have hS0 : RowA w q (layP S []) := hS.cg rfl rfl rfl (fun s _ => (if_neg (Nat.not_lt_zero s) : (if s < ([] : List (Nat × Nat)).length then (([] : List (Nat × Nat)).getD s (0, 0)).1 else pro S s) = pro S s)) (fun s _ => (if_neg (Nat.not_lt_zero s) : (if s < ([] : List (Nat × Nat)).length then (([] : List (Nat × Nat)).getD s (0, 0)).2 else pco S s) = pco S s)) (fun _ _ => rfl)
  have h := l_ly1 (X := X) (d := d) (w0 := w) hq hD hR6 hC6 hN hb 11 0 w (by omega) (by omega) hS0 Fr.rf
  rw [show min (laT (pR S) (pC S) b 0).length (pN S) = 0 from Nat.zero_min _] at h
  exact h
theorem l_mband {S : Pic} {w0 : Wd} (hS0 : PicM w0 S) (hOK : OKS S) : ∀ (u : Nat) (w : Wd), u ≤ 6 → Fr [[6]] w0 w → Wq X 1 (d + 2) MX8_band 5 [(2, vI (nI u - nI 1)), (1, vI (bdF (fun b => decide (pN S ≤ cw (pC S) b (pR S))) (6 - u) u)), (0, vR 8 0 [])] [] w (qI fun z w' => z = bdI S ∧ Fr [[6]] w0 w') := by
  obtain ⟨hOK1, hOK2, hOK3, hOK4, hOK5, -⟩ := id hOK
  intro u
  induction u with
  | zero =>
    intro w h1 hF
    refine R_iload_n (i := 2) (q := 6) dX8_band_5 rfl rfl rfl ?_
    refine R_if_lt (tgt := 44) (q := 9) dX8_band_6 (by decide) rfl (fun c1 => ?_) (fun c1 => ?_)
    · refine R_iload_n (i := 1) (q := 45) dX8_band_44 rfl rfl rfl ?_
      refine R_ri dX8_band_45 rfl ?_
      exact ⟨rfl, hF⟩
    · exact absurd (by decide) c1
  | succ u ih =>
    intro w h1 hF
    have e0 : nI (u + 1) - nI 1 = nI u := by rw [pk_sub (by omega)]; rfl
    have hS : PicM w S := hS0.fm (hF.m (by decide) (by decide) : Fm [[6]] [] w0 w) (by decide) (by decide) (by decide) (by decide)
    have eb : bdF (fun b => decide (pN S ≤ cw (pC S) b (pR S))) (6 - u) u = if pN S ≤ cw (pC S) u (pR S) then nI u else bdF (fun b => decide (pN S ≤ cw (pC S) b (pR S))) (6 - (u + 1)) (u + 1) := by
      rw [show 6 - u = 6 - (u + 1) + 1 by omega]
      simp only [bdF, decide_eq_true_eq]
    rw [e0]
    refine R_iload_n (i := 2) (q := 6) dX8_band_5 rfl rfl rfl ?_
    refine R_if_lt (tgt := 44) (q := 9) dX8_band_6 (by decide) rfl (fun c1 => ?_) (fun c1 => ?_)
    · exact absurd c1 (nI_pos (by omega))
    · refine R_aload_n (i := 0) (q := 10) dX8_band_9 rfl rfl rfl ?_
      refine R_getR (q := 13) dX8_band_10 fl_X8_13 rfl (by decide) rfl ?_
      refine R_aload_n (i := 0) (q := 14) dX8_band_13 rfl rfl rfl ?_
      refine R_getR (q := 17) dX8_band_14 fl_X8_16 rfl (by decide) rfl ?_
      refine R_cS2v (M' := MX8_copy) (q := 20) dX8_band_17 ml_X8_134 mk_X8_copy (Nat.le_of_ble_eq_true rfl) rfl (c_mcopy (by decide) hOK3 hS.2) ?_
      rintro w2 ⟨hS2, hF2⟩
      refine R_aload_n (i := 0) (q := 21) dX8_band_20 rfl rfl rfl ?_
      refine R_aload_n (i := 0) (q := 22) dX8_band_21 rfl rfl rfl ?_
      refine R_getR (q := 25) dX8_band_22 fl_X8_16 rfl (by decide) rfl ?_
      refine R_iload_n (i := 2) (q := 26) dX8_band_25 rfl rfl rfl ?_
      refine R_cV2i (M' := MX8_layOn) (q := 29) dX8_band_26 ml_X8_145 mk_X8_layOn (Nat.le_of_ble_eq_true rfl) rfl (c_layOn (by decide) (hS.1.fr hF2 (by decide)) hOK1 hOK2 hOK3 (by omega) hS2) ?_
      rintro _ w3 ⟨rfl, hS3, hF3⟩
      have e := ih w3 (by omega) ((hF.tr hF2).tr hF3)
      rw [eb] at e
      refine R_if_eqB (tgt := 36) (q := 32) dX8_band_29 (by decide) rfl (fun c2 => ?_) (fun c2 => ?_)
      · rw [if_neg c2] at e
        refine R_iload_n (i := 1) (q := 37) dX8_band_36 rfl rfl rfl ?_
        refine R_istore_n (i := 1) (q := 38) (loc' := [(1, _), (2, _), (0, _)]) dX8_band_37 rfl (by decide) (by rfl) rfl ?_
        refine R_iinc (q := 41) (loc' := [(2, vI (nI u - nI 1)), (1, _), (0, _)]) dX8_band_38 (by rfl) (sub_dec u) (by decide) (by rfl) rfl ?_
        refine R_goto (q := 5) dX8_band_41 (by decide) ?_
        exact e
      · rw [if_pos c2] at e
        refine R_iload_n (i := 2) (q := 33) dX8_band_32 rfl rfl rfl ?_
        refine R_goto (q := 37) dX8_band_33 (by decide) ?_
        refine R_istore_n (i := 1) (q := 38) (loc' := [(1, _), (2, _), (0, _)]) dX8_band_37 rfl (by decide) (by rfl) rfl ?_
        refine R_iinc (q := 41) (loc' := [(2, vI (nI u - nI 1)), (1, _), (0, _)]) dX8_band_38 (by rfl) (sub_dec u) (by decide) (by rfl) rfl ?_
        refine R_goto (q := 5) dX8_band_41 (by decide) ?_
        exact e
theorem c_mband {S : Pic} (hS : PicM w S) (hOK : OKS S) : Ct X 1 (d + 2) MX8_band [vR 8 0 []] w (qI fun z w' => z = bdI S ∧ Fr [[6]] w w') := by
  refine Ct.of (by decide) rfl (Nat.le_of_ble_eq_true rfl) ?_
  show Wq _ _ _ _ 0 [(0, _)] [] _ _
  refine R_bipush (v := (-9)) (q := 2) dX8_band_0 (by decide) rfl ?_
  refine R_istore_n (i := 1) (q := 3) (loc' := [(1, _), (0, _)]) dX8_band_2 rfl (by decide) (by rfl) rfl ?_
  refine R_iconst (v := nI 5) (q := 4) dX8_band_3 (by decide) rfl ?_
  refine R_istore_n (i := 2) (q := 5) (loc' := [(2, _), (1, _), (0, _)]) dX8_band_4 rfl (by decide) (by rfl) rfl ?_
  have h := l_mband (X := X) (d := d) hS hOK 6 w (by omega) Fr.rf
  rw [show nI 6 - nI 1 = nI 5 from rfl] at h
  exact h
theorem c_mabout {x : Int32} (hR : ModR w A) (hA : AOK A) : Ct X 1 (d + 6) MX8_about [vR 8 0 [], vI x] w (qI fun z w' => z = opAbout A x ∧ ModR w' A) := by
  obtain ⟨hOK1, hOK2, hOK3, hOK4, hOK5, -⟩ := id hA.2.1
  obtain ⟨h1, h2, h3, h4, h5, h6⟩ := id hR
  refine Ct.of (by decide) rfl (Nat.le_of_ble_eq_true rfl) ?_
  show Wq _ _ _ _ 0 [(0, _), (1, _)] [] _ _
  refine R_iload_n (i := 1) (q := 1) dX8_about_0 rfl rfl rfl ?_
  unfold opAbout
  by_cases hin : inN x 15
  · rw [if_pos hin]
    obtain ⟨j, hj, rfl⟩ := inN_ex (by decide) hin
    rw [cl_nI (by omega)]
    rcases (show j = 0 ∨ j = 1 ∨ j = 2 ∨ j = 3 ∨ j = 4 ∨ j = 5 ∨ j = 6 ∨ j = 7 ∨ j = 8 ∨ j = 9 ∨ j = 10 ∨ j = 11 ∨ j = 12 ∨ j = 13 ∨ j = 14 by omega) with rfl | rfl | rfl | rfl | rfl | rfl | rfl | rfl | rfl | rfl | rfl | rfl | rfl | rfl | rfl
    · refine R_tableIn (q := 76) dX8_about_1 (by decide) (by decide) (by rfl) (by decide) ?_
      refine R_aload_n (i := 0) (q := 77) dX8_about_76 rfl rfl rfl ?_
      refine R_getI' (q := 80) dX8_about_77 fl_X8_47 rfl (h2.1.1) rfl ?_
      refine R_ri dX8_about_80 rfl ?_
      exact ⟨rfl, hR⟩
    · refine R_tableIn (q := 81) dX8_about_1 (by decide) (by decide) (by rfl) (by decide) ?_
      refine R_aload_n (i := 0) (q := 82) dX8_about_81 rfl rfl rfl ?_
      refine R_getI' (q := 85) dX8_about_82 fl_X8_51 rfl (h2.1.2.1) rfl ?_
      refine R_ri dX8_about_85 rfl ?_
      exact ⟨rfl, hR⟩
    · refine R_tableIn (q := 86) dX8_about_1 (by decide) (by decide) (by rfl) (by decide) ?_
      refine R_aload_n (i := 0) (q := 87) dX8_about_86 rfl rfl rfl ?_
      refine R_getI' (q := 90) dX8_about_87 fl_X8_54 rfl (h2.1.2.2) rfl ?_
      refine R_ri dX8_about_90 rfl ?_
      exact ⟨rfl, hR⟩
    · refine R_tableIn (q := 91) dX8_about_1 (by decide) (by decide) (by rfl) (by decide) ?_
      refine R_aload_n (i := 0) (q := 92) dX8_about_91 rfl rfl rfl ?_
      refine R_getR (q := 95) dX8_about_92 fl_X8_13 rfl (by decide) rfl ?_
      refine R_bipush (v := nI 36) (q := 97) dX8_about_95 (by decide) rfl ?_
      refine R_iald' (q := 98) dX8_about_97 (rfl) (by omega) (by decide) (h2.2.2.2.1) rfl ?_
      refine R_ri dX8_about_98 rfl ?_
      exact ⟨rfl, hR⟩
    · refine R_tableIn (q := 99) dX8_about_1 (by decide) (by decide) (by rfl) (by decide) ?_
      refine R_aload_n (i := 0) (q := 100) dX8_about_99 rfl rfl rfl ?_
      refine R_getR (q := 103) dX8_about_100 fl_X8_13 rfl (by decide) rfl ?_
      refine R_bipush (v := nI 37) (q := 105) dX8_about_103 (by decide) rfl ?_
      refine R_iald' (q := 106) dX8_about_105 (rfl) (by omega) (by decide) (h2.2.2.2.2) rfl ?_
      refine R_ri dX8_about_106 rfl ?_
      exact ⟨rfl, hR⟩
    · refine R_tableIn (q := 107) dX8_about_1 (by decide) (by decide) (by rfl) (by decide) ?_
      refine R_aload_n (i := 0) (q := 108) dX8_about_107 rfl rfl rfl ?_
      refine R_cV0i (M' := MX8_blanks) (q := 111) dX8_about_108 ml_X8_149 mk_X8_blanks (Nat.le_of_ble_eq_true rfl) rfl (c_blanks h2.1.2.2 hA.2.1.r h2.2) ?_
      rintro _ w1 ⟨rfl, hF⟩
      refine R_ri dX8_about_111 rfl ?_
      exact ⟨rfl, hR.sc (hF.m (by decide) (by decide))⟩
    · refine R_tableIn (q := 112) dX8_about_1 (by decide) (by decide) (by rfl) (by decide) ?_
      refine R_aload_n (i := 0) (q := 113) dX8_about_112 rfl rfl rfl ?_
      refine R_aload_n (i := 0) (q := 114) dX8_about_113 rfl rfl rfl ?_
      refine R_getR (q := 117) dX8_about_114 fl_X8_13 rfl (by decide) rfl ?_
      refine R_aload_n (i := 0) (q := 118) dX8_about_117 rfl rfl rfl ?_
      refine R_getR (q := 121) dX8_about_118 fl_X8_13 rfl (by decide) rfl ?_
      refine R_bipush (v := nI 37) (q := 123) dX8_about_121 (by decide) rfl ?_
      refine R_iald' (q := 124) dX8_about_123 (rfl) (by omega) (by decide) (h2.2.2.2.2) rfl ?_
      refine R_cV2i (M' := MX8_missBy) (q := 127) dX8_about_124 ml_X8_142 mk_X8_missBy (Nat.le_of_ble_eq_true rfl) rfl (c_mmissBy h2.1.2.2 hA.2.1.r h2.2 (Or.inl rfl) hOK5) ?_
      rintro _ w1 ⟨rfl, hF⟩
      refine R_ri dX8_about_127 rfl ?_
      exact ⟨rfl, hR.sc (hF.m (by decide) (by decide))⟩
    · refine R_tableIn (q := 128) dX8_about_1 (by decide) (by decide) (by rfl) (by decide) ?_
      refine R_aload_n (i := 0) (q := 129) dX8_about_128 rfl rfl rfl ?_
      refine R_aload_n (i := 0) (q := 130) dX8_about_129 rfl rfl rfl ?_
      refine R_getR (q := 133) dX8_about_130 fl_X8_13 rfl (by decide) rfl ?_
      refine R_iconst (v := nI 0) (q := 134) dX8_about_133 (by decide) rfl ?_
      refine R_cV2i (M' := MX8_sideOf) (q := 137) dX8_about_134 ml_X8_110 mk_X8_sideOf (Nat.le_of_ble_eq_true rfl) rfl (c_msideOf (h := 0) h2.1.2.2 hA.2.1.o h2.2.1 (by decide)) ?_
      rintro _ w ⟨rfl, rfl⟩
      refine R_ri dX8_about_137 rfl ?_
      exact ⟨rfl, hR⟩
    · refine R_tableIn (q := 138) dX8_about_1 (by decide) (by decide) (by rfl) (by decide) ?_
      refine R_aload_n (i := 0) (q := 139) dX8_about_138 rfl rfl rfl ?_
      refine R_aload_n (i := 0) (q := 140) dX8_about_139 rfl rfl rfl ?_
      refine R_getR (q := 143) dX8_about_140 fl_X8_13 rfl (by decide) rfl ?_
      refine R_iconst (v := nI 1) (q := 144) dX8_about_143 (by decide) rfl ?_
      refine R_cV2i (M' := MX8_sideOf) (q := 147) dX8_about_144 ml_X8_110 mk_X8_sideOf (Nat.le_of_ble_eq_true rfl) rfl (c_msideOf (h := 1) h2.1.2.2 hA.2.1.o h2.2.1 (by decide)) ?_
      rintro _ w ⟨rfl, rfl⟩
      refine R_ri dX8_about_147 rfl ?_
      exact ⟨rfl, hR⟩
    · refine R_tableIn (q := 148) dX8_about_1 (by decide) (by decide) (by rfl) (by decide) ?_
      refine R_aload_n (i := 0) (q := 149) dX8_about_148 rfl rfl rfl ?_
      refine R_cV0i (M' := MX8_bestChange) (q := 152) dX8_about_149 ml_X8_152 mk_X8_bestChange (Nat.le_of_ble_eq_true rfl) rfl (c_mbestChange h2 hA.2.1.o) ?_
      rintro _ w1 ⟨rfl, hF⟩
      refine R_ri dX8_about_152 rfl ?_
      exact ⟨rfl, hR.sc (hF.m (by decide) (by decide))⟩
    · refine R_tableIn (q := 153) dX8_about_1 (by decide) (by decide) (by rfl) (by decide) ?_
      refine R_aload_n (i := 0) (q := 154) dX8_about_153 rfl rfl rfl ?_
      refine R_cV0i (M' := MX8_bestShift) (q := 157) dX8_about_154 ml_X8_155 mk_X8_bestShift (Nat.le_of_ble_eq_true rfl) rfl (c_mbestShift h2 hA.2.1.r) ?_
      rintro _ w1 ⟨rfl, hF⟩
      refine R_ri dX8_about_157 rfl ?_
      exact ⟨rfl, hR.sc (hF.m (by decide) (by decide))⟩
    · refine R_tableIn (q := 158) dX8_about_1 (by decide) (by decide) (by rfl) (by decide) ?_
      refine R_aload_n (i := 0) (q := 159) dX8_about_158 rfl rfl rfl ?_
      refine R_cV0i (M' := MX8_band) (q := 162) dX8_about_159 ml_X8_158 mk_X8_band (Nat.le_of_ble_eq_true rfl) rfl (c_mband h2 hA.2.1) ?_
      rintro _ w1 ⟨rfl, hF⟩
      refine R_ri dX8_about_162 rfl ?_
      exact ⟨rfl, hR.sc (hF.m (by decide) (by decide))⟩
    · refine R_tableIn (q := 163) dX8_about_1 (by decide) (by decide) (by rfl) (by decide) ?_
      obtain ⟨n, q1, q2, q3, q4⟩ := id h3
      refine R_aload_n (i := 0) (q := 164) dX8_about_163 rfl rfl rfl ?_
      refine R_getI' (q := 167) dX8_about_164 fl_X8_99 rfl (q2) rfl ?_
      refine R_ri dX8_about_167 rfl ?_
      exact ⟨rfl, hR⟩
    · refine R_tableIn (q := 168) dX8_about_1 (by decide) (by decide) (by rfl) (by decide) ?_
      refine R_aload_n (i := 0) (q := 169) dX8_about_168 rfl rfl rfl ?_
      refine R_getI' (q := 172) dX8_about_169 fl_X8_161 rfl (h5.1) rfl ?_
      refine R_ri dX8_about_172 rfl ?_
      exact ⟨rfl, hR⟩
    · refine R_tableIn (q := 173) dX8_about_1 (by decide) (by decide) (by rfl) (by decide) ?_
      refine R_aload_n (i := 0) (q := 174) dX8_about_173 rfl rfl rfl ?_
      refine R_getI' (q := 177) dX8_about_174 fl_X8_65 rfl (h1.1) rfl ?_
      refine R_ri dX8_about_177 rfl ?_
      exact ⟨rfl, hR⟩
  · rw [if_neg hin]
    refine R_tableOut (q := 178) dX8_about_1 (inN_out (by decide) hin) (by decide) ?_
    refine R_bipush (v := (-2)) (q := 180) dX8_about_178 (by decide) rfl ?_
    refine R_ri dX8_about_180 rfl ?_
    exact ⟨rfl, hR⟩
theorem l_how {S : Pic} {r0 : Nat} (hS : RowA w [5] S) (hr : r0 < 2 ^ 31) (hb : ∀ k, k < 16 → pdt S k < 2 ^ 31) : ∀ (k i : Nat), 16 ≤ i + k → i ≤ 16 → Wq X 1 d MX8_howOften 4 [(3, vI (nI i)), (2, vI (nI (ct (fun s => pdt S s == r0) i))), (0, vR 8 0 []), (1, vI (nI r0))] [] w (qI fun x w' => x = nI (ct (fun s => pdt S s == r0) 16) ∧ w' = w) := by
  intro k
  induction k with
  | zero =>
    intro i h1 h2
    refine R_iload_n (i := 3) (q := 5) dX8_howOften_4 rfl rfl rfl ?_
    refine R_bipush (v := nI 16) (q := 7) dX8_howOften_5 (by decide) rfl ?_
    refine R_icmp_geN (by omega) (by omega) (tgt := 37) (q := 10) dX8_howOften_7 (by decide) rfl (fun c1 => ?_) (fun c1 => ?_)
    · refine R_iload_n (i := 2) (q := 38) dX8_howOften_37 rfl rfl rfl ?_
      refine R_ri dX8_howOften_38 rfl ?_
      obtain rfl : i = 16 := by omega
      exact ⟨rfl, rfl⟩
    · omega
  | succ k ih =>
    intro i h1 h2
    refine R_iload_n (i := 3) (q := 5) dX8_howOften_4 rfl rfl rfl ?_
    refine R_bipush (v := nI 16) (q := 7) dX8_howOften_5 (by decide) rfl ?_
    refine R_icmp_geN (by omega) (by omega) (tgt := 37) (q := 10) dX8_howOften_7 (by decide) rfl (fun c1 => ?_) (fun c1 => ?_)
    · refine R_iload_n (i := 2) (q := 38) dX8_howOften_37 rfl rfl rfl ?_
      refine R_ri dX8_howOften_38 rfl ?_
      obtain rfl : i = 16 := by omega
      exact ⟨rfl, rfl⟩
    · have hbi := hb i c1
      have e := ih (i + 1) (by omega) (by omega)
      simp only [ct] at e
      refine R_iload_n (i := 2) (q := 11) dX8_howOften_10 rfl rfl rfl ?_
      refine R_aload_n (i := 0) (q := 12) dX8_howOften_11 rfl rfl rfl ?_
      refine R_getR (q := 15) dX8_howOften_12 fl_X8_13 rfl (by decide) rfl ?_
      refine R_bipush (v := nI 20) (q := 17) dX8_howOften_15 (by decide) rfl ?_
      refine R_iload_n (i := 3) (q := 18) dX8_howOften_17 rfl rfl rfl ?_
      first | refine R_iaddN (q := 19) dX8_howOften_18 rfl ?_ | refine R_iadd (q := 19) dX8_howOften_18 rfl ?_
      refine R_iald' (q := 20) dX8_howOften_19 (rfl) (by omega) (by decide) (hS.2.1 i c1) rfl ?_
      refine R_iload_n (i := 1) (q := 21) dX8_howOften_20 rfl rfl rfl ?_
      refine R_icmp_neN (by omega) (by omega) (tgt := 28) (q := 24) dX8_howOften_21 (by decide) rfl (fun c2 => ?_) (fun c2 => ?_)
      · refine R_iconst (v := nI 0) (q := 29) dX8_howOften_28 (by decide) rfl ?_
        first | refine R_iaddN (q := 30) dX8_howOften_29 rfl ?_ | refine R_iadd (q := 30) dX8_howOften_29 rfl ?_
        refine R_istore_n (i := 2) (q := 31) (loc' := [(2, _), (3, _), (0, _), (1, _)]) dX8_howOften_30 rfl (by decide) (by rfl) rfl ?_
        first | refine R_iincN (q := 34) (loc' := [(3, _), (2, _), (0, _), (1, _)]) dX8_howOften_31 (by rfl) (by decide) (by rfl) rfl ?_ | refine R_iinc (q := 34) (loc' := [(3, _), (2, _), (0, _), (1, _)]) dX8_howOften_31 (by rfl) (by rfl) (by decide) (by rfl) rfl ?_
        refine R_goto (q := 4) dX8_howOften_34 (by decide) ?_
        refine R_loc [0, 1, 2, 3] (loc' := [(3, _), (2, _), (0, _), (1, _)]) (by rfl) ?_
        rw [if_neg (by simpa using c2)] at e
        exact e
      · refine R_iconst (v := nI 1) (q := 25) dX8_howOften_24 (by decide) rfl ?_
        refine R_goto (q := 29) dX8_howOften_25 (by decide) ?_
        first | refine R_iaddN (q := 30) dX8_howOften_29 rfl ?_ | refine R_iadd (q := 30) dX8_howOften_29 rfl ?_
        refine R_istore_n (i := 2) (q := 31) (loc' := [(2, _), (3, _), (0, _), (1, _)]) dX8_howOften_30 rfl (by decide) (by rfl) rfl ?_
        first | refine R_iincN (q := 34) (loc' := [(3, _), (2, _), (0, _), (1, _)]) dX8_howOften_31 (by rfl) (by decide) (by rfl) rfl ?_ | refine R_iinc (q := 34) (loc' := [(3, _), (2, _), (0, _), (1, _)]) dX8_howOften_31 (by rfl) (by rfl) (by decide) (by rfl) rfl ?_
        refine R_goto (q := 4) dX8_howOften_34 (by decide) ?_
        refine R_loc [0, 1, 2, 3] (loc' := [(3, _), (2, _), (0, _), (1, _)]) (by rfl) ?_
        rw [if_pos (by simpa using c2)] at e
        exact e
theorem c_howOften {S : Pic} {r0 : Nat} (hS : RowA w [5] S) (hr : r0 < 2 ^ 31) (hb : ∀ k, k < 16 → pdt S k < 2 ^ 31) : Ct X 1 d MX8_howOften [vR 8 0 [], vI (nI r0)] w (qI fun x w' => x = nI (ct (fun s => pdt S s == r0) 16) ∧ w' = w) := by
  refine Ct.of (by decide) rfl (Nat.le_of_ble_eq_true rfl) ?_
  show Wq _ _ _ _ 0 [(0, _), (1, _)] [] _ _
  refine R_iconst (v := nI 0) (q := 1) dX8_howOften_0 (by decide) rfl ?_
  refine R_istore_n (i := 2) (q := 2) (loc' := [(2, _), (0, _), (1, _)]) dX8_howOften_1 rfl (by decide) (by rfl) rfl ?_
  refine R_iconst (v := nI 0) (q := 3) dX8_howOften_2 (by decide) rfl ?_
  refine R_istore_n (i := 3) (q := 4) (loc' := [(3, _), (2, _), (0, _), (1, _)]) dX8_howOften_3 rfl (by decide) (by rfl) rfl ?_
  exact l_how hS hr hb 16 0 (by omega) (by omega)
theorem c_mshade {x k : Int32} (hR : ModR w A) (hA : AOK A) : Ct X 1 (d + 2) MX8_shade [vR 8 0 [], vI x, vI k] w (qI fun z w' => z = opShade A x k ∧ ModR w' A) := by
  obtain ⟨hOK1, hOK2, hOK3, hOK4, hOK5, hOK6, hOK7, hOK8⟩ := id hA.2.1
  obtain ⟨h1, h2, h3, h4, h5, h6⟩ := id hR
  unfold opShade
  refine Ct.of (by decide) rfl (Nat.le_of_ble_eq_true rfl) ?_
  show Wq _ _ _ _ 0 [(0, _), (1, _), (2, _)] [] _ _
  refine R_aload_n (i := 0) (q := 1) dX8_shade_0 rfl rfl rfl ?_
  refine R_iload_n (i := 1) (q := 2) dX8_shade_1 rfl rfl rfl ?_
  refine R_cV1i (M' := MX8_isShade) (q := 5) dX8_shade_2 ml_X8_164 mk_X8_isShade (Nat.le_of_ble_eq_true rfl) rfl (c_isShade h2.1.2.2 hOK3) ?_
  rintro _ w ⟨rfl, rfl⟩
  refine R_if_neB (tgt := 10) (q := 8) dX8_shade_5 (by decide) rfl (fun c1 => ?_) (fun c1 => ?_)
  · rw [if_pos c1]
    obtain ⟨s, hs, rfl⟩ := inN_ex (by omega) c1
    rw [cl_nI (by omega)]
    have ho := hOK6 s hs
    refine R_iload_n (i := 2) (q := 11) dX8_shade_10 rfl rfl rfl ?_
    by_cases hin : inN k 3
    · obtain ⟨j, hj, rfl⟩ := inN_ex (by decide) hin
      rcases (show j = 0 ∨ j = 1 ∨ j = 2 by omega) with rfl | rfl | rfl
      · rw [if_pos rfl]
        refine R_tableIn (q := 36) dX8_shade_11 (by decide) (by decide) (by rfl) (by decide) ?_
        refine R_aload_n (i := 0) (q := 37) dX8_shade_36 rfl rfl rfl ?_
        refine R_getR (q := 40) dX8_shade_37 fl_X8_13 rfl (by decide) rfl ?_
        refine R_iload_n (i := 1) (q := 41) dX8_shade_40 rfl rfl rfl ?_
        refine R_iald' (q := 42) dX8_shade_41 (rfl) (by omega) (by decide) (h2.2.1 s hs) rfl ?_
        refine R_bipush (v := nI 6) (q := 44) dX8_shade_42 (by decide) rfl ?_
        refine R_idivN (by omega) (by omega) (by omega) (q := 45) dX8_shade_44 rfl ?_
        refine R_ri dX8_shade_45 rfl ?_
        exact ⟨by rw [show (6 * pro (aP A) s + pco (aP A) s) / 6 = pro (aP A) s by omega], hR⟩
      · rw [if_neg (by decide), if_pos rfl]
        refine R_tableIn (q := 46) dX8_shade_11 (by decide) (by decide) (by rfl) (by decide) ?_
        refine R_aload_n (i := 0) (q := 47) dX8_shade_46 rfl rfl rfl ?_
        refine R_getR (q := 50) dX8_shade_47 fl_X8_13 rfl (by decide) rfl ?_
        refine R_iload_n (i := 1) (q := 51) dX8_shade_50 rfl rfl rfl ?_
        refine R_iald' (q := 52) dX8_shade_51 (rfl) (by omega) (by decide) (h2.2.1 s hs) rfl ?_
        refine R_bipush (v := nI 6) (q := 54) dX8_shade_52 (by decide) rfl ?_
        refine R_iremN (by omega) (by omega) (by omega) (q := 55) dX8_shade_54 rfl ?_
        refine R_ri dX8_shade_55 rfl ?_
        exact ⟨by rw [show (6 * pro (aP A) s + pco (aP A) s) % 6 = pco (aP A) s by omega], hR⟩
      · rw [if_neg (by decide), if_neg (by decide), if_pos rfl]
        refine R_tableIn (q := 56) dX8_shade_11 (by decide) (by decide) (by rfl) (by decide) ?_
        refine R_aload_n (i := 0) (q := 57) dX8_shade_56 rfl rfl rfl ?_
        refine R_iload_n (i := 1) (q := 58) dX8_shade_57 rfl rfl rfl ?_
        refine R_cV1i (M' := MX8_howOften) (q := 61) dX8_shade_58 ml_X8_167 mk_X8_howOften (Nat.le_of_ble_eq_true rfl) rfl (c_howOften h2.2 (by omega) (fun k hk => by have := hOK8 k hk; omega)) ?_
        rintro _ w ⟨rfl, rfl⟩
        refine R_ri dX8_shade_61 rfl ?_
        exact ⟨rfl, hR⟩
    · have hk0 : ¬ k = nI 0 := fun h => hin (by rw [h]; exact (inN_nI (by decide) (by decide)).mpr (by decide))
      have hk1 : ¬ k = nI 1 := fun h => hin (by rw [h]; exact (inN_nI (by decide) (by decide)).mpr (by decide))
      have hk2 : ¬ k = nI 2 := fun h => hin (by rw [h]; exact (inN_nI (by decide) (by decide)).mpr (by decide))
      rw [if_neg hk0, if_neg hk1, if_neg hk2]
      refine R_tableOut (q := 62) dX8_shade_11 (inN_out (by decide) hin) (by decide) ?_
      refine R_bipush (v := (-2)) (q := 64) dX8_shade_62 (by decide) rfl ?_
      refine R_ri dX8_shade_64 rfl ?_
      exact ⟨rfl, hR⟩
  · rw [if_neg c1]
    refine R_iconst (v := (-1)) (q := 9) dX8_shade_8 (by decide) rfl ?_
    refine R_ri dX8_shade_9 rfl ?_
    exact ⟨rfl, hR⟩
def saF (S : Pic) (r c : Nat) : Nat → Int32
  | 0 => -9
  | k + 1 => if pro S k = r ∧ pco S k = c then nI k else saF S r c k
theorem saF_A {S : Pic} {r c : Nat} : ∀ n, n ≤ pN S → ((∃ s, s < n ∧ pro S s = r ∧ pco S s = c ∧ saF S r c n = nI s) ∨ ((∀ s, s < n → ¬ (pro S s = r ∧ pco S s = c)) ∧ saF S r c n = -9))
  | 0, _ => Or.inr ⟨fun s hs => absurd hs (Nat.not_lt_zero s), rfl⟩
  | n + 1, hn => by
    simp only [saF]
    by_cases h : pro S n = r ∧ pco S n = c
    · rw [if_pos h]
      exact Or.inl ⟨n, by omega, h.1, h.2, rfl⟩
    · rw [if_neg h]
      rcases saF_A (S := S) (r := r) (c := c) n (by omega) with ⟨s, a, b, c', e⟩ | ⟨a, b⟩
      · exact Or.inl ⟨s, by omega, b, c', e⟩
      · refine Or.inr ⟨fun s hs => ?_, b⟩
        rcases Nat.lt_or_ge s n with h3 | h3
        · exact a s h3
        · obtain rfl : s = n := by omega
          exact h
theorem l_shadeAt {S : Pic} {r c : Nat} (hS : PicM w S) (hO : OKo S) (hr : r < 6) (hc : c < 6) : ∀ (f k : Nat), pN S ≤ k + f → k ≤ pN S → Wq X 1 d MX8_shadeAt 5 [(3, vI (nI k)), (2, vI (saF S r c k)), (0, vR 8 0 []), (1, vI (nI (6 * r + c)))] [] w (qI fun x w' => ShA S r c x ∧ w' = w) := by
  have hN := hO.1
  intro f
  induction f with
  | zero =>
    intro k h1 h2
    refine R_iload_n (i := 3) (q := 6) dX8_shadeAt_5 rfl rfl rfl ?_
    refine R_aload_n (i := 0) (q := 7) dX8_shadeAt_6 rfl rfl rfl ?_
    refine R_getI' (q := 10) dX8_shadeAt_7 fl_X8_54 rfl (hS.1.2.2) rfl ?_
    refine R_icmp_geN (by omega) (by omega) (tgt := 35) (q := 13) dX8_shadeAt_10 (by decide) rfl (fun c1 => ?_) (fun c1 => ?_)
    · obtain rfl : k = pN S := by omega
      refine R_iload_n (i := 2) (q := 36) dX8_shadeAt_35 rfl rfl rfl ?_
      refine R_ri dX8_shadeAt_36 rfl ?_
      exact ⟨saF_A _ (Nat.le_refl _), rfl⟩
    · omega
  | succ f ih =>
    intro k h1 h2
    refine R_iload_n (i := 3) (q := 6) dX8_shadeAt_5 rfl rfl rfl ?_
    refine R_aload_n (i := 0) (q := 7) dX8_shadeAt_6 rfl rfl rfl ?_
    refine R_getI' (q := 10) dX8_shadeAt_7 fl_X8_54 rfl (hS.1.2.2) rfl ?_
    refine R_icmp_geN (by omega) (by omega) (tgt := 35) (q := 13) dX8_shadeAt_10 (by decide) rfl (fun c1 => ?_) (fun c1 => ?_)
    · obtain rfl : k = pN S := by omega
      refine R_iload_n (i := 2) (q := 36) dX8_shadeAt_35 rfl rfl rfl ?_
      refine R_ri dX8_shadeAt_36 rfl ?_
      exact ⟨saF_A _ (Nat.le_refl _), rfl⟩
    · have hbk := hO.2.1 k c1
      have e := ih (k + 1) (by omega) (by omega)
      simp only [saF] at e
      refine R_aload_n (i := 0) (q := 14) dX8_shadeAt_13 rfl rfl rfl ?_
      refine R_getR (q := 17) dX8_shadeAt_14 fl_X8_13 rfl (by decide) rfl ?_
      refine R_iload_n (i := 3) (q := 18) dX8_shadeAt_17 rfl rfl rfl ?_
      refine R_iald' (q := 19) dX8_shadeAt_18 (rfl) (by omega) (by decide) (hS.2.1 k c1) rfl ?_
      refine R_iload_n (i := 1) (q := 20) dX8_shadeAt_19 rfl rfl rfl ?_
      refine R_icmp_neN (by omega) (by omega) (tgt := 27) (q := 23) dX8_shadeAt_20 (by decide) rfl (fun c2 => ?_) (fun c2 => ?_)
      · rw [if_neg (by omega)] at e
        refine R_iload_n (i := 2) (q := 28) dX8_shadeAt_27 rfl rfl rfl ?_
        refine R_istore_n (i := 2) (q := 29) (loc' := [(2, _), (3, _), (0, _), (1, _)]) dX8_shadeAt_28 rfl (by decide) (by rfl) rfl ?_
        first | refine R_iincN (q := 32) (loc' := [(3, _), (2, _), (0, _), (1, _)]) dX8_shadeAt_29 (by rfl) (by decide) (by rfl) rfl ?_ | refine R_iinc (q := 32) (loc' := [(3, _), (2, _), (0, _), (1, _)]) dX8_shadeAt_29 (by rfl) (by rfl) (by decide) (by rfl) rfl ?_
        refine R_goto (q := 5) dX8_shadeAt_32 (by decide) ?_
        refine R_loc [0, 1, 2, 3] (loc' := [(3, _), (2, _), (0, _), (1, _)]) (by rfl) ?_
        exact e
      · rw [if_pos (by omega)] at e
        refine R_iload_n (i := 3) (q := 24) dX8_shadeAt_23 rfl rfl rfl ?_
        refine R_goto (q := 28) dX8_shadeAt_24 (by decide) ?_
        refine R_istore_n (i := 2) (q := 29) (loc' := [(2, _), (3, _), (0, _), (1, _)]) dX8_shadeAt_28 rfl (by decide) (by rfl) rfl ?_
        first | refine R_iincN (q := 32) (loc' := [(3, _), (2, _), (0, _), (1, _)]) dX8_shadeAt_29 (by rfl) (by decide) (by rfl) rfl ?_ | refine R_iinc (q := 32) (loc' := [(3, _), (2, _), (0, _), (1, _)]) dX8_shadeAt_29 (by rfl) (by rfl) (by decide) (by rfl) rfl ?_
        refine R_goto (q := 5) dX8_shadeAt_32 (by decide) ?_
        refine R_loc [0, 1, 2, 3] (loc' := [(3, _), (2, _), (0, _), (1, _)]) (by rfl) ?_
        exact e
theorem c_shadeAt {S : Pic} {r c : Nat} (hS : PicM w S) (hO : OKo S) (hr : r < 6) (hc : c < 6) : Ct X 1 d MX8_shadeAt [vR 8 0 [], vI (nI (6 * r + c))] w (qI fun x w' => ShA S r c x ∧ w' = w) := by
  refine Ct.of (by decide) rfl (Nat.le_of_ble_eq_true rfl) ?_
  show Wq _ _ _ _ 0 [(0, _), (1, _)] [] _ _
  refine R_bipush (v := (-9)) (q := 2) dX8_shadeAt_0 (by decide) rfl ?_
  refine R_istore_n (i := 2) (q := 3) (loc' := [(2, _), (0, _), (1, _)]) dX8_shadeAt_2 rfl (by decide) (by rfl) rfl ?_
  refine R_iconst (v := nI 0) (q := 4) dX8_shadeAt_3 (by decide) rfl ?_
  refine R_istore_n (i := 3) (q := 5) (loc' := [(3, _), (2, _), (0, _), (1, _)]) dX8_shadeAt_4 rfl (by decide) (by rfl) rfl ?_
  exact l_shadeAt hS hO hr hc (pN S) 0 (by omega) (by omega)
theorem c_isCell {x y : Int32} {S : Pic} (hD : DimA w S) (hR : pR S ≤ 6) (hC : pC S ≤ 6) : Ct X 1 (d + 1) MX8_isCell [vR 8 0 [], vI x, vI y] w (qI fun z w' => z = bI (inN x (pR S) ∧ inN y (pC S)) ∧ w' = w) := by
  refine Ct.of (by decide) rfl (Nat.le_of_ble_eq_true rfl) ?_
  show Wq _ _ _ _ 0 [(0, _), (1, _), (2, _)] [] _ _
  refine R_iload_n (i := 1) (q := 1) dX8_isCell_0 rfl rfl rfl ?_
  refine R_i2l (q := 2) dX8_isCell_1 rfl ?_
  refine R_lconst (v := 0) (q := 3) dX8_isCell_2 (by decide) rfl ?_
  refine R_aload_n (i := 0) (q := 4) dX8_isCell_3 rfl rfl rfl ?_
  refine R_getI' (q := 7) dX8_isCell_4 fl_X8_47 rfl (hD.1) rfl ?_
  refine R_iconst (v := nI 1) (q := 8) dX8_isCell_7 (by decide) rfl ?_
  refine R_isub (q := 9) dX8_isCell_8 rfl ?_
  refine R_i2l (q := 10) dX8_isCell_9 rfl ?_
  refine R_cS3i (M' := MX8_in) (q := 13) dX8_isCell_10 ml_X8_57 mk_X8_in (Nat.le_of_ble_eq_true rfl) rfl (c_in) ?_
  rintro _ w ⟨rfl, rfl⟩
  rw [bI_iff (in64 (n := pR S) (by omega) (pred64 (by omega)))]
  refine R_if_eqB (tgt := 36) (q := 16) dX8_isCell_13 (by decide) rfl (fun c1 => ?_) (fun c1 => ?_)
  · refine R_iconst (v := nI 0) (q := 37) dX8_isCell_36 (by decide) rfl ?_
    refine R_rz dX8_isCell_37 rfl (by decide) ?_
    exact ⟨(bI_f (fun h => c1 h.1)).symm, rfl⟩
  · refine R_iload_n (i := 2) (q := 17) dX8_isCell_16 rfl rfl rfl ?_
    refine R_i2l (q := 18) dX8_isCell_17 rfl ?_
    refine R_lconst (v := 0) (q := 19) dX8_isCell_18 (by decide) rfl ?_
    refine R_aload_n (i := 0) (q := 20) dX8_isCell_19 rfl rfl rfl ?_
    refine R_getI' (q := 23) dX8_isCell_20 fl_X8_51 rfl (hD.2.1) rfl ?_
    refine R_iconst (v := nI 1) (q := 24) dX8_isCell_23 (by decide) rfl ?_
    refine R_isub (q := 25) dX8_isCell_24 rfl ?_
    refine R_i2l (q := 26) dX8_isCell_25 rfl ?_
    refine R_cS3i (M' := MX8_in) (q := 29) dX8_isCell_26 ml_X8_57 mk_X8_in (Nat.le_of_ble_eq_true rfl) rfl (c_in) ?_
    rintro _ w ⟨rfl, rfl⟩
    rw [bI_iff (in64 (n := pC S) (by omega) (pred64 (by omega)))]
    refine R_if_eqB (tgt := 36) (q := 32) dX8_isCell_29 (by decide) rfl (fun c2 => ?_) (fun c2 => ?_)
    · refine R_iconst (v := nI 0) (q := 37) dX8_isCell_36 (by decide) rfl ?_
      refine R_rz dX8_isCell_37 rfl (by decide) ?_
      exact ⟨(bI_f (fun h => c2 h.2)).symm, rfl⟩
    · refine R_iconst (v := nI 1) (q := 33) dX8_isCell_32 (by decide) rfl ?_
      refine R_goto (q := 37) dX8_isCell_33 (by decide) ?_
      refine R_rz dX8_isCell_37 rfl (by decide) ?_
      exact ⟨(bI_t ⟨c1, c2⟩).symm, rfl⟩
theorem c_mcell {x y : Int32} (hR : ModR w A) (hA : AOK A) : Ct X 1 (d + 2) MX8_cell [vR 8 0 [], vI x, vI y] w (qI fun z w' => QCell A x y z ∧ w' = w) := by
  obtain ⟨hOK1, hOK2, hOK3, hOK4, hOK5, hOK6, hOK7, hOK8⟩ := id hA.2.1
  obtain ⟨h1, h2, h3, h4, h5, h6⟩ := id hR
  refine Ct.of (by decide) rfl (Nat.le_of_ble_eq_true rfl) ?_
  show Wq _ _ _ _ 0 [(0, _), (1, _), (2, _)] [] _ _
  refine R_aload_n (i := 0) (q := 1) dX8_cell_0 rfl rfl rfl ?_
  refine R_iload_n (i := 1) (q := 2) dX8_cell_1 rfl rfl rfl ?_
  refine R_iload_n (i := 2) (q := 3) dX8_cell_2 rfl rfl rfl ?_
  refine R_cV2i (M' := MX8_isCell) (q := 6) dX8_cell_3 ml_X8_171 mk_X8_isCell (Nat.le_of_ble_eq_true rfl) rfl (c_isCell h2.1 hOK1.2 hOK2.2) ?_
  rintro _ w ⟨rfl, rfl⟩
  refine R_if_eqB (tgt := 22) (q := 9) dX8_cell_6 (by decide) rfl (fun c1 => ?_) (fun c1 => ?_)
  · refine R_iconst (v := (-1)) (q := 23) dX8_cell_22 (by decide) rfl ?_
    refine R_ri dX8_cell_23 rfl ?_
    exact ⟨Or.inr ⟨c1, rfl⟩, rfl⟩
  · have c1' := id c1
    obtain ⟨a, ha, rfl⟩ := inN_ex (by omega) c1.1
    obtain ⟨b, hb, rfl⟩ := inN_ex (by omega) c1.2
    refine R_aload_n (i := 0) (q := 10) dX8_cell_9 rfl rfl rfl ?_
    refine R_bipush (v := nI 6) (q := 12) dX8_cell_10 (by decide) rfl ?_
    refine R_iload_n (i := 1) (q := 13) dX8_cell_12 rfl rfl rfl ?_
    first | refine R_imulN (q := 14) dX8_cell_13 rfl ?_ | refine R_imul (q := 14) dX8_cell_13 rfl ?_
    refine R_iload_n (i := 2) (q := 15) dX8_cell_14 rfl rfl rfl ?_
    first | refine R_iaddN (q := 16) dX8_cell_15 rfl ?_ | refine R_iadd (q := 16) dX8_cell_15 rfl ?_
    refine R_cV1i (M' := MX8_shadeAt) (q := 19) dX8_cell_16 ml_X8_174 mk_X8_shadeAt (Nat.le_of_ble_eq_true rfl) rfl (c_shadeAt h2 hA.2.1.o (by omega) (by omega)) ?_
    rintro z w ⟨hz, rfl⟩
    refine R_goto (q := 23) dX8_cell_19 (by decide) ?_
    refine R_ri dX8_cell_23 rfl ?_
    exact ⟨Or.inl ⟨c1'.1, c1'.2, by rw [cl_nI (by omega), cl_nI (by omega)]; exact hz⟩, rfl⟩
theorem c_mguess {h x : Int32} (hR : ModR w A) (hA : AOK A) : Ct X 1 (d + 2) MX8_guess [vR 8 0 [], vI h, vI x] w (qI fun z w' => z = opGuess A h x ∧ ModR w' A) := by
  obtain ⟨hOK1, hOK2, hOK3, hOK4, hOK5, hOK6, hOK7, hOK8⟩ := id hA.2.1
  obtain ⟨h1, h2, h3, h4, h5, h6⟩ := id hR
  unfold opGuess
  refine Ct.of (by decide) rfl (Nat.le_of_ble_eq_true rfl) ?_
  show Wq _ _ _ _ 0 [(0, _), (1, _), (2, _)] [] _ _
  refine R_iload_n (i := 1) (q := 1) dX8_guess_0 rfl rfl rfl ?_
  refine R_i2l (q := 2) dX8_guess_1 rfl ?_
  refine R_lconst (v := 0) (q := 3) dX8_guess_2 (by decide) rfl ?_
  refine R_lconst (v := 1) (q := 4) dX8_guess_3 (by decide) rfl ?_
  refine R_cS3i (M' := MX8_in) (q := 7) dX8_guess_4 ml_X8_57 mk_X8_in (Nat.le_of_ble_eq_true rfl) rfl (c_in) ?_
  rintro _ w ⟨rfl, rfl⟩
  rw [bI_iff (in64 (n := 2) (by decide) rfl)]
  refine R_if_neB (tgt := 13) (q := 10) dX8_guess_7 (by decide) rfl (fun c1 => ?_) (fun c1 => ?_)
  · rw [if_pos c1]
    obtain ⟨a, ha, rfl⟩ := inN_ex (by decide) c1
    refine R_iload_n (i := 2) (q := 14) dX8_guess_13 rfl rfl rfl ?_
    refine R_i2l (q := 15) dX8_guess_14 rfl ?_
    refine R_lconst (v := 0) (q := 16) dX8_guess_15 (by decide) rfl ?_
    refine R_iload_n (i := 1) (q := 17) dX8_guess_16 rfl rfl rfl ?_
    refine R_if_neN (by omega) (tgt := 27) (q := 20) dX8_guess_17 (by decide) rfl (fun c2 => ?_) (fun c2 => ?_)
    · obtain rfl : a = 1 := by omega
      rw [if_neg (by decide)]
      refine R_aload_n (i := 0) (q := 28) dX8_guess_27 rfl rfl rfl ?_
      refine R_getI' (q := 31) dX8_guess_28 fl_X8_51 rfl (h2.1.2.1) rfl ?_
      refine R_iconst (v := nI 1) (q := 32) dX8_guess_31 (by decide) rfl ?_
      refine R_isub (q := 33) dX8_guess_32 rfl ?_
      refine R_i2l (q := 34) dX8_guess_33 rfl ?_
      refine R_cS3i (M' := MX8_in) (q := 37) dX8_guess_34 ml_X8_57 mk_X8_in (Nat.le_of_ble_eq_true rfl) rfl (c_in) ?_
      rintro _ w ⟨rfl, rfl⟩
      rw [bI_iff (in64 (n := pC (aP A)) (by omega) (pred64 (by omega)))]
      refine R_if_eqB (tgt := 53) (q := 40) dX8_guess_37 (by decide) rfl (fun c3 => ?_) (fun c3 => ?_)
      · rw [if_neg c3]
        refine R_iconst (v := (-1)) (q := 54) dX8_guess_53 (by decide) rfl ?_
        refine R_ri dX8_guess_54 rfl ?_
        exact ⟨rfl, hR⟩
      · rw [if_pos c3]
        obtain ⟨b, hb, rfl⟩ := inN_ex (by omega) c3
        rw [cl_nI (by omega)]
        refine R_aload_n (i := 0) (q := 41) dX8_guess_40 rfl rfl rfl ?_
        refine R_aload_n (i := 0) (q := 42) dX8_guess_41 rfl rfl rfl ?_
        refine R_getR (q := 45) dX8_guess_42 fl_X8_13 rfl (by decide) rfl ?_
        refine R_iload_n (i := 1) (q := 46) dX8_guess_45 rfl rfl rfl ?_
        refine R_iload_n (i := 2) (q := 47) dX8_guess_46 rfl rfl rfl ?_
        refine R_cV3i (M' := MX8_guessOf) (q := 50) dX8_guess_47 ml_X8_106 mk_X8_guessOf (Nat.le_of_ble_eq_true rfl) rfl (c_guessOf (h := 1) h2.1.2.2 hA.2.1.o h2.2.1 (by decide) (by omega)) ?_
        rintro _ w ⟨rfl, rfl⟩
        refine R_goto (q := 54) dX8_guess_50 (by decide) ?_
        refine R_ri dX8_guess_54 rfl ?_
        exact ⟨rfl, hR⟩
    · subst c2
      rw [if_pos (show nI 0 = 0 from rfl)]
      refine R_aload_n (i := 0) (q := 21) dX8_guess_20 rfl rfl rfl ?_
      refine R_getI' (q := 24) dX8_guess_21 fl_X8_47 rfl (h2.1.1) rfl ?_
      refine R_goto (q := 31) dX8_guess_24 (by decide) ?_
      refine R_iconst (v := nI 1) (q := 32) dX8_guess_31 (by decide) rfl ?_
      refine R_isub (q := 33) dX8_guess_32 rfl ?_
      refine R_i2l (q := 34) dX8_guess_33 rfl ?_
      refine R_cS3i (M' := MX8_in) (q := 37) dX8_guess_34 ml_X8_57 mk_X8_in (Nat.le_of_ble_eq_true rfl) rfl (c_in) ?_
      rintro _ w ⟨rfl, rfl⟩
      rw [bI_iff (in64 (n := pR (aP A)) (by omega) (pred64 (by omega)))]
      refine R_if_eqB (tgt := 53) (q := 40) dX8_guess_37 (by decide) rfl (fun c3 => ?_) (fun c3 => ?_)
      · rw [if_neg c3]
        refine R_iconst (v := (-1)) (q := 54) dX8_guess_53 (by decide) rfl ?_
        refine R_ri dX8_guess_54 rfl ?_
        exact ⟨rfl, hR⟩
      · rw [if_pos c3]
        obtain ⟨b, hb, rfl⟩ := inN_ex (by omega) c3
        rw [cl_nI (by omega)]
        refine R_aload_n (i := 0) (q := 41) dX8_guess_40 rfl rfl rfl ?_
        refine R_aload_n (i := 0) (q := 42) dX8_guess_41 rfl rfl rfl ?_
        refine R_getR (q := 45) dX8_guess_42 fl_X8_13 rfl (by decide) rfl ?_
        refine R_iload_n (i := 1) (q := 46) dX8_guess_45 rfl rfl rfl ?_
        refine R_iload_n (i := 2) (q := 47) dX8_guess_46 rfl rfl rfl ?_
        refine R_cV3i (M' := MX8_guessOf) (q := 50) dX8_guess_47 ml_X8_106 mk_X8_guessOf (Nat.le_of_ble_eq_true rfl) rfl (c_guessOf (h := 0) h2.1.2.2 hA.2.1.o h2.2.1 (by decide) (by omega)) ?_
        rintro _ w ⟨rfl, rfl⟩
        refine R_goto (q := 54) dX8_guess_50 (by decide) ?_
        refine R_ri dX8_guess_54 rfl ?_
        exact ⟨rfl, hR⟩
  · rw [if_neg c1]
    refine R_bipush (v := (-2)) (q := 12) dX8_guess_10 (by decide) rfl ?_
    refine R_ri dX8_guess_12 rfl ?_
    exact ⟨rfl, hR⟩
theorem c_mdot {x y o : Int32} (hR : ModR w A) (hA : AOK A) : Ct X 1 (d + 4) MX8_dot [vR 8 0 [], vI x, vI y, vI o] w (qI fun z w' => z = opDot A x y o ∧ ModR w' A) := by
  obtain ⟨hOK1, hOK2, hOK3, hOK4, hOK5, hOK6, hOK7, hOK8⟩ := id hA.2.1
  obtain ⟨h1, h2, h3, h4, h5, h6⟩ := id hR
  unfold opDot
  refine Ct.of (by decide) rfl (Nat.le_of_ble_eq_true rfl) ?_
  show Wq _ _ _ _ 0 [(0, _), (1, _), (2, _), (3, _)] [] _ _
  refine R_iload_n (i := 1) (q := 1) dX8_dot_0 rfl rfl rfl ?_
  refine R_cS1i (M' := MX8_isFour) (q := 4) dX8_dot_1 ml_X8_177 mk_X8_isFour (Nat.le_of_ble_eq_true rfl) rfl (c_isFour) ?_
  rintro _ w ⟨rfl, rfl⟩
  refine R_if_eqB (tgt := 14) (q := 7) dX8_dot_4 (by decide) rfl (fun c1 => ?_) (fun c1 => ?_)
  · rw [if_neg (fun h => c1 h.1)]
    refine R_iconst (v := (-1)) (q := 15) dX8_dot_14 (by decide) rfl ?_
    refine R_ri dX8_dot_15 rfl ?_
    exact ⟨rfl, hR⟩
  · refine R_iload_n (i := 2) (q := 8) dX8_dot_7 rfl rfl rfl ?_
    refine R_cS1i (M' := MX8_isFour) (q := 11) dX8_dot_8 ml_X8_177 mk_X8_isFour (Nat.le_of_ble_eq_true rfl) rfl (c_isFour) ?_
    rintro _ w ⟨rfl, rfl⟩
    refine R_if_neB (tgt := 16) (q := 14) dX8_dot_11 (by decide) rfl (fun c2 => ?_) (fun c2 => ?_)
    · rw [if_pos ⟨c1, c2⟩]
      obtain ⟨a, ha, rfl⟩ := inN_ex (by decide) c1
      obtain ⟨b, hb, rfl⟩ := inN_ex (by decide) c2
      rw [cl_nI (by omega), cl_nI (by omega)]
      refine R_aload_n (i := 0) (q := 17) dX8_dot_16 rfl rfl rfl ?_
      refine R_aload_n (i := 0) (q := 18) dX8_dot_17 rfl rfl rfl ?_
      refine R_getR (q := 21) dX8_dot_18 fl_X8_13 rfl (by decide) rfl ?_
      refine R_aload_n (i := 0) (q := 22) dX8_dot_21 rfl rfl rfl ?_
      refine R_getR (q := 25) dX8_dot_22 fl_X8_13 rfl (by decide) rfl ?_
      refine R_bipush (v := nI 37) (q := 27) dX8_dot_25 (by decide) rfl ?_
      refine R_iald' (q := 28) dX8_dot_27 (rfl) (by omega) (by decide) (h2.2.2.2.2) rfl ?_
      refine R_cV2v (M' := MX8_layOut) (q := 31) dX8_dot_28 ml_X8_126 mk_X8_layOut (Nat.le_of_ble_eq_true rfl) rfl (c_layOut h2.1.2.2 hA.2.1.r h2.2 (Or.inl rfl) hOK5) ?_
      rintro w1 ⟨hL1, hF1⟩
      have hR1 := hR.sc (hF1.m (by decide) (by decide))
      refine R_iload_n (i := 3) (q := 32) dX8_dot_31 rfl rfl rfl ?_
      refine R_if_eq (tgt := 48) (q := 35) dX8_dot_32 (by decide) rfl (fun c3 => ?_) (fun c3 => ?_)
      · rw [if_pos c3]
        refine R_aload_n (i := 0) (q := 49) dX8_dot_48 rfl rfl rfl ?_
        refine R_getR (q := 52) dX8_dot_49 fl_X8_13 rfl (by decide) rfl ?_
        refine R_bipush (v := nI 20) (q := 54) dX8_dot_52 (by decide) rfl ?_
        refine R_iconst (v := nI 4) (q := 55) dX8_dot_54 (by decide) rfl ?_
        refine R_iload_n (i := 1) (q := 56) dX8_dot_55 rfl rfl rfl ?_
        first | refine R_imulN (q := 57) dX8_dot_56 rfl ?_ | refine R_imul (q := 57) dX8_dot_56 rfl ?_
        first | refine R_iaddN (q := 58) dX8_dot_57 rfl ?_ | refine R_iadd (q := 58) dX8_dot_57 rfl ?_
        refine R_iload_n (i := 2) (q := 59) dX8_dot_58 rfl rfl rfl ?_
        first | refine R_iaddN (q := 60) dX8_dot_59 rfl ?_ | refine R_iadd (q := 60) dX8_dot_59 rfl ?_
        refine R_iald' (q := 61) dX8_dot_60 (congrArg nI (show 20 + 4 * a + b = 20 + (4 * a + b) by omega)) (by omega) (by decide) (hR1.2.1.2.2.1 (4 * a + b) (by omega)) rfl ?_
        refine R_ri dX8_dot_61 rfl ?_
        exact ⟨by rw [show a * 4 + b = 4 * a + b by omega], hR1⟩
      · rw [if_neg c3]
        refine R_aload_n (i := 0) (q := 36) dX8_dot_35 rfl rfl rfl ?_
        refine R_getR (q := 39) dX8_dot_36 fl_X8_35 rfl (by decide) rfl ?_
        refine R_iconst (v := nI 4) (q := 40) dX8_dot_39 (by decide) rfl ?_
        refine R_iload_n (i := 1) (q := 41) dX8_dot_40 rfl rfl rfl ?_
        first | refine R_imulN (q := 42) dX8_dot_41 rfl ?_ | refine R_imul (q := 42) dX8_dot_41 rfl ?_
        refine R_iload_n (i := 2) (q := 43) dX8_dot_42 rfl rfl rfl ?_
        first | refine R_iaddN (q := 44) dX8_dot_43 rfl ?_ | refine R_iadd (q := 44) dX8_dot_43 rfl ?_
        refine R_iald' (q := 45) dX8_dot_44 (rfl) (by omega) (by decide) (hL1.2 _ (by omega)) rfl ?_
        refine R_goto (q := 61) dX8_dot_45 (by decide) ?_
        refine R_ri dX8_dot_61 rfl ?_
        exact ⟨by rw [show a * 4 + b = 4 * a + b by omega], hR1⟩
    · rw [if_neg (fun h => c2 h.2)]
      refine R_iconst (v := (-1)) (q := 15) dX8_dot_14 (by decide) rfl ?_
      refine R_ri dX8_dot_15 rfl ?_
      exact ⟨rfl, hR⟩
end ME
