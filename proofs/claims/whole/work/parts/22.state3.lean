/-! cells within b of the slope, and their order -/
def cw (C b : Nat) : Nat → Nat
  | 0 => 0
  | r + 1 => cw C b r + ct (fun c => decide (dst r c ≤ b)) C
def laR (C b t : Nat) (acc : List (Nat × Nat)) : Nat → List (Nat × Nat)
  | 0 => acc
  | r + 1 => if r ≤ t ∧ t - r < C ∧ dst r (t - r) ≤ b then laR C b t acc r ++ [(r, t - r)] else laR C b t acc r
def laT (R C b : Nat) : Nat → List (Nat × Nat)
  | 0 => []
  | t + 1 => laR C b t (laT R C b t) R
/-- shades laid in these cells, as far as there are cells -/
def layP (S : Pic) (L : List (Nat × Nat)) : Pic := (pR S, pC S, pN S, pH S, pL S, (fun s => if s < L.length then (L.getD s (0, 0)).1 else pro S s), (fun s => if s < L.length then (L.getD s (0, 0)).2 else pco S s), pdt S)
theorem cw_le (C b : Nat) : ∀ r, cw C b r ≤ r * C
  | 0 => by simp [cw]
  | r + 1 => by
    have h1 := cw_le C b r
    have h2 := ct_le (fun c => decide (dst r c ≤ b)) C
    simp only [cw, Nat.succ_mul]
    omega
theorem laR_len (C b t : Nat) (acc : List (Nat × Nat)) : ∀ r, (laR C b t acc r).length ≤ acc.length + r
  | 0 => by simp [laR]
  | r + 1 => by
    have h := laR_len C b t acc r
    simp only [laR]
    split
    · simp only [List.length_append, List.length_cons, List.length_nil]
      omega
    · omega
theorem laT_len (R C b : Nat) : ∀ t, (laT R C b t).length ≤ t * R
  | 0 => by simp [laT]
  | t + 1 => by
    have h := laT_len R C b t
    have h2 := laR_len C b t (laT R C b t) R
    simp only [laT, Nat.succ_mul]
    omega
section ST
variable {X : Cx} {d : Nat} {p : List Nat} {w : Wd}
/-- two shades change cells -/
def swP (S : Pic) (a b : Nat) : Pic := (pR S, pC S, pN S, pH S, pL S, fnU (fnU (pro S) a (pro S b)) b (pro S a), fnU (fnU (pco S) a (pco S b)) b (pco S a), pdt S)
/-- a pack is lost, or found; the shift; a dot -/
def loP (S : Pic) (k : Nat) : Pic := (pR S, pC S, pN S, pH S, pL S ^^^ 2 ^ k, pro S, pco S, pdt S)
def shP (S : Pic) (v : Nat) : Pic := (pR S, pC S, pN S, v, pL S, pro S, pco S, pdt S)
def dtP (S : Pic) (k s : Nat) : Pic := (pR S, pC S, pN S, pH S, pL S, pro S, pco S, fnU (pdt S) k s)
def puP (S : Pic) (s a b : Nat) : Pic := (pR S, pC S, pN S, pH S, pL S, fnU (pro S) s a, fnU (pco S) s b, pdt S)
theorem c_put2 {S : Pic} {s a b : Nat} (hS : StA w p S) (hN : pN S ≤ 20) (hs : s < 2 ^ 31) : Ct X 0 (d + 1) MX5_put [vR 5 0 p, vI (nI s), vI (nI a), vI (nI b)] w (qV fun w' => StA w' p (if s < pN S then puP S s a b else S) ∧ Fr [5 :: p, 6 :: p] w w') := by
  refine (c_put (x := nI s) hS.2.2.1 hN).monoV (by decide) rfl ?_
  intro w' h
  obtain ⟨hR, hC, hn, hsh, hl, hro, hco, hdt⟩ := id hS
  rcases h with ⟨h, rfl⟩ | ⟨t, ht, e, rfl⟩
  · rw [inN_nI hs (by omega)] at h
    rw [if_neg h]
    exact ⟨hS, Fr.rf⟩
  · obtain rfl : s = t := (nI_eq hs (by omega)).mp e
    rw [if_pos ht]
    refine ⟨⟨?_, ?_, ?_, ?_, ?_, ?_, ?_, ?_⟩, (Fr.i (by simp)).tr (Fr.i (by simp))⟩
    · simpa [uI, uA, cns2, puP, loP, shP, dtP, pR, pC, pN, pH, pL, pro, pco, pdt, fnU] using hR
    · simpa [uI, uA, cns2, puP, loP, shP, dtP, pR, pC, pN, pH, pL, pro, pco, pdt, fnU] using hC
    · simpa [uI, uA, cns2, puP, loP, shP, dtP, pR, pC, pN, pH, pL, pro, pco, pdt, fnU] using hn
    · simpa [uI, uA, cns2, puP, loP, shP, dtP, pR, pC, pN, pH, pL, pro, pco, pdt, fnU] using hsh
    · simpa [uI, uA, cns2, puP, loP, shP, dtP, pR, pC, pN, pH, pL, pro, pco, pdt, fnU] using hl
    · intro j hj
      by_cases h : j = s
      · subst h
        simp [uI, uA, upd, puP, loP, shP, dtP, pR, pC, pN, pH, pL, pro, pco, pdt, fnU]
      · simpa [uI, uA, upd, h, puP, loP, shP, dtP, pR, pC, pN, pH, pL, pro, pco, pdt, fnU] using hro j hj
    · intro j hj
      by_cases h : j = s
      · subst h
        simp [uI, uA, upd, puP, loP, shP, dtP, pR, pC, pN, pH, pL, pro, pco, pdt, fnU]
      · simpa [uI, uA, upd, h, puP, loP, shP, dtP, pR, pC, pN, pH, pL, pro, pco, pdt, fnU] using hco j hj
    · intro j hj
      simpa [uI, uA, puP, loP, shP, dtP, pR, pC, pN, pH, pL, pro, pco, pdt, fnU] using hdt j hj
theorem c_swap {S : Pic} {a b : Nat} (hS : StA w p S) (hN : pN S ≤ 20) (ha : a < pN S) (hb : b < pN S) : Ct X 0 (d + 2) MX5_swap [vR 5 0 p, vI (nI a), vI (nI b)] w (qV fun w' => StA w' p (swP S a b) ∧ Fr [5 :: p, 6 :: p] w w') := by
  obtain ⟨hR, hC, hn, hsh, hl, hro, hco, hdt⟩ := id hS
  refine Ct.of (by decide) rfl (Nat.le_of_ble_eq_true rfl) ?_
  show Wq _ _ _ _ 0 [(0, _), (1, _), (2, _)] [] _ _
  refine R_aload_n (i := 0) (q := 1) dX5_swap_0 rfl rfl rfl ?_
  refine R_iload_n (i := 1) (q := 2) dX5_swap_1 rfl rfl rfl ?_
  refine R_cV1i (M' := MX5_hasShade) (q := 5) dX5_swap_2 ml_X5_61 mk_X5_hasShade (Nat.le_of_ble_eq_true rfl) rfl (c_hasShade hn) ?_
  rintro _ w ⟨rfl, rfl⟩
  refine R_if_eqB (tgt := 56) (q := 8) dX5_swap_5 (by decide) rfl (fun c1 => ?_) (fun c1 => ?_)
  · exact absurd ((inN_nI (by omega) (by omega)).mpr ha) c1
  · refine R_aload_n (i := 0) (q := 9) dX5_swap_8 rfl rfl rfl ?_
    refine R_iload_n (i := 2) (q := 10) dX5_swap_9 rfl rfl rfl ?_
    refine R_cV1i (M' := MX5_hasShade) (q := 13) dX5_swap_10 ml_X5_61 mk_X5_hasShade (Nat.le_of_ble_eq_true rfl) rfl (c_hasShade hn) ?_
    rintro _ w ⟨rfl, rfl⟩
    refine R_if_eqB (tgt := 56) (q := 16) dX5_swap_13 (by decide) rfl (fun c2 => ?_) (fun c2 => ?_)
    · exact absurd ((inN_nI (by omega) (by omega)).mpr hb) c2
    · refine R_aload_n (i := 0) (q := 17) dX5_swap_16 rfl rfl rfl ?_
      refine R_getR (q := 20) dX5_swap_17 fl_X5_21 rfl (by decide) rfl ?_
      refine R_iload_n (i := 1) (q := 21) dX5_swap_20 rfl rfl rfl ?_
      refine R_iald' (q := 22) dX5_swap_21 (rfl) (by omega) (by decide) (hro a ha) rfl ?_
      refine R_istore_n (i := 3) (q := 23) (loc' := [(3, _), (0, _), (1, _), (2, _)]) dX5_swap_22 rfl (by decide) (by rfl) rfl ?_
      refine R_aload_n (i := 0) (q := 24) dX5_swap_23 rfl rfl rfl ?_
      refine R_getR (q := 27) dX5_swap_24 fl_X5_25 rfl (by decide) rfl ?_
      refine R_iload_n (i := 1) (q := 28) dX5_swap_27 rfl rfl rfl ?_
      refine R_iald' (q := 29) dX5_swap_28 (rfl) (by omega) (by decide) (hco a ha) rfl ?_
      refine R_istore (q := 31) (loc' := [(4, _), (3, _), (0, _), (1, _), (2, _)]) dX5_swap_29 (by decide) (by rfl) rfl ?_
      refine R_aload_n (i := 0) (q := 32) dX5_swap_31 rfl rfl rfl ?_
      refine R_iload_n (i := 1) (q := 33) dX5_swap_32 rfl rfl rfl ?_
      refine R_aload_n (i := 0) (q := 34) dX5_swap_33 rfl rfl rfl ?_
      refine R_getR (q := 37) dX5_swap_34 fl_X5_21 rfl (by decide) rfl ?_
      refine R_iload_n (i := 2) (q := 38) dX5_swap_37 rfl rfl rfl ?_
      refine R_iald' (q := 39) dX5_swap_38 (rfl) (by omega) (by decide) (hro b hb) rfl ?_
      refine R_aload_n (i := 0) (q := 40) dX5_swap_39 rfl rfl rfl ?_
      refine R_getR (q := 43) dX5_swap_40 fl_X5_25 rfl (by decide) rfl ?_
      refine R_iload_n (i := 2) (q := 44) dX5_swap_43 rfl rfl rfl ?_
      refine R_iald' (q := 45) dX5_swap_44 (rfl) (by omega) (by decide) (hco b hb) rfl ?_
      refine R_cV3v (M' := MX5_put) (q := 48) dX5_swap_45 ml_X5_65 mk_X5_put (Nat.le_of_ble_eq_true rfl) rfl (c_put2 hS hN (by omega)) ?_
      rintro w1 ⟨hS1, hF1⟩
      rw [if_pos ha] at hS1
      refine R_aload_n (i := 0) (q := 49) dX5_swap_48 rfl rfl rfl ?_
      refine R_iload_n (i := 2) (q := 50) dX5_swap_49 rfl rfl rfl ?_
      refine R_iload_n (i := 3) (q := 51) dX5_swap_50 rfl rfl rfl ?_
      refine R_iload (q := 53) dX5_swap_51 rfl rfl ?_
      refine R_cV3v (M' := MX5_put) (q := 56) dX5_swap_53 ml_X5_65 mk_X5_put (Nat.le_of_ble_eq_true rfl) rfl (c_put2 hS1 hN (by omega)) ?_
      rintro w2 ⟨hS2, hF2⟩
      rw [if_pos (show b < pN (puP S a (pro S b) (pco S b)) from hb)] at hS2
      refine R_rv dX5_swap_56 rfl ?_
      exact ⟨hS2, hF1.tr hF2⟩
theorem xor_fin : ∀ lo, lo < 16 → ∀ k, k < 4 → (nI lo ^^^ (nI 1 <<< (nI k &&& 31))) = nI (lo ^^^ 2 ^ k) ∧ lo ^^^ 2 ^ k < 16 := by decide
theorem c_loseOrFind {S : Pic} {k : Nat} (hS : StA w p S) (hl : pL S < 16) (hk : k < 4) : Ct X 0 d MX5_loseOrFind [vR 5 0 p, vI (nI k)] w (qV fun w' => StA w' p (loP S k) ∧ Fr [p] w w') := by
  obtain ⟨hR, hC, hn, hsh, hlo, hro, hco, hdt⟩ := id hS
  refine Ct.of (by decide) rfl (Nat.le_of_ble_eq_true rfl) ?_
  show Wq _ _ _ _ 0 [(0, _), (1, _)] [] _ _
  refine R_aload_n (i := 0) (q := 1) dX5_loseOrFind_0 rfl rfl rfl ?_
  refine R_dup (q := 2) dX5_loseOrFind_1 rfl rfl ?_
  refine R_getI' (q := 5) dX5_loseOrFind_2 fl_X5_34 rfl (hlo) rfl ?_
  refine R_iconst (v := nI 1) (q := 6) dX5_loseOrFind_5 (by decide) rfl ?_
  refine R_iload_n (i := 1) (q := 7) dX5_loseOrFind_6 rfl rfl rfl ?_
  refine R_ishl (q := 8) dX5_loseOrFind_7 rfl ?_
  refine R_ixor (q := 9) dX5_loseOrFind_8 rfl ?_
  refine R_putI (q := 12) dX5_loseOrFind_9 fl_X5_34 rfl rfl ?_
  refine R_rv dX5_loseOrFind_12 rfl ?_
  rw [(xor_fin _ hl k hk).1]
  refine ⟨⟨?_, ?_, ?_, ?_, ?_, ?_, ?_, ?_⟩, Fr.i (by simp)⟩
  · simpa [uI, uA, upd, puP, loP, shP, dtP, pR, pC, pN, pH, pL, pro, pco, pdt, fnU] using hR
  · simpa [uI, uA, upd, puP, loP, shP, dtP, pR, pC, pN, pH, pL, pro, pco, pdt, fnU] using hC
  · simpa [uI, uA, upd, puP, loP, shP, dtP, pR, pC, pN, pH, pL, pro, pco, pdt, fnU] using hn
  · simpa [uI, uA, upd, puP, loP, shP, dtP, pR, pC, pN, pH, pL, pro, pco, pdt, fnU] using hsh
  · simp [uI, uA, upd, puP, loP, shP, dtP, pR, pC, pN, pH, pL, pro, pco, pdt, fnU]
  · intro j hj
    simpa [uI, uA, cns, puP, loP, shP, dtP, pR, pC, pN, pH, pL, pro, pco, pdt, fnU] using hro j hj
  · intro j hj
    simpa [uI, uA, cns, puP, loP, shP, dtP, pR, pC, pN, pH, pL, pro, pco, pdt, fnU] using hco j hj
  · intro j hj
    simpa [uI, uA, cns, puP, loP, shP, dtP, pR, pC, pN, pH, pL, pro, pco, pdt, fnU] using hdt j hj
theorem StA_dt {S : Pic} {k s : Nat} (hS : StA w p S) : StA (uI w (7 :: p) k (nI s)) p (dtP S k s) := by
  obtain ⟨hR, hC, hn, hsh, hlo, hro, hco, hdt⟩ := id hS
  refine ⟨?_, ?_, ?_, ?_, ?_, ?_, ?_, ?_⟩
  · simpa [uI, uA, cns2, puP, loP, shP, dtP, pR, pC, pN, pH, pL, pro, pco, pdt, fnU] using hR
  · simpa [uI, uA, cns2, puP, loP, shP, dtP, pR, pC, pN, pH, pL, pro, pco, pdt, fnU] using hC
  · simpa [uI, uA, cns2, puP, loP, shP, dtP, pR, pC, pN, pH, pL, pro, pco, pdt, fnU] using hn
  · simpa [uI, uA, cns2, puP, loP, shP, dtP, pR, pC, pN, pH, pL, pro, pco, pdt, fnU] using hsh
  · simpa [uI, uA, cns2, puP, loP, shP, dtP, pR, pC, pN, pH, pL, pro, pco, pdt, fnU] using hlo
  · intro j hj
    simpa [uI, uA, puP, loP, shP, dtP, pR, pC, pN, pH, pL, pro, pco, pdt, fnU] using hro j hj
  · intro j hj
    simpa [uI, uA, puP, loP, shP, dtP, pR, pC, pN, pH, pL, pro, pco, pdt, fnU] using hco j hj
  · intro j hj
    by_cases h : j = k
    · subst h
      simp [uI, uA, upd, puP, loP, shP, dtP, pR, pC, pN, pH, pL, pro, pco, pdt, fnU]
    · simpa [uI, uA, upd, h, puP, loP, shP, dtP, pR, pC, pN, pH, pL, pro, pco, pdt, fnU] using hdt j hj
theorem StA_sh {S : Pic} {v : Nat} (hS : StA w p S) : StA (uI w p 3 (nI v)) p (shP S v) := by
  obtain ⟨hR, hC, hn, hsh, hlo, hro, hco, hdt⟩ := id hS
  refine ⟨?_, ?_, ?_, ?_, ?_, ?_, ?_, ?_⟩
  · simpa [uI, uA, upd, puP, loP, shP, dtP, pR, pC, pN, pH, pL, pro, pco, pdt, fnU] using hR
  · simpa [uI, uA, upd, puP, loP, shP, dtP, pR, pC, pN, pH, pL, pro, pco, pdt, fnU] using hC
  · simpa [uI, uA, upd, puP, loP, shP, dtP, pR, pC, pN, pH, pL, pro, pco, pdt, fnU] using hn
  · simp [uI, uA, upd, puP, loP, shP, dtP, pR, pC, pN, pH, pL, pro, pco, pdt, fnU]
  · simpa [uI, uA, upd, puP, loP, shP, dtP, pR, pC, pN, pH, pL, pro, pco, pdt, fnU] using hlo
  · intro j hj
    simpa [uI, uA, cns, puP, loP, shP, dtP, pR, pC, pN, pH, pL, pro, pco, pdt, fnU] using hro j hj
  · intro j hj
    simpa [uI, uA, cns, puP, loP, shP, dtP, pR, pC, pN, pH, pL, pro, pco, pdt, fnU] using hco j hj
  · intro j hj
    simpa [uI, uA, cns, puP, loP, shP, dtP, pR, pC, pN, pH, pL, pro, pco, pdt, fnU] using hdt j hj
theorem c_paintBy {S : Pic} {v : Nat} (hS : StA w p S) (hN : pN S ≤ 20) (hv : v < 2 ^ 31) : Ct X 0 d MX5_paintBy [vR 5 0 p, vI (nI v)] w (qV fun w' => StA w' p (if pN S = 0 then S else dtP S (v / 4 % 4 * 4 + v % 4) (v / 16 % pN S)) ∧ Fr [7 :: p] w w') := by
  obtain ⟨hR, hC, hn, hsh, hlo, hro, hco, hdt⟩ := id hS
  refine Ct.of (by decide) rfl (Nat.le_of_ble_eq_true rfl) ?_
  show Wq _ _ _ _ 0 [(0, _), (1, _)] [] _ _
  refine R_aload_n (i := 0) (q := 1) dX5_paintBy_0 rfl rfl rfl ?_
  refine R_getI' (q := 4) dX5_paintBy_1 fl_X5_31 rfl (hn) rfl ?_
  refine R_if_le (tgt := 36) (q := 7) dX5_paintBy_4 (by decide) rfl (fun c1 => ?_) (fun c1 => ?_)
  · refine R_rv dX5_paintBy_36 rfl ?_
    have h0 : pN S = 0 := by
      rcases Nat.eq_zero_or_pos (pN S) with h | h
      · exact h
      · exact absurd c1 (nI_nle h (by omega))
    rw [if_pos h0]
    exact ⟨hS, Fr.rf⟩
  · have h0 : pN S ≠ 0 := fun h => c1 (by rw [h]; decide)
    refine R_iload_n (i := 1) (q := 8) dX5_paintBy_7 rfl rfl rfl ?_
    refine R_if_lt (tgt := 36) (q := 11) dX5_paintBy_8 (by decide) rfl (fun c2 => ?_) (fun c2 => ?_)
    · exact absurd c2 (nI_pos hv)
    · have hb1 : v / 4 % 4 < 4 := Nat.mod_lt _ (by decide)
      have hb2 : v % 4 < 4 := Nat.mod_lt _ (by decide)
      refine R_aload_n (i := 0) (q := 12) dX5_paintBy_11 rfl rfl rfl ?_
      refine R_getR (q := 15) dX5_paintBy_12 fl_X5_28 rfl (by decide) rfl ?_
      refine R_iload_n (i := 1) (q := 16) dX5_paintBy_15 rfl rfl rfl ?_
      refine R_iconst (v := nI 4) (q := 17) dX5_paintBy_16 (by decide) rfl ?_
      refine R_idivN (by omega) (by omega) (by omega) (q := 18) dX5_paintBy_17 rfl ?_
      refine R_iconst (v := nI 4) (q := 19) dX5_paintBy_18 (by decide) rfl ?_
      refine R_iremN (by omega) (by omega) (by omega) (q := 20) dX5_paintBy_19 rfl ?_
      refine R_iconst (v := nI 4) (q := 21) dX5_paintBy_20 (by decide) rfl ?_
      first | refine R_imulN (q := 22) dX5_paintBy_21 rfl ?_ | refine R_imul (q := 22) dX5_paintBy_21 rfl ?_
      refine R_iload_n (i := 1) (q := 23) dX5_paintBy_22 rfl rfl rfl ?_
      refine R_iconst (v := nI 4) (q := 24) dX5_paintBy_23 (by decide) rfl ?_
      refine R_iremN (by omega) (by omega) (by omega) (q := 25) dX5_paintBy_24 rfl ?_
      first | refine R_iaddN (q := 26) dX5_paintBy_25 rfl ?_ | refine R_iadd (q := 26) dX5_paintBy_25 rfl ?_
      refine R_iload_n (i := 1) (q := 27) dX5_paintBy_26 rfl rfl rfl ?_
      refine R_bipush (v := nI 16) (q := 29) dX5_paintBy_27 (by decide) rfl ?_
      refine R_idivN (by omega) (by omega) (by omega) (q := 30) dX5_paintBy_29 rfl ?_
      refine R_aload_n (i := 0) (q := 31) dX5_paintBy_30 rfl rfl rfl ?_
      refine R_getI' (q := 34) dX5_paintBy_31 fl_X5_31 rfl (hn) rfl ?_
      refine R_iremN (by omega) (by omega) (by omega) (q := 35) dX5_paintBy_34 rfl ?_
      refine R_iast (q := 36) dX5_paintBy_35 (rfl) (by omega) (by decide) rfl ?_
      refine R_rv dX5_paintBy_36 rfl ?_
      rw [if_neg h0]
      exact ⟨StA_dt hS, Fr.i (by simp)⟩
theorem l_cw2 {S : Pic} {b r0 : Nat} (hS : StA w p S) (hR6 : pR S ≤ 6) (hC6 : pC S ≤ 6) (hb : b < 2 ^ 31) (hr : r0 < pR S) (Q : Option AV → Wd → Prop) (kk : Wq X 0 (d + 1) MX5_cellsWithin 44 [(4, vI (nI (pC S))), (2, vI (nI (cw (pC S) b r0 + ct (fun c => decide (dst r0 c ≤ b)) (pC S)))), (3, vI (nI r0)), (0, vR 5 0 p), (1, vI (nI b))] [] w Q) : ∀ (k i : Nat), pC S ≤ i + k → i ≤ pC S → Wq X 0 (d + 1) MX5_cellsWithin 15 [(4, vI (nI i)), (2, vI (nI (cw (pC S) b r0 + ct (fun c => decide (dst r0 c ≤ b)) i))), (3, vI (nI r0)), (0, vR 5 0 p), (1, vI (nI b))] [] w Q := by
  obtain ⟨hR, hC, hn, hsh, hlo, hro, hco, hdt⟩ := id hS
  intro k
  induction k with
  | zero =>
    intro i h1 h2
    refine R_iload (q := 17) dX5_cellsWithin_15 rfl rfl ?_
    refine R_aload_n (i := 0) (q := 18) dX5_cellsWithin_17 rfl rfl rfl ?_
    refine R_getI' (q := 21) dX5_cellsWithin_18 fl_X5_15 rfl (hC) rfl ?_
    refine R_icmp_geN (by omega) (by omega) (tgt := 44) (q := 24) dX5_cellsWithin_21 (by decide) rfl (fun c1 => ?_) (fun c1 => ?_)
    · obtain rfl : i = pC S := by omega
      exact kk
    · omega
  | succ k ih =>
    intro i h1 h2
    refine R_iload (q := 17) dX5_cellsWithin_15 rfl rfl ?_
    refine R_aload_n (i := 0) (q := 18) dX5_cellsWithin_17 rfl rfl rfl ?_
    refine R_getI' (q := 21) dX5_cellsWithin_18 fl_X5_15 rfl (hC) rfl ?_
    refine R_icmp_geN (by omega) (by omega) (tgt := 44) (q := 24) dX5_cellsWithin_21 (by decide) rfl (fun c1 => ?_) (fun c1 => ?_)
    · obtain rfl : i = pC S := by omega
      exact kk
    · have e := ih (i + 1) (by omega) (by omega)
      simp only [ct] at e
      refine R_iload_n (i := 3) (q := 25) dX5_cellsWithin_24 rfl rfl rfl ?_
      refine R_iload (q := 27) dX5_cellsWithin_25 rfl rfl ?_
      refine R_isub (q := 28) dX5_cellsWithin_27 rfl ?_
      refine R_mabs (q := 31) dX5_cellsWithin_28 mj_X5_69 mk_J9_abs_0f7a4 (Nat.le_of_ble_eq_true rfl) rfl ?_
      refine R_val (abs_dst (by omega) (by omega)) ?_
      have hd9 : dst r0 i < 2 ^ 31 := by unfold dst; split <;> omega
      refine R_iload_n (i := 1) (q := 32) dX5_cellsWithin_31 rfl rfl rfl ?_
      refine R_icmp_gtN (by omega) (by omega) (tgt := 38) (q := 35) dX5_cellsWithin_32 (by decide) rfl (fun c2 => ?_) (fun c2 => ?_)
      · first | refine R_iincN (q := 41) (loc' := [(4, _), (2, _), (3, _), (0, _), (1, _)]) dX5_cellsWithin_38 (by rfl) (by decide) (by rfl) rfl ?_ | refine R_iinc (q := 41) (loc' := [(4, _), (2, _), (3, _), (0, _), (1, _)]) dX5_cellsWithin_38 (by rfl) (by rfl) (by decide) (by rfl) rfl ?_
        refine R_goto (q := 15) dX5_cellsWithin_41 (by decide) ?_
        rw [if_neg (by simpa using c2)] at e
        exact e
      · rw [if_pos (by simpa using c2)] at e
        first | refine R_iincN (q := 38) (loc' := [(2, _), (4, _), (3, _), (0, _), (1, _)]) dX5_cellsWithin_35 (by rfl) (by decide) (by rfl) rfl ?_ | refine R_iinc (q := 38) (loc' := [(2, _), (4, _), (3, _), (0, _), (1, _)]) dX5_cellsWithin_35 (by rfl) (by rfl) (by decide) (by rfl) rfl ?_
        first | refine R_iincN (q := 41) (loc' := [(4, _), (2, _), (3, _), (0, _), (1, _)]) dX5_cellsWithin_38 (by rfl) (by decide) (by rfl) rfl ?_ | refine R_iinc (q := 41) (loc' := [(4, _), (2, _), (3, _), (0, _), (1, _)]) dX5_cellsWithin_38 (by rfl) (by rfl) (by decide) (by rfl) rfl ?_
        refine R_goto (q := 15) dX5_cellsWithin_41 (by decide) ?_
        exact e
theorem l_cw1 {S : Pic} {b : Nat} (hS : StA w p S) (hR6 : pR S ≤ 6) (hC6 : pC S ≤ 6) (hb : b < 2 ^ 31) : ∀ (k i : Nat), pR S ≤ i + k → i ≤ pR S → Wq X 0 (d + 1) MX5_cellsWithin 4 [(3, vI (nI i)), (2, vI (nI (cw (pC S) b i))), (0, vR 5 0 p), (1, vI (nI b))] [] w (qI fun x w' => x = nI (cw (pC S) b (pR S)) ∧ w' = w) := by
  obtain ⟨hR, hC, hn, hsh, hlo, hro, hco, hdt⟩ := id hS
  intro k
  induction k with
  | zero =>
    intro i h1 h2
    refine R_iload_n (i := 3) (q := 5) dX5_cellsWithin_4 rfl rfl rfl ?_
    refine R_aload_n (i := 0) (q := 6) dX5_cellsWithin_5 rfl rfl rfl ?_
    refine R_getI' (q := 9) dX5_cellsWithin_6 fl_X5_9 rfl (hR) rfl ?_
    refine R_icmp_geN (by omega) (by omega) (tgt := 50) (q := 12) dX5_cellsWithin_9 (by decide) rfl (fun c1 => ?_) (fun c1 => ?_)
    · refine R_iload_n (i := 2) (q := 51) dX5_cellsWithin_50 rfl rfl rfl ?_
      refine R_ri dX5_cellsWithin_51 rfl ?_
      obtain rfl : i = pR S := by omega
      exact ⟨rfl, rfl⟩
    · omega
  | succ k ih =>
    intro i h1 h2
    refine R_iload_n (i := 3) (q := 5) dX5_cellsWithin_4 rfl rfl rfl ?_
    refine R_aload_n (i := 0) (q := 6) dX5_cellsWithin_5 rfl rfl rfl ?_
    refine R_getI' (q := 9) dX5_cellsWithin_6 fl_X5_9 rfl (hR) rfl ?_
    refine R_icmp_geN (by omega) (by omega) (tgt := 50) (q := 12) dX5_cellsWithin_9 (by decide) rfl (fun c1 => ?_) (fun c1 => ?_)
    · refine R_iload_n (i := 2) (q := 51) dX5_cellsWithin_50 rfl rfl rfl ?_
      refine R_ri dX5_cellsWithin_51 rfl ?_
      obtain rfl : i = pR S := by omega
      exact ⟨rfl, rfl⟩
    · refine R_iconst (v := nI 0) (q := 13) dX5_cellsWithin_12 (by decide) rfl ?_
      refine R_istore (q := 15) (loc' := [(4, _), (3, _), (2, _), (0, _), (1, _)]) dX5_cellsWithin_13 (by decide) (by rfl) rfl ?_
      refine R_loc [0, 2, 1, 3, 4] (loc' := [(4, _), (2, _), (3, _), (0, _), (1, _)]) (by rfl) ?_
      refine l_cw2 hS hR6 hC6 hb c1 _ ?_ (pC S) 0 (by omega) (by omega)
      first | refine R_iincN (q := 47) (loc' := [(3, _), (4, _), (2, _), (0, _), (1, _)]) dX5_cellsWithin_44 (by rfl) (by decide) (by rfl) rfl ?_ | refine R_iinc (q := 47) (loc' := [(3, _), (4, _), (2, _), (0, _), (1, _)]) dX5_cellsWithin_44 (by rfl) (by rfl) (by decide) (by rfl) rfl ?_
      refine R_goto (q := 4) dX5_cellsWithin_47 (by decide) ?_
      refine R_loc [0, 2, 3, 4] (loc' := [(3, _), (2, _), (0, _), (1, _)]) (by rfl) ?_
      exact ih (i + 1) (by omega) (by omega)
theorem c_cellsWithin {S : Pic} {b : Nat} (hS : StA w p S) (hR6 : pR S ≤ 6) (hC6 : pC S ≤ 6) (hb : b < 2 ^ 31) : Ct X 0 (d + 1) MX5_cellsWithin [vR 5 0 p, vI (nI b)] w (qI fun x w' => x = nI (cw (pC S) b (pR S)) ∧ w' = w) := by
  refine Ct.of (by decide) rfl (Nat.le_of_ble_eq_true rfl) ?_
  show Wq _ _ _ _ 0 [(0, _), (1, _)] [] _ _
  refine R_iconst (v := nI 0) (q := 1) dX5_cellsWithin_0 (by decide) rfl ?_
  refine R_istore_n (i := 2) (q := 2) (loc' := [(2, _), (0, _), (1, _)]) dX5_cellsWithin_1 rfl (by decide) (by rfl) rfl ?_
  refine R_iconst (v := nI 0) (q := 3) dX5_cellsWithin_2 (by decide) rfl ?_
  refine R_istore_n (i := 3) (q := 4) (loc' := [(3, _), (2, _), (0, _), (1, _)]) dX5_cellsWithin_3 rfl (by decide) (by rfl) rfl ?_
  exact l_cw1 hS hR6 hC6 hb (pR S) 0 (by omega) (by omega)
theorem gD_l {L : List (Nat × Nat)} {x : Nat × Nat} {s : Nat} (h : s < L.length) : (L ++ [x]).getD s (0, 0) = L.getD s (0, 0) := by
  simp only [List.getD_eq_getElem?_getD, List.getElem?_append_left h]
theorem gD_r {L : List (Nat × Nat)} {x : Nat × Nat} : (L ++ [x]).getD L.length (0, 0) = x := by
  simp [List.getD_eq_getElem?_getD]
theorem layP_put {S : Pic} {L : List (Nat × Nat)} {a b : Nat} : (∀ s, pro (if L.length < pN S then puP (layP S L) L.length a b else layP S L) s = pro (layP S (L ++ [(a, b)])) s ∨ pN S ≤ s) ∧ (∀ s, pco (if L.length < pN S then puP (layP S L) L.length a b else layP S L) s = pco (layP S (L ++ [(a, b)])) s ∨ pN S ≤ s) := by
  constructor
  · intro s
    rcases Nat.lt_or_ge s (pN S) with h | h
    · left
      have hr : pro (layP S (L ++ [(a, b)])) s = (if s < (L ++ [(a, b)]).length then ((L ++ [(a, b)]).getD s (0, 0)).1 else pro S s) := rfl
      rw [hr, List.length_append, List.length_cons, List.length_nil]
      by_cases hc : L.length < pN S
      · rw [if_pos hc]
        show fnU (fun s => if s < L.length then (L.getD s (0, 0)).1 else pro S s) L.length a s = _
        simp only [fnU]
        by_cases h2 : s = L.length
        · rw [if_pos h2, h2, if_pos (by omega), gD_r]
        · rw [if_neg h2]
          rcases Nat.lt_or_ge s L.length with h3 | h3
          · rw [if_pos h3, if_pos (by omega), gD_l h3]
          · rw [if_neg (by omega), if_neg (by omega)]
      · rw [if_neg hc]
        show (if s < L.length then (L.getD s (0, 0)).1 else pro S s) = _
        rw [if_pos (by omega), if_pos (by omega), gD_l (by omega)]
    · exact Or.inr h
  · intro s
    rcases Nat.lt_or_ge s (pN S) with h | h
    · left
      have hr : pco (layP S (L ++ [(a, b)])) s = (if s < (L ++ [(a, b)]).length then ((L ++ [(a, b)]).getD s (0, 0)).2 else pco S s) := rfl
      rw [hr, List.length_append, List.length_cons, List.length_nil]
      by_cases hc : L.length < pN S
      · rw [if_pos hc]
        show fnU (fun s => if s < L.length then (L.getD s (0, 0)).2 else pco S s) L.length b s = _
        simp only [fnU]
        by_cases h2 : s = L.length
        · rw [if_pos h2, h2, if_pos (by omega), gD_r]
        · rw [if_neg h2]
          rcases Nat.lt_or_ge s L.length with h3 | h3
          · rw [if_pos h3, if_pos (by omega), gD_l h3]
          · rw [if_neg (by omega), if_neg (by omega)]
      · rw [if_neg hc]
        show (if s < L.length then (L.getD s (0, 0)).2 else pco S s) = _
        rw [if_pos (by omega), if_pos (by omega), gD_l (by omega)]
    · exact Or.inr h
theorem StA.cg {S S' : Pic} (h : StA w p S) (h1 : pR S' = pR S) (h2 : pC S' = pC S) (h3 : pN S' = pN S) (h4 : pH S' = pH S) (h5 : pL S' = pL S) (h6 : ∀ s, s < pN S → pro S' s = pro S s) (h7 : ∀ s, s < pN S → pco S' s = pco S s) (h8 : ∀ k, k < 16 → pdt S' k = pdt S k) : StA w p S' := by
  obtain ⟨hR, hC, hn, hsh, hlo, hro, hco, hdt⟩ := id h
  refine ⟨by rw [hR, h1], by rw [hC, h2], by rw [hn, h3], by rw [hsh, h4], by rw [hlo, h5], ?_, ?_, ?_⟩
  · intro s hs
    rw [h3] at hs
    rw [hro s hs, h6 s hs]
  · intro s hs
    rw [h3] at hs
    rw [hco s hs, h7 s hs]
  · intro k hk
    rw [hdt k hk, h8 k hk]
theorem StA_put {S : Pic} {L : List (Nat × Nat)} {a b : Nat} (h : StA w p (if L.length < pN (layP S L) then puP (layP S L) L.length a b else layP S L)) : StA w p (layP S (L ++ [(a, b)])) := by
  have e1 : ∀ {α : Type} (f : Pic → α), f (puP (layP S L) L.length a b) = f (layP S L) → f (if L.length < pN (layP S L) then puP (layP S L) L.length a b else layP S L) = f (layP S L) := by
    intro α f hf
    split
    · exact hf
    · rfl
  have hN : pN (if L.length < pN (layP S L) then puP (layP S L) L.length a b else layP S L) = pN S := e1 pN rfl
  refine h.cg (e1 pR rfl).symm (e1 pC rfl).symm (e1 pN rfl).symm (e1 pH rfl).symm (e1 pL rfl).symm ?_ ?_ (fun k _ => (congrFun (e1 pdt rfl) k).symm)
  · intro s hs
    rw [hN] at hs
    rcases layP_put (S := S) (L := L) (a := a) (b := b) |>.1 s with h | h
    · exact h.symm
    · omega
  · intro s hs
    rw [hN] at hs
    rcases layP_put (S := S) (L := L) (a := a) (b := b) |>.2 s with h | h
    · exact h.symm
    · omega
theorem l_la2 {S : Pic} {b t : Nat} {L : List (Nat × Nat)} (hR6 : pR S ≤ 6) (hC6 : pC S ≤ 6) (hN : pN S ≤ 20) (hb : b < 2 ^ 31) (ht : t < 12) (hL : L.length ≤ 100) (Q : Option AV → Wd → Prop) (w0 : Wd) (kk : ∀ w, StA w p (layP S (laR (pC S) b t L (pR S))) → Fr [5 :: p, 6 :: p] w0 w → Wq X 0 (d + 2) MX5_layWithin 78 [(4, vI (nI (pR S))), (2, vI (nI (laR (pC S) b t L (pR S)).length)), (3, vI (nI t)), (0, vR 5 0 p), (1, vI (nI b))] [] w Q) : ∀ (k i : Nat) (w : Wd), pR S ≤ i + k → i ≤ pR S → StA w p (layP S (laR (pC S) b t L i)) → Fr [5 :: p, 6 :: p] w0 w → Wq X 0 (d + 2) MX5_layWithin 22 [(4, vI (nI i)), (2, vI (nI (laR (pC S) b t L i).length)), (3, vI (nI t)), (0, vR 5 0 p), (1, vI (nI b))] [] w Q := by
  intro k
  induction k with
  | zero =>
    intro i w h1 h2 hS hF
    have hR9 : w.1 p 0 = nI (pR S) := hS.1
    refine R_iload (q := 24) dX5_layWithin_22 rfl rfl ?_
    refine R_aload_n (i := 0) (q := 25) dX5_layWithin_24 rfl rfl rfl ?_
    refine R_getI' (q := 28) dX5_layWithin_25 fl_X5_9 rfl (hR9) rfl ?_
    refine R_icmp_geN (by omega) (by omega) (tgt := 78) (q := 31) dX5_layWithin_28 (by decide) rfl (fun c1 => ?_) (fun c1 => ?_)
    · obtain rfl : i = pR S := by exact Nat.le_antisymm h2 c1
      exact kk w hS hF
    · exact absurd c1 (by show ¬ i < pR S; omega)
  | succ k ih =>
    intro i w h1 h2 hS hF
    have hR9 : w.1 p 0 = nI (pR S) := hS.1
    refine R_iload (q := 24) dX5_layWithin_22 rfl rfl ?_
    refine R_aload_n (i := 0) (q := 25) dX5_layWithin_24 rfl rfl rfl ?_
    refine R_getI' (q := 28) dX5_layWithin_25 fl_X5_9 rfl (hR9) rfl ?_
    refine R_icmp_geN (by omega) (by omega) (tgt := 78) (q := 31) dX5_layWithin_28 (by decide) rfl (fun c1 => ?_) (fun c1 => ?_)
    · obtain rfl : i = pR S := by exact Nat.le_antisymm h2 c1
      exact kk w hS hF
    · have c1 : i < pR S := c1
      have hlen := laR_len (pC S) b t L i
      have e := fun w => ih (i + 1) w (by omega) (by omega)
      simp only [laR] at e
      refine R_iload_n (i := 3) (q := 32) dX5_layWithin_31 rfl rfl rfl ?_
      refine R_iload (q := 34) dX5_layWithin_32 rfl rfl ?_
      refine R_isub (q := 35) dX5_layWithin_34 rfl ?_
      refine R_istore (q := 37) (loc' := [(5, _), (4, _), (2, _), (3, _), (0, _), (1, _)]) dX5_layWithin_35 (by decide) (by rfl) rfl ?_
      refine R_aload_n (i := 0) (q := 38) dX5_layWithin_37 rfl rfl rfl ?_
      refine R_iload (q := 40) dX5_layWithin_38 rfl rfl ?_
      refine R_iload (q := 42) dX5_layWithin_40 rfl rfl ?_
      refine R_cV2i (M' := MX5_hasCell) (q := 45) dX5_layWithin_42 ml_X5_74 mk_X5_hasCell (Nat.le_of_ble_eq_true rfl) rfl (c_hasCell hS.1 hS.2.1) ?_
      rintro _ w ⟨rfl, rfl⟩
      have hcell : inN (nI i) (pR (layP S (laR (pC S) b t L i))) := (inN_nI (by omega) (show pR S < 2 ^ 31 by omega)).mpr c1
      refine R_if_eqB (tgt := 72) (q := 48) dX5_layWithin_45 (by decide) rfl (fun c2 => ?_) (fun c2 => ?_)
      · have hno : ¬ (i ≤ t ∧ t - i < pC S ∧ dst i (t - i) ≤ b) := fun h => c2 ⟨hcell, (sub_in (by omega) (by omega) (show pC S < 2 ^ 30 by omega)).mpr ⟨h.1, h.2.1⟩⟩
        rw [if_neg hno] at e
        first | refine R_iincN (q := 75) (loc' := [(4, _), (5, _), (2, _), (3, _), (0, _), (1, _)]) dX5_layWithin_72 (by rfl) (by decide) (by rfl) rfl ?_ | refine R_iinc (q := 75) (loc' := [(4, _), (5, _), (2, _), (3, _), (0, _), (1, _)]) dX5_layWithin_72 (by rfl) (by rfl) (by decide) (by rfl) rfl ?_
        refine R_goto (q := 22) dX5_layWithin_75 (by decide) ?_
        refine R_loc [0, 2, 3, 4, 5] (loc' := [(4, _), (2, _), (3, _), (0, _), (1, _)]) (by rfl) ?_
        exact e w hS hF
      · have h3 := (sub_in (by omega) (by omega) (show pC S < 2 ^ 30 by omega)).mp c2.2
        have h3 : i ≤ t ∧ t - i < pC S := h3
        refine R_iload (q := 50) dX5_layWithin_48 rfl rfl ?_
        refine R_iload (q := 52) (x := nI (t - i)) dX5_layWithin_50 ?_ rfl ?_
        · rw [← pk_sub h3.1]
          rfl
        refine R_isub (q := 53) dX5_layWithin_52 rfl ?_
        refine R_mabs (q := 56) dX5_layWithin_53 mj_X5_69 mk_J9_abs_0f7a4 (Nat.le_of_ble_eq_true rfl) rfl ?_
        refine R_val (abs_dst (by omega) (by omega)) ?_
        have hd9 : dst i (t - i) < 2 ^ 31 := by unfold dst; split <;> omega
        refine R_iload_n (i := 1) (q := 57) dX5_layWithin_56 rfl rfl rfl ?_
        refine R_icmp_gtN (by omega) (by omega) (tgt := 72) (q := 60) dX5_layWithin_57 (by decide) rfl (fun c4 => ?_) (fun c4 => ?_)
        · have hno : ¬ (i ≤ t ∧ t - i < pC S ∧ dst i (t - i) ≤ b) := fun h => by omega
          rw [if_neg hno] at e
          first | refine R_iincN (q := 75) (loc' := [(4, _), (5, _), (2, _), (3, _), (0, _), (1, _)]) dX5_layWithin_72 (by rfl) (by decide) (by rfl) rfl ?_ | refine R_iinc (q := 75) (loc' := [(4, _), (5, _), (2, _), (3, _), (0, _), (1, _)]) dX5_layWithin_72 (by rfl) (by rfl) (by decide) (by rfl) rfl ?_
          refine R_goto (q := 22) dX5_layWithin_75 (by decide) ?_
          refine R_loc [0, 2, 3, 4, 5] (loc' := [(4, _), (2, _), (3, _), (0, _), (1, _)]) (by rfl) ?_
          exact e w hS hF
        · rw [if_pos ⟨h3.1, h3.2, c4⟩] at e
          refine R_aload_n (i := 0) (q := 61) dX5_layWithin_60 rfl rfl rfl ?_
          refine R_iload_n (i := 2) (q := 62) dX5_layWithin_61 rfl rfl rfl ?_
          refine R_iload (q := 64) dX5_layWithin_62 rfl rfl ?_
          refine R_iload (q := 66) (x := nI (t - i)) dX5_layWithin_64 ?_ rfl ?_
          · rw [← pk_sub h3.1]
            rfl
          refine R_cV3v (M' := MX5_put) (q := 69) dX5_layWithin_66 ml_X5_65 mk_X5_put (Nat.le_of_ble_eq_true rfl) rfl (c_put2 hS hN (by omega)) ?_
          rintro w1 ⟨hS1, hF1⟩
          first | refine R_iincN (q := 72) (loc' := [(2, _), (5, _), (4, _), (3, _), (0, _), (1, _)]) dX5_layWithin_69 (by rfl) (by decide) (by rfl) rfl ?_ | refine R_iinc (q := 72) (loc' := [(2, _), (5, _), (4, _), (3, _), (0, _), (1, _)]) dX5_layWithin_69 (by rfl) (by rfl) (by decide) (by rfl) rfl ?_
          first | refine R_iincN (q := 75) (loc' := [(4, _), (2, _), (5, _), (3, _), (0, _), (1, _)]) dX5_layWithin_72 (by rfl) (by decide) (by rfl) rfl ?_ | refine R_iinc (q := 75) (loc' := [(4, _), (2, _), (5, _), (3, _), (0, _), (1, _)]) dX5_layWithin_72 (by rfl) (by rfl) (by decide) (by rfl) rfl ?_
          refine R_goto (q := 22) dX5_layWithin_75 (by decide) ?_
          refine R_loc [0, 1, 3, 4, 5] (loc' := [(4, _), (2, _), (3, _), (0, _), (1, _)]) (by rfl) ?_
          have e2 := e w1 (StA_put hS1) (hF.tr hF1)
          rw [List.length_append] at e2
          exact e2
theorem l_la1 {S : Pic} {b : Nat} (hR6 : 1 ≤ pR S ∧ pR S ≤ 6) (hC6 : 1 ≤ pC S ∧ pC S ≤ 6) (hN : pN S ≤ 20) (hb : b < 2 ^ 31) (w0 : Wd) : ∀ (k i : Nat) (w : Wd), pR S + pC S - 1 ≤ i + k → i ≤ pR S + pC S - 1 → StA w p (layP S (laT (pR S) (pC S) b i)) → Fr [5 :: p, 6 :: p] w0 w → Wq X 0 (d + 2) MX5_layWithin 4 [(3, vI (nI i)), (2, vI (nI (laT (pR S) (pC S) b i).length)), (0, vR 5 0 p), (1, vI (nI b))] [] w (qV fun w' => StA w' p (layP S (laT (pR S) (pC S) b (pR S + pC S - 1))) ∧ Fr [5 :: p, 6 :: p] w0 w') := by
  intro k
  induction k with
  | zero =>
    intro i w h1 h2 hS hF
    refine R_iload_n (i := 3) (q := 5) dX5_layWithin_4 rfl rfl rfl ?_
    refine R_aload_n (i := 0) (q := 6) dX5_layWithin_5 rfl rfl rfl ?_
    refine R_getI' (q := 9) dX5_layWithin_6 fl_X5_9 rfl (hS.1) rfl ?_
    refine R_aload_n (i := 0) (q := 10) dX5_layWithin_9 rfl rfl rfl ?_
    refine R_getI' (q := 13) dX5_layWithin_10 fl_X5_15 rfl (hS.2.1) rfl ?_
    first | refine R_iaddN (q := 14) dX5_layWithin_13 rfl ?_ | refine R_iadd (q := 14) dX5_layWithin_13 rfl ?_
    refine R_iconst (v := nI 2) (q := 15) dX5_layWithin_14 (by decide) rfl ?_
    refine R_isubN (show 2 ≤ pR S + pC S by omega) (q := 16) dX5_layWithin_15 rfl ?_
    refine R_icmp_gt (tgt := 84) (q := 19) dX5_layWithin_16 (by decide) rfl (fun c1 => ?_) (fun c1 => ?_)
    · obtain rfl : i = pR S + pC S - 1 := by omega
      refine R_rv dX5_layWithin_84 rfl ?_
      exact ⟨hS, hF⟩
    · exact absurd ((nI_ltI (show pR S + pC S - 2 < 2 ^ 31 by omega) (by omega)).mpr (by omega)) c1
  | succ k ih =>
    intro i w h1 h2 hS hF
    refine R_iload_n (i := 3) (q := 5) dX5_layWithin_4 rfl rfl rfl ?_
    refine R_aload_n (i := 0) (q := 6) dX5_layWithin_5 rfl rfl rfl ?_
    refine R_getI' (q := 9) dX5_layWithin_6 fl_X5_9 rfl (hS.1) rfl ?_
    refine R_aload_n (i := 0) (q := 10) dX5_layWithin_9 rfl rfl rfl ?_
    refine R_getI' (q := 13) dX5_layWithin_10 fl_X5_15 rfl (hS.2.1) rfl ?_
    first | refine R_iaddN (q := 14) dX5_layWithin_13 rfl ?_ | refine R_iadd (q := 14) dX5_layWithin_13 rfl ?_
    refine R_iconst (v := nI 2) (q := 15) dX5_layWithin_14 (by decide) rfl ?_
    refine R_isubN (show 2 ≤ pR S + pC S by omega) (q := 16) dX5_layWithin_15 rfl ?_
    refine R_icmp_gt (tgt := 84) (q := 19) dX5_layWithin_16 (by decide) rfl (fun c1 => ?_) (fun c1 => ?_)
    · have c1 := (nI_ltI (show pR S + pC S - 2 < 2 ^ 31 by omega) (by omega)).mp c1
      obtain rfl : i = pR S + pC S - 1 := by omega
      refine R_rv dX5_layWithin_84 rfl ?_
      exact ⟨hS, hF⟩
    · have c1 : i < pR S + pC S - 1 := by
        have := fun h => c1 ((nI_ltI (show pR S + pC S - 2 < 2 ^ 31 by omega) (by omega)).mpr h)
        have := Nat.not_lt.mp this
        omega
      have hlen := laT_len (pR S) (pC S) b i
      have hlen2 : i * pR S ≤ 11 * 6 := Nat.mul_le_mul (by omega) hR6.2
      refine R_iconst (v := nI 0) (q := 20) dX5_layWithin_19 (by decide) rfl ?_
      refine R_istore (q := 22) (loc' := [(4, _), (3, _), (2, _), (0, _), (1, _)]) dX5_layWithin_20 (by decide) (by rfl) rfl ?_
      refine R_loc [0, 2, 1, 3, 4] (loc' := [(4, _), (2, _), (3, _), (0, _), (1, _)]) (by rfl) ?_
      refine l_la2 (L := laT (pR S) (pC S) b i) hR6.2 hC6.2 hN hb (by omega) (by omega) _ w0 ?_ (pR S) 0 w (by omega) (by omega) hS hF
      intro w1 hS1 hF1
      first | refine R_iincN (q := 81) (loc' := [(3, _), (4, _), (2, _), (0, _), (1, _)]) dX5_layWithin_78 (by rfl) (by decide) (by rfl) rfl ?_ | refine R_iinc (q := 81) (loc' := [(3, _), (4, _), (2, _), (0, _), (1, _)]) dX5_layWithin_78 (by rfl) (by rfl) (by decide) (by rfl) rfl ?_
      refine R_goto (q := 4) dX5_layWithin_81 (by decide) ?_
      refine R_loc [0, 2, 3, 4] (loc' := [(3, _), (2, _), (0, _), (1, _)]) (by rfl) ?_
      exact ih (i + 1) w1 (by omega) (by omega) hS1 hF1
theorem c_layWithin {S : Pic} {b : Nat} (hS : StA w p S) (hR6 : 1 ≤ pR S ∧ pR S ≤ 6) (hC6 : 1 ≤ pC S ∧ pC S ≤ 6) (hN : pN S ≤ 20) (hb : b < 2 ^ 31) : Ct X 0 (d + 2) MX5_layWithin [vR 5 0 p, vI (nI b)] w (qV fun w' => StA w' p (layP S (laT (pR S) (pC S) b (pR S + pC S - 1))) ∧ Fr [5 :: p, 6 :: p] w w') := by
  refine Ct.of (by decide) rfl (Nat.le_of_ble_eq_true rfl) ?_
  show Wq _ _ _ _ 0 [(0, _), (1, _)] [] _ _
  refine R_iconst (v := nI 0) (q := 1) dX5_layWithin_0 (by decide) rfl ?_
  refine R_istore_n (i := 2) (q := 2) (loc' := [(2, _), (0, _), (1, _)]) dX5_layWithin_1 rfl (by decide) (by rfl) rfl ?_
  refine R_iconst (v := nI 0) (q := 3) dX5_layWithin_2 (by decide) rfl ?_
  refine R_istore_n (i := 3) (q := 4) (loc' := [(3, _), (2, _), (0, _), (1, _)]) dX5_layWithin_3 rfl (by decide) (by rfl) rfl ?_
  exact l_la1 hR6 hC6 hN hb w (pR S + pC S - 1) 0 w (by omega) (by omega) hS Fr.rf
end ST
