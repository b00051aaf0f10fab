section TX
variable {X : Cx} {d : Nat} {p t : List Nat} {w : Wd}
/-- a reading's state in the cells -/
def RdA (w : Wd) (p : List Nat) (st : RS) (k : Nat) : Prop := StA w p (rsP st) ∧ (3 ≤ k → k % 3 = 2 → w.1 (5 :: p) st.2.2.1 = nI st.2.2.2.2.2) ∧ RI st k
theorem c_tadd {n : Nat} {x : Int32} (hn : w.1 t 1 = nI n) (hN : n ≤ 70) : Ct X 0 d MX6_add [vR 6 0 t, vI x] w (qI fun z w' => (n < 70 ∧ z = 1 ∧ w' = uI (uI w (0 :: t) n x) t 1 (nI (n + 1))) ∨ (n = 70 ∧ z = 0 ∧ w' = w)) := by
  refine Ct.of (by decide) rfl (Nat.le_of_ble_eq_true rfl) ?_
  show Wq _ _ _ _ 0 [(0, _), (1, _)] [] _ _
  refine R_aload_n (i := 0) (q := 1) dX6_add_0 rfl rfl rfl ?_
  refine R_getI' (q := 4) dX6_add_1 fl_X6_15 rfl (hn) rfl ?_
  refine R_bipush (v := nI 70) (q := 6) dX6_add_4 (by decide) rfl ?_
  refine R_icmp_ltN (by omega) (by omega) (tgt := 11) (q := 9) dX6_add_6 (by decide) rfl (fun c1 => ?_) (fun c1 => ?_)
  · refine R_aload_n (i := 0) (q := 12) dX6_add_11 rfl rfl rfl ?_
    refine R_getR (q := 15) dX6_add_12 fl_X6_9 rfl (by decide) rfl ?_
    refine R_aload_n (i := 0) (q := 16) dX6_add_15 rfl rfl rfl ?_
    refine R_getI' (q := 19) dX6_add_16 fl_X6_15 rfl (hn) rfl ?_
    refine R_iload_n (i := 1) (q := 20) dX6_add_19 rfl rfl rfl ?_
    refine R_iast (q := 21) dX6_add_20 (rfl) (by omega) (by decide) rfl ?_
    refine R_aload_n (i := 0) (q := 22) dX6_add_21 rfl rfl rfl ?_
    refine R_dup (q := 23) dX6_add_22 rfl rfl ?_
    refine R_getI' (q := 26) dX6_add_23 fl_X6_15 rfl ((uI_nep cns2).trans hn) rfl ?_
    refine R_iconst (v := nI 1) (q := 27) dX6_add_26 (by decide) rfl ?_
    first | refine R_iaddN (q := 28) dX6_add_27 rfl ?_ | refine R_iadd (q := 28) dX6_add_27 rfl ?_
    refine R_putI (q := 31) dX6_add_28 fl_X6_15 rfl rfl ?_
    refine R_iconst (v := nI 1) (q := 32) dX6_add_31 (by decide) rfl ?_
    refine R_rz dX6_add_32 rfl (by decide) ?_
    exact Or.inl ⟨c1, rfl, rfl⟩
  · refine R_iconst (v := nI 0) (q := 10) dX6_add_9 (by decide) rfl ?_
    refine R_rz dX6_add_10 rfl (by decide) ?_
    exact Or.inr ⟨by omega, rfl, rfl⟩
theorem c_takes {st : RS} {k : Nat} {x : Int32} (hk : k < 70) (hA : RdA w p st k) : Ct X 0 (d + 2) MX6_takes [vR 5 0 p, vI (nI k), vI x] w (qI fun z w' => ((z = 1 ∧ ∃ st', rst st k x = some st' ∧ RdA w' p st' (k + 1)) ∨ (z = 0 ∧ rst st k x = none)) ∧ Fr [p, 5 :: p, 6 :: p] w w') := by
  obtain ⟨hS, hcr, hI⟩ := id hA
  obtain ⟨hR, hC, hn, hsh, hlo, hro, hco, hdt⟩ := id hS
  obtain ⟨i1, i2, i3, i4, i5, i6, i7, i8⟩ := id hI
  have hR6 : pR (rsP st) ≤ 6 := i1.2
  have hC6 : pC (rsP st) ≤ 6 := i2.2
  have hN20 : pN (rsP st) ≤ 20 := i3
  have fgj : ∀ {j n : Nat}, j < n → n ≤ 7 → x - nI 48 = nI j → inN (fgI x) n ∧ fgN x = j := by
    intro j n h1 h2 h3
    refine ⟨?_, ?_⟩
    · show inN (x - nI 48) n
      rw [h3]
      exact (inN_nI (by omega) (by omega)).mpr h1
    · unfold fgN
      rw [h3, nI_clamp (by omega)]
  refine Ct.of (by decide) rfl (Nat.le_of_ble_eq_true rfl) ?_
  show Wq _ _ _ _ 0 [(0, _), (1, _), (2, _)] [] _ _
  refine R_iload_n (i := 2) (q := 1) dX6_takes_0 rfl rfl rfl ?_
  refine R_bipush (v := nI 48) (q := 3) dX6_takes_1 (by decide) rfl ?_
  refine R_isub (q := 4) dX6_takes_3 rfl ?_
  refine R_istore_n (i := 3) (q := 5) (loc' := [(3, _), (0, _), (1, _), (2, _)]) dX6_takes_4 rfl (by decide) (by rfl) rfl ?_
  refine R_iload_n (i := 1) (q := 6) dX6_takes_5 rfl rfl rfl ?_
  by_cases k0 : k = 0
  · subst k0
    have er : rst st 0 x = if x = nI 77 then some st else none := by
      unfold rst
      rw [if_pos rfl]
    refine R_tableIn (q := 32) dX6_takes_6 (by decide) (by decide) (by rfl) (by decide) ?_
    refine R_iload_n (i := 2) (q := 33) dX6_takes_32 rfl rfl rfl ?_
    refine R_bipush (v := nI 77) (q := 35) dX6_takes_33 (by decide) rfl ?_
    refine R_icmp_ne (tgt := 42) (q := 38) dX6_takes_35 (by decide) rfl (fun c1 => ?_) (fun c1 => ?_)
    · refine R_iconst (v := nI 0) (q := 43) dX6_takes_42 (by decide) rfl ?_
      refine R_rz dX6_takes_43 rfl (by decide) ?_
      exact ⟨Or.inr ⟨rfl, by rw [er, if_neg c1]⟩, Fr.rf⟩
    · refine R_iconst (v := nI 1) (q := 39) dX6_takes_38 (by decide) rfl ?_
      refine R_goto (q := 43) dX6_takes_39 (by decide) ?_
      refine R_rz dX6_takes_43 rfl (by decide) ?_
      have e2 : rst st 0 x = some st := by rw [er, if_pos c1]
      exact ⟨Or.inl ⟨rfl, st, e2, hS, fun h => absurd h (by decide), RI_step hI e2⟩, Fr.rf⟩
  by_cases k1 : k = 1
  · subst k1
    have er : rst st 1 x = if inN (fgI x) 7 ∧ 1 ≤ fgN x then some (fgN x, st.2.1, st.2.2.1, st.2.2.2.1, st.2.2.2.2.1, st.2.2.2.2.2) else none := by
      unfold rst
      rw [if_neg (by decide), if_pos rfl]
    refine R_tableIn (q := 44) dX6_takes_6 (by decide) (by decide) (by rfl) (by decide) ?_
    refine R_aload_n (i := 0) (q := 45) dX6_takes_44 rfl rfl rfl ?_
    refine R_iload_n (i := 3) (q := 46) dX6_takes_45 rfl rfl rfl ?_
    refine R_cV1i (M' := MX5_tellRows) (q := 49) dX6_takes_46 ml_X6_28 mk_X5_tellRows (Nat.le_of_ble_eq_true rfl) rfl (c_tellRows) ?_
    rintro z w1 hz
    rcases hz with ⟨rfl, j, j1, j6, ej, rfl⟩ | ⟨rfl, rfl, hno⟩
    · refine R_rz dX6_takes_49 rfl (by decide) ?_
      have hf := fgj (n := 7) (by omega) (by decide) ej
      have e2 : rst st 1 x = some (j, st.2.1, st.2.2.1, st.2.2.2.1, st.2.2.2.2.1, st.2.2.2.2.2) := by rw [er, hf.2, if_pos ⟨hf.1, j1⟩]
      have n0 : st.2.2.1 = 0 := i6 (by decide)
      refine ⟨Or.inl ⟨rfl, _, e2, ?_, fun h => absurd h (by decide), RI_step hI e2⟩, Fr.i (by simp)⟩
      refine ⟨?_, ?_, ?_, ?_, ?_, ?_, ?_, ?_⟩
      · exact uI_same w p 0 (nI j)
      · exact (uI_ne (by decide)).trans hC
      · exact (uI_ne (by decide)).trans hn
      · exact (uI_ne (by decide)).trans hsh
      · exact (uI_ne (by decide)).trans hlo
      · intro s hs
        exact (uI_nep cns).trans (hro s hs)
      · intro s hs
        exact (uI_nep cns).trans (hco s hs)
      · intro s hs
        exact (uI_nep cns).trans (hdt s hs)
    · refine R_rz dX6_takes_49 rfl (by decide) ?_
      refine ⟨Or.inr ⟨rfl, ?_⟩, Fr.rf⟩
      rw [er, if_neg]
      rintro ⟨h1, h2⟩
      have h3 := fgN_eq (by decide) h1
      exact hno ⟨fgN x, h2, by omega, h3.2⟩
  by_cases k2 : k = 2
  · subst k2
    have er : rst st 2 x = if inN (fgI x) 7 ∧ 1 ≤ fgN x then some (st.1, fgN x, st.2.2.1, st.2.2.2.1, st.2.2.2.2.1, st.2.2.2.2.2) else none := by
      unfold rst
      rw [if_neg (by decide), if_neg (by decide), if_pos rfl]
    refine R_tableIn (q := 50) dX6_takes_6 (by decide) (by decide) (by rfl) (by decide) ?_
    refine R_aload_n (i := 0) (q := 51) dX6_takes_50 rfl rfl rfl ?_
    refine R_iload_n (i := 3) (q := 52) dX6_takes_51 rfl rfl rfl ?_
    refine R_cV1i (M' := MX5_tellColumns) (q := 55) dX6_takes_52 ml_X6_32 mk_X5_tellColumns (Nat.le_of_ble_eq_true rfl) rfl (c_tellColumns) ?_
    rintro z w1 hz
    rcases hz with ⟨rfl, j, j1, j6, ej, rfl⟩ | ⟨rfl, rfl, hno⟩
    · refine R_rz dX6_takes_55 rfl (by decide) ?_
      have hf := fgj (n := 7) (by omega) (by decide) ej
      have e2 : rst st 2 x = some (st.1, j, st.2.2.1, st.2.2.2.1, st.2.2.2.2.1, st.2.2.2.2.2) := by rw [er, hf.2, if_pos ⟨hf.1, j1⟩]
      refine ⟨Or.inl ⟨rfl, _, e2, ?_, fun h h2 => absurd h2 (by decide), RI_step hI e2⟩, Fr.i (by simp)⟩
      refine ⟨?_, ?_, ?_, ?_, ?_, ?_, ?_, ?_⟩
      · exact (uI_ne (by decide)).trans hR
      · exact uI_same w p 1 (nI j)
      · exact (uI_ne (by decide)).trans hn
      · exact (uI_ne (by decide)).trans hsh
      · exact (uI_ne (by decide)).trans hlo
      · intro s hs
        exact (uI_nep cns).trans (hro s hs)
      · intro s hs
        exact (uI_nep cns).trans (hco s hs)
      · intro s hs
        exact (uI_nep cns).trans (hdt s hs)
    · refine R_rz dX6_takes_55 rfl (by decide) ?_
      refine ⟨Or.inr ⟨rfl, ?_⟩, Fr.rf⟩
      rw [er, if_neg]
      rintro ⟨h1, h2⟩
      have h3 := fgN_eq (by decide) h1
      exact hno ⟨fgN x, h2, by omega, h3.2⟩
  refine R_tableOut (q := 56) dX6_takes_6 (Or.inr (by rw [nI_toInt (by omega)]; omega)) (by decide) ?_
  refine R_iload_n (i := 1) (q := 57) dX6_takes_56 rfl rfl rfl ?_
  refine R_iconst (v := nI 3) (q := 58) dX6_takes_57 (by decide) rfl ?_
  refine R_iremN (by omega) (by omega) (by omega) (q := 59) dX6_takes_58 rfl ?_
  have hm3 : k % 3 < 3 := Nat.mod_lt _ (by decide)
  by_cases m0 : k % 3 = 0
  · rw [m0]
    have er : rst st k x = if x = nI 105 ∧ rsRoom st then some st else none := by
      unfold rst
      rw [if_neg k0, if_neg k1, if_neg k2, if_pos m0]
    refine R_lookup (q := 84) dX6_takes_59 (by decide) (by rfl) (by decide) ?_
    refine R_iload_n (i := 2) (q := 85) dX6_takes_84 rfl rfl rfl ?_
    refine R_bipush (v := nI 105) (q := 87) dX6_takes_85 (by decide) rfl ?_
    refine R_icmp_ne (tgt := 101) (q := 90) dX6_takes_87 (by decide) rfl (fun c1 => ?_) (fun c1 => ?_)
    · refine R_iconst (v := nI 0) (q := 102) dX6_takes_101 (by decide) rfl ?_
      refine R_rz dX6_takes_102 rfl (by decide) ?_
      exact ⟨Or.inr ⟨rfl, by rw [er, if_neg (fun h => c1 h.1)]⟩, Fr.rf⟩
    · refine R_aload_n (i := 0) (q := 91) dX6_takes_90 rfl rfl rfl ?_
      refine R_cV0i (M' := MX5_hasRoom) (q := 94) dX6_takes_91 ml_X6_35 mk_X5_hasRoom (Nat.le_of_ble_eq_true rfl) rfl (c_hasRoom hR hC hn hR6 hC6 hN20) ?_
      rintro _ w ⟨rfl, rfl⟩
      refine R_if_eqB (tgt := 101) (q := 97) dX6_takes_94 (by decide) rfl (fun c2 => ?_) (fun c2 => ?_)
      · refine R_iconst (v := nI 0) (q := 102) dX6_takes_101 (by decide) rfl ?_
        refine R_rz dX6_takes_102 rfl (by decide) ?_
        exact ⟨Or.inr ⟨rfl, by rw [er, if_neg (fun h => c2 h.2)]⟩, Fr.rf⟩
      · refine R_iconst (v := nI 1) (q := 98) dX6_takes_97 (by decide) rfl ?_
        refine R_goto (q := 102) dX6_takes_98 (by decide) ?_
        refine R_rz dX6_takes_102 rfl (by decide) ?_
        have e2 : rst st k x = some st := by rw [er, if_pos ⟨c1, c2⟩]
        exact ⟨Or.inl ⟨rfl, st, e2, hS, fun _ h => absurd h (by omega), RI_step hI e2⟩, Fr.rf⟩
  have hroom := i7 (by omega) m0
  by_cases m1 : k % 3 = 1
  · rw [m1]
    have er : rst st k x = if inN (fgI x) st.1 ∧ ct (fun s => st.2.2.2.1 s == fgN x) st.2.2.1 < st.2.1 then some (st.1, st.2.1, st.2.2.1, st.2.2.2.1, st.2.2.2.2.1, fgN x) else none := by
      unfold rst
      rw [if_neg k0, if_neg k1, if_neg k2, if_neg m0, if_pos m1]
    refine R_lookup (q := 103) dX6_takes_59 (by decide) (by rfl) (by decide) ?_
    refine R_aload_n (i := 0) (q := 104) dX6_takes_103 rfl rfl rfl ?_
    refine R_iload_n (i := 3) (q := 105) dX6_takes_104 rfl rfl rfl ?_
    refine R_cV1i (M' := MX5_tellRow) (q := 108) dX6_takes_105 ml_X6_39 mk_X5_tellRow (Nat.le_of_ble_eq_true rfl) rfl (c_tellRow hS hR6 hC6 hN20 (fun s hs => (i4 s hs).1)) ?_
    rintro z w1 hz
    rcases hz with ⟨rfl, j, j1, ej, j2, j3, rfl⟩ | ⟨rfl, rfl, hno⟩
    · refine R_rz dX6_takes_108 rfl (by decide) ?_
      have j1 : j < st.1 := j1
      have hf := fgj (n := st.1) j1 (by omega) ej
      have e2 : rst st k x = some (st.1, st.2.1, st.2.2.1, st.2.2.2.1, st.2.2.2.2.1, j) := by
        rw [er, hf.2, if_pos ⟨hf.1, j3⟩]
      refine ⟨Or.inl ⟨rfl, _, e2, ?_, fun _ _ => ?_, RI_step hI e2⟩, Fr.i (by simp)⟩
      · refine ⟨?_, ?_, ?_, ?_, ?_, ?_, ?_, ?_⟩
        · exact (uI_nep cns2).trans hR
        · exact (uI_nep cns2).trans hC
        · exact (uI_nep cns2).trans hn
        · exact (uI_nep cns2).trans hsh
        · exact (uI_nep cns2).trans hlo
        · intro s hs
          exact (uI_ne (Nat.ne_of_lt hs)).trans (hro s hs)
        · intro s hs
          exact (uI_nep (by simp)).trans (hco s hs)
        · intro s hs
          exact (uI_nep (by simp)).trans (hdt s hs)
      · exact uI_same w (5 :: p) _ (nI j)
    · refine R_rz dX6_takes_108 rfl (by decide) ?_
      refine ⟨Or.inr ⟨rfl, ?_⟩, Fr.rf⟩
      rw [er, if_neg]
      rintro ⟨h1, h2⟩
      have h3 := fgN_eq (by omega) h1
      exact hno ⟨fgN x, h3.1, h3.2, hroom, h2⟩
  have m2 : k % 3 = 2 := by omega
  rw [m2]
  have er : rst st k x = if inN (fgI x) st.2.1 ∧ ∀ s, s < st.2.2.1 → ¬ (st.2.2.2.1 s = st.2.2.2.2.2 ∧ st.2.2.2.2.1 s = fgN x) then some (st.1, st.2.1, st.2.2.1 + 1, fnU st.2.2.2.1 st.2.2.1 st.2.2.2.2.2, fnU st.2.2.2.2.1 st.2.2.1 (fgN x), st.2.2.2.2.2) else none := by
    unfold rst
    rw [if_neg k0, if_neg k1, if_neg k2, if_neg m0, if_neg m1]
  have hcr1 := i8 (by omega) m2
  refine R_lookup (q := 109) dX6_takes_59 (by decide) (by rfl) (by decide) ?_
  refine R_aload_n (i := 0) (q := 110) dX6_takes_109 rfl rfl rfl ?_
  refine R_iload_n (i := 3) (q := 111) dX6_takes_110 rfl rfl rfl ?_
  refine R_cV1i (M' := MX5_tellColumn) (q := 114) dX6_takes_111 ml_X6_42 mk_X5_tellColumn (Nat.le_of_ble_eq_true rfl) rfl (c_tellColumn hS (hcr (by omega) m2) (by omega) hR6 hC6 hN20 i4) ?_
  rintro z w1 hz
  rcases hz with ⟨rfl, j, j1, ej, j2, j3, rfl⟩ | ⟨rfl, rfl, hno⟩
  · refine R_rz dX6_takes_114 rfl (by decide) ?_
    have j1 : j < st.2.1 := j1
    have hf := fgj (n := st.2.1) j1 (by omega) ej
    have e2 : rst st k x = some (st.1, st.2.1, st.2.2.1 + 1, fnU st.2.2.2.1 st.2.2.1 st.2.2.2.2.2, fnU st.2.2.2.2.1 st.2.2.1 j, st.2.2.2.2.2) := by
      rw [er, hf.2, if_pos ⟨hf.1, j3⟩]
    refine ⟨Or.inl ⟨rfl, _, e2, ?_, fun _ h => absurd h (by omega), RI_step hI e2⟩, (Fr.i (by simp)).tr (Fr.i (by simp))⟩
    refine ⟨?_, ?_, ?_, ?_, ?_, ?_, ?_, ?_⟩
    · exact (uI_ne (by decide)).trans ((uI_nep cns2).trans hR)
    · exact (uI_ne (by decide)).trans ((uI_nep cns2).trans hC)
    · exact uI_same _ p 2 _
    · exact (uI_ne (by decide)).trans ((uI_nep cns2).trans hsh)
    · exact (uI_ne (by decide)).trans ((uI_nep cns2).trans hlo)
    · intro s hs
      have hs : s < st.2.2.1 + 1 := hs
      refine (uI_nep cns).trans ((uI_nep (by simp)).trans ?_)
      show _ = nI (fnU st.2.2.2.1 st.2.2.1 st.2.2.2.2.2 s)
      unfold fnU
      by_cases hh : s = st.2.2.1
      · rw [if_pos hh, hh]
        exact hcr (by omega) m2
      · rw [if_neg hh]
        exact hro s (show s < st.2.2.1 by omega)
    · intro s hs
      have hs : s < st.2.2.1 + 1 := hs
      refine (uI_nep cns).trans ?_
      show _ = nI (fnU st.2.2.2.2.1 st.2.2.1 j s)
      unfold fnU
      by_cases hh : s = st.2.2.1
      · rw [if_pos hh, hh]
        exact uI_same w (6 :: p) _ (nI j)
      · rw [if_neg hh]
        exact (uI_ne hh).trans (hco s (show s < st.2.2.1 by omega))
    · intro s hs
      exact (uI_nep cns).trans ((uI_nep (by simp)).trans (hdt s hs))
  · refine R_rz dX6_takes_114 rfl (by decide) ?_
    refine ⟨Or.inr ⟨rfl, ?_⟩, Fr.rf⟩
    rw [er, if_neg]
    rintro ⟨h1, h2⟩
    have h3 := fgN_eq (by omega) h1
    exact hno ⟨fgN x, h3.1, h3.2, hroom, h2⟩
theorem l_readInto {len : Nat} {tx : Nat → Int32} {w0 : Wd} (hlen : len ≤ 70) (hl0 : w0.1 t 1 = nI len) (htx : ∀ i, i < len → w0.1 (0 :: t) i = tx i) (ht : t ∉ [p, 5 :: p, 6 :: p, 7 :: p]) (ht0 : (0 :: t) ∉ [p, 5 :: p, 6 :: p, 7 :: p]) : ∀ (j k : Nat) (w : Wd) (st : RS), len ≤ k + j → k ≤ len → rdL tx k = some st → RdA w p st k → Fr [p, 5 :: p, 6 :: p, 7 :: p] w0 w → Wq X 0 (d + 3) MX6_readInto 6 [(2, vI (nI k)), (0, vR 6 0 t), (1, vR 5 0 p)] [] w (qI fun x w' => RdQ tx len x (fun S => StA w' p S) ∧ Fr [p, 5 :: p, 6 :: p, 7 :: p] w0 w') := by
  intro j
  induction j with
  | zero =>
    intro k w st h1 h2 hrd hA hF
    have hl9 : w.1 t 1 = nI len := by rw [hF.2 t ht]; exact hl0
    refine R_iload_n (i := 2) (q := 7) dX6_readInto_6 rfl rfl rfl ?_
    refine R_aload_n (i := 0) (q := 8) dX6_readInto_7 rfl rfl rfl ?_
    refine R_getI' (q := 11) dX6_readInto_8 fl_X6_15 rfl (hl9) rfl ?_
    refine R_icmp_geN (by omega) (by omega) (tgt := 36) (q := 14) dX6_readInto_11 (by decide) rfl (fun c1 => ?_) (fun c1 => ?_)
    · obtain rfl : k = len := by omega
      refine R_aload_n (i := 0) (q := 37) dX6_readInto_36 rfl rfl rfl ?_
      refine R_getI' (q := 40) dX6_readInto_37 fl_X6_15 rfl (hl9) rfl ?_
      refine R_if_le (tgt := 57) (q := 43) dX6_readInto_40 (by decide) rfl (fun c2 => ?_) (fun c2 => ?_)
      · refine R_aload_n (i := 0) (q := 58) dX6_readInto_57 rfl rfl rfl ?_
        refine R_getI' (q := 61) dX6_readInto_58 fl_X6_15 rfl (hl9) rfl ?_
        refine R_ri dX6_readInto_61 rfl ?_
        refine ⟨Or.inr ⟨st, hrd, Or.inr ⟨?_, rfl⟩⟩, hF⟩
        rintro ⟨h0, -⟩
        exact nI_nle h0 (by omega) c2
      · have hpos : 0 < k := by
          rcases Nat.eq_zero_or_pos k with h | h
          · exact absurd (by rw [h]; decide) c2
          · exact h
        refine R_aload_n (i := 0) (q := 44) dX6_readInto_43 rfl rfl rfl ?_
        refine R_getI' (q := 47) dX6_readInto_44 fl_X6_15 rfl (hl9) rfl ?_
        refine R_iconst (v := nI 3) (q := 48) dX6_readInto_47 (by decide) rfl ?_
        refine R_iremN (by omega) (by omega) (by omega) (q := 49) dX6_readInto_48 rfl ?_
        refine R_if_neN (by omega) (tgt := 57) (q := 52) dX6_readInto_49 (by decide) rfl (fun c3 => ?_) (fun c3 => ?_)
        · refine R_aload_n (i := 0) (q := 58) dX6_readInto_57 rfl rfl rfl ?_
          refine R_getI' (q := 61) dX6_readInto_58 fl_X6_15 rfl (hl9) rfl ?_
          refine R_ri dX6_readInto_61 rfl ?_
          exact ⟨Or.inr ⟨st, hrd, Or.inr ⟨fun h => c3 h.2, rfl⟩⟩, hF⟩
        · refine R_bipush (v := (-9)) (q := 54) dX6_readInto_52 (by decide) rfl ?_
          refine R_goto (q := 61) dX6_readInto_54 (by decide) ?_
          refine R_ri dX6_readInto_61 rfl ?_
          exact ⟨Or.inr ⟨st, hrd, Or.inl ⟨hpos, c3, rfl, hA.1⟩⟩, hF⟩
    · omega
  | succ j ih =>
    intro k w st h1 h2 hrd hA hF
    have hl9 : w.1 t 1 = nI len := by rw [hF.2 t ht]; exact hl0
    refine R_iload_n (i := 2) (q := 7) dX6_readInto_6 rfl rfl rfl ?_
    refine R_aload_n (i := 0) (q := 8) dX6_readInto_7 rfl rfl rfl ?_
    refine R_getI' (q := 11) dX6_readInto_8 fl_X6_15 rfl (hl9) rfl ?_
    refine R_icmp_geN (by omega) (by omega) (tgt := 36) (q := 14) dX6_readInto_11 (by decide) rfl (fun c1 => ?_) (fun c1 => ?_)
    · obtain rfl : k = len := by omega
      refine R_aload_n (i := 0) (q := 37) dX6_readInto_36 rfl rfl rfl ?_
      refine R_getI' (q := 40) dX6_readInto_37 fl_X6_15 rfl (hl9) rfl ?_
      refine R_if_le (tgt := 57) (q := 43) dX6_readInto_40 (by decide) rfl (fun c2 => ?_) (fun c2 => ?_)
      · refine R_aload_n (i := 0) (q := 58) dX6_readInto_57 rfl rfl rfl ?_
        refine R_getI' (q := 61) dX6_readInto_58 fl_X6_15 rfl (hl9) rfl ?_
        refine R_ri dX6_readInto_61 rfl ?_
        refine ⟨Or.inr ⟨st, hrd, Or.inr ⟨?_, rfl⟩⟩, hF⟩
        rintro ⟨h0, -⟩
        exact nI_nle h0 (by omega) c2
      · have hpos : 0 < k := by
          rcases Nat.eq_zero_or_pos k with h | h
          · exact absurd (by rw [h]; decide) c2
          · exact h
        refine R_aload_n (i := 0) (q := 44) dX6_readInto_43 rfl rfl rfl ?_
        refine R_getI' (q := 47) dX6_readInto_44 fl_X6_15 rfl (hl9) rfl ?_
        refine R_iconst (v := nI 3) (q := 48) dX6_readInto_47 (by decide) rfl ?_
        refine R_iremN (by omega) (by omega) (by omega) (q := 49) dX6_readInto_48 rfl ?_
        refine R_if_neN (by omega) (tgt := 57) (q := 52) dX6_readInto_49 (by decide) rfl (fun c3 => ?_) (fun c3 => ?_)
        · refine R_aload_n (i := 0) (q := 58) dX6_readInto_57 rfl rfl rfl ?_
          refine R_getI' (q := 61) dX6_readInto_58 fl_X6_15 rfl (hl9) rfl ?_
          refine R_ri dX6_readInto_61 rfl ?_
          exact ⟨Or.inr ⟨st, hrd, Or.inr ⟨fun h => c3 h.2, rfl⟩⟩, hF⟩
        · refine R_bipush (v := (-9)) (q := 54) dX6_readInto_52 (by decide) rfl ?_
          refine R_goto (q := 61) dX6_readInto_54 (by decide) ?_
          refine R_ri dX6_readInto_61 rfl ?_
          exact ⟨Or.inr ⟨st, hrd, Or.inl ⟨hpos, c3, rfl, hA.1⟩⟩, hF⟩
    · have htx9 : w.1 (0 :: t) k = tx k := by rw [hF.2 _ ht0]; exact htx k c1
      refine R_aload_n (i := 1) (q := 15) dX6_readInto_14 rfl rfl rfl ?_
      refine R_iload_n (i := 2) (q := 16) dX6_readInto_15 rfl rfl rfl ?_
      refine R_aload_n (i := 0) (q := 17) dX6_readInto_16 rfl rfl rfl ?_
      refine R_getR (q := 20) dX6_readInto_17 fl_X6_9 rfl (by decide) rfl ?_
      refine R_iload_n (i := 2) (q := 21) dX6_readInto_20 rfl rfl rfl ?_
      refine R_iald' (q := 22) dX6_readInto_21 (rfl) (by omega) (by decide) (htx9) rfl ?_
      refine R_cS3i (M' := MX6_takes) (q := 25) dX6_readInto_22 ml_X6_24 mk_X6_takes (Nat.le_of_ble_eq_true rfl) rfl (c_takes (by omega) hA) ?_
      rintro z w1 ⟨hz, hF1⟩
      have hF2 := hF.tr (hF1.up (G := [p, 5 :: p, 6 :: p, 7 :: p]) (by simp))
      have hnx : rdL tx (k + 1) = rst st k (tx k) := by
        simp only [rdL, hrd]
      rcases hz with ⟨rfl, st', e, hA'⟩ | ⟨rfl, e⟩
      · refine R_if_ne (tgt := 30) (q := 28) dX6_readInto_25 (by decide) rfl (fun c4 => ?_) (fun c4 => ?_)
        · first | refine R_iincN (q := 33) (loc' := [(2, _), (0, _), (1, _)]) dX6_readInto_30 (by rfl) (by decide) (by rfl) rfl ?_ | refine R_iinc (q := 33) (loc' := [(2, _), (0, _), (1, _)]) dX6_readInto_30 (by rfl) (by rfl) (by decide) (by rfl) rfl ?_
          refine R_goto (q := 6) dX6_readInto_33 (by decide) ?_
          exact ih (k + 1) w1 st' (by omega) (by omega) (by rw [hnx, e]) hA' hF2
        · exact absurd c4 (by decide)
      · refine R_if_ne (tgt := 30) (q := 28) dX6_readInto_25 (by decide) rfl (fun c4 => ?_) (fun c4 => ?_)
        · exact absurd rfl c4
        · refine R_iload_n (i := 2) (q := 29) dX6_readInto_28 rfl rfl rfl ?_
          refine R_ri dX6_readInto_29 rfl ?_
          exact ⟨Or.inl ⟨k, c1, ⟨st, hrd⟩, by rw [hnx, e], rfl⟩, hF2⟩
theorem c_readInto {len : Nat} {tx : Nat → Int32} (hlen : len ≤ 70) (hl0 : w.1 t 1 = nI len) (htx : ∀ i, i < len → w.1 (0 :: t) i = tx i) (ht : t ∉ [p, 5 :: p, 6 :: p, 7 :: p]) (ht0 : (0 :: t) ∉ [p, 5 :: p, 6 :: p, 7 :: p]) : Ct X 0 (d + 3) MX6_readInto [vR 6 0 t, vR 5 0 p] w (qI fun x w' => RdQ tx len x (fun S => StA w' p S) ∧ Fr [p, 5 :: p, 6 :: p, 7 :: p] w w') := by
  refine Ct.of (by decide) rfl (Nat.le_of_ble_eq_true rfl) ?_
  show Wq _ _ _ _ 0 [(0, _), (1, _)] [] _ _
  refine R_aload_n (i := 1) (q := 1) dX6_readInto_0 rfl rfl rfl ?_
  refine R_cV0v (M' := MX5_renew) (q := 4) dX6_readInto_1 ml_X6_19 mk_X5_renew (Nat.le_of_ble_eq_true rfl) rfl (c_renew (fun _ => 0) (fun _ => 0)) ?_
  rintro w1 ⟨hS1, hF1⟩
  refine R_iconst (v := nI 0) (q := 5) dX6_readInto_4 (by decide) rfl ?_
  refine R_istore_n (i := 2) (q := 6) (loc' := [(2, _), (0, _), (1, _)]) dX6_readInto_5 rfl (by decide) (by rfl) rfl ?_
  exact l_readInto hlen hl0 htx ht ht0 len 0 w1 rs0 (by omega) (by omega) rfl ⟨hS1, fun h => absurd h (by decide), RI_0⟩ (hF1.up (by simp))
end TX
