section OU
variable {X : Cx} {d : Nat} {p : List Nat} {w : Wd}
theorem c_betw0 {dn j : Nat} {D : Nat → Nat} (hj : j < 4) (hdn : dn ≤ 4) (h2 : dn < 4 → w.1 [1, 7] (dn * 4 + j) = nI (D (dn * 4 + j))) : Ct X 0 d MX2_between [vR 2 0 [7], vI (nI 0 - nI 1), vI (nI dn), vI (nI j)] w (qI fun y w' => y = nI (bw D 0 dn j) ∧ w' = w) := by
  have e : bw D 0 dn j = if 4 ≤ dn then 0 else D (dn * 4 + j) := if_pos rfl
  refine Ct.of (by decide) rfl (Nat.le_of_ble_eq_true rfl) ?_
  show Wq _ _ _ _ 0 [(0, _), (1, _), (2, _), (3, _)] [] _ _
  refine R_iload_n (i := 1) (q := 1) dX2_between_0 rfl rfl rfl ?_
  refine R_if_ge (tgt := 11) (q := 4) dX2_between_1 (by decide) rfl (fun c1 => ?_) (fun c1 => ?_)
  · exact absurd c1 (by decide)
  · refine R_iload_n (i := 2) (q := 5) dX2_between_4 rfl rfl rfl ?_
    refine R_iconst (v := nI 4) (q := 6) dX2_between_5 (by decide) rfl ?_
    refine R_icmp_ltN (by omega) (by omega) (tgt := 11) (q := 9) dX2_between_6 (by decide) rfl (fun c2 => ?_) (fun c2 => ?_)
    · refine R_iload_n (i := 1) (q := 12) dX2_between_11 rfl rfl rfl ?_
      refine R_if_ge (tgt := 26) (q := 15) dX2_between_12 (by decide) rfl (fun c3 => ?_) (fun c3 => ?_)
      · exact absurd c3 (by decide)
      · refine R_aload_n (i := 0) (q := 16) dX2_between_15 rfl rfl rfl ?_
        refine R_getR (q := 19) dX2_between_16 fl_X2_18 rfl (by decide) rfl ?_
        refine R_iload_n (i := 2) (q := 20) dX2_between_19 rfl rfl rfl ?_
        refine R_iconst (v := nI 4) (q := 21) dX2_between_20 (by decide) rfl ?_
        first | refine R_imulN (q := 22) dX2_between_21 rfl ?_ | refine R_imul (q := 22) dX2_between_21 rfl ?_
        refine R_iload_n (i := 3) (q := 23) dX2_between_22 rfl rfl rfl ?_
        first | refine R_iaddN (q := 24) dX2_between_23 rfl ?_ | refine R_iadd (q := 24) dX2_between_23 rfl ?_
        refine R_iald' (q := 25) dX2_between_24 (rfl) (by omega) (by decide) (h2 c2) rfl ?_
        refine R_ri dX2_between_25 rfl ?_
        exact ⟨by rw [e, if_neg (by omega)], rfl⟩
    · refine R_iconst (v := nI 0) (q := 10) dX2_between_9 (by decide) rfl ?_
      refine R_ri dX2_between_10 rfl ?_
      exact ⟨by rw [e, if_pos c2], rfl⟩
theorem c_betw1 {u dn j : Nat} {D : Nat → Nat} (hj : j < 4) (hu : u < 4) (hdn : dn ≤ 4) (hD : ∀ k, D k ≤ 20) (h1 : w.1 [1, 7] (u * 4 + j) = nI (D (u * 4 + j))) (h2 : dn < 4 → w.1 [1, 7] (dn * 4 + j) = nI (D (dn * 4 + j))) : Ct X 0 d MX2_between [vR 2 0 [7], vI (nI u), vI (nI dn), vI (nI j)] w (qI fun y w' => y = nI (bw D (u + 1) dn j) ∧ w' = w) := by
  have e : bw D (u + 1) dn j = if 4 ≤ dn then D (u * 4 + j) else (D (u * 4 + j) + D (dn * 4 + j)) / 2 := by
    unfold bw
    rw [if_neg (by omega), Nat.add_sub_cancel]
  have d1 := hD (u * 4 + j)
  have d2 := hD (dn * 4 + j)
  have hpos : 0 ≤ nI u := nI_pos' (by omega)
  refine Ct.of (by decide) rfl (Nat.le_of_ble_eq_true rfl) ?_
  show Wq _ _ _ _ 0 [(0, _), (1, _), (2, _), (3, _)] [] _ _
  refine R_iload_n (i := 1) (q := 1) dX2_between_0 rfl rfl rfl ?_
  refine R_if_ge (tgt := 11) (q := 4) dX2_between_1 (by decide) rfl (fun c1 => ?_) (fun c1 => ?_)
  · refine R_iload_n (i := 1) (q := 12) dX2_between_11 rfl rfl rfl ?_
    refine R_if_ge (tgt := 26) (q := 15) dX2_between_12 (by decide) rfl (fun c3 => ?_) (fun c3 => ?_)
    · refine R_iload_n (i := 2) (q := 27) dX2_between_26 rfl rfl rfl ?_
      refine R_iconst (v := nI 4) (q := 28) dX2_between_27 (by decide) rfl ?_
      refine R_icmp_ltN (by omega) (by omega) (tgt := 42) (q := 31) dX2_between_28 (by decide) rfl (fun c2 => ?_) (fun c2 => ?_)
      · refine R_aload_n (i := 0) (q := 43) dX2_between_42 rfl rfl rfl ?_
        refine R_getR (q := 46) dX2_between_43 fl_X2_18 rfl (by decide) rfl ?_
        refine R_iload_n (i := 1) (q := 47) dX2_between_46 rfl rfl rfl ?_
        refine R_iconst (v := nI 4) (q := 48) dX2_between_47 (by decide) rfl ?_
        first | refine R_imulN (q := 49) dX2_between_48 rfl ?_ | refine R_imul (q := 49) dX2_between_48 rfl ?_
        refine R_iload_n (i := 3) (q := 50) dX2_between_49 rfl rfl rfl ?_
        first | refine R_iaddN (q := 51) dX2_between_50 rfl ?_ | refine R_iadd (q := 51) dX2_between_50 rfl ?_
        refine R_iald' (q := 52) dX2_between_51 (rfl) (by omega) (by decide) (h1) rfl ?_
        refine R_aload_n (i := 0) (q := 53) dX2_between_52 rfl rfl rfl ?_
        refine R_getR (q := 56) dX2_between_53 fl_X2_18 rfl (by decide) rfl ?_
        refine R_iload_n (i := 2) (q := 57) dX2_between_56 rfl rfl rfl ?_
        refine R_iconst (v := nI 4) (q := 58) dX2_between_57 (by decide) rfl ?_
        first | refine R_imulN (q := 59) dX2_between_58 rfl ?_ | refine R_imul (q := 59) dX2_between_58 rfl ?_
        refine R_iload_n (i := 3) (q := 60) dX2_between_59 rfl rfl rfl ?_
        first | refine R_iaddN (q := 61) dX2_between_60 rfl ?_ | refine R_iadd (q := 61) dX2_between_60 rfl ?_
        refine R_iald' (q := 62) dX2_between_61 (rfl) (by omega) (by decide) (h2 c2) rfl ?_
        first | refine R_iaddN (q := 63) dX2_between_62 rfl ?_ | refine R_iadd (q := 63) dX2_between_62 rfl ?_
        refine R_iconst (v := nI 2) (q := 64) dX2_between_63 (by decide) rfl ?_
        refine R_idivN (by omega) (by omega) (by omega) (q := 65) dX2_between_64 rfl ?_
        refine R_ri dX2_between_65 rfl ?_
        exact ⟨by rw [e, if_neg (by omega)], rfl⟩
      · refine R_aload_n (i := 0) (q := 32) dX2_between_31 rfl rfl rfl ?_
        refine R_getR (q := 35) dX2_between_32 fl_X2_18 rfl (by decide) rfl ?_
        refine R_iload_n (i := 1) (q := 36) dX2_between_35 rfl rfl rfl ?_
        refine R_iconst (v := nI 4) (q := 37) dX2_between_36 (by decide) rfl ?_
        first | refine R_imulN (q := 38) dX2_between_37 rfl ?_ | refine R_imul (q := 38) dX2_between_37 rfl ?_
        refine R_iload_n (i := 3) (q := 39) dX2_between_38 rfl rfl rfl ?_
        first | refine R_iaddN (q := 40) dX2_between_39 rfl ?_ | refine R_iadd (q := 40) dX2_between_39 rfl ?_
        refine R_iald' (q := 41) dX2_between_40 (rfl) (by omega) (by decide) (h1) rfl ?_
        refine R_ri dX2_between_41 rfl ?_
        exact ⟨by rw [e, if_pos c2], rfl⟩
    · exact absurd hpos c3
  · exact absurd hpos c1
theorem sub_dec (v : Nat) : nI v + Int32.ofInt (-1) = nI v - nI 1 := by
  rw [Int32.sub_eq_add_neg]
  rfl
theorem l_up {m l : Nat} {b : Nat → Bool} (hm : w.1 [7] 2 = nI m) (hm16 : m < 16) (hb : ∀ k, k < 4 → bitN m k = if b k then 1 else 0) (Q : Option AV → Wd → Prop) : ∀ (u : Nat), u ≤ 4 → Wq X 0 (d + 1) MX2_fillBlank 22 [(2, vI (nI (uv b u) - nI 1)), (0, vR 2 0 [7]), (1, vI (nI l))] [] w Q → Wq X 0 (d + 1) MX2_fillBlank 4 [(2, vI (nI u - nI 1)), (0, vR 2 0 [7]), (1, vI (nI l))] [] w Q := by
  intro u
  induction u with
  | zero =>
    intro h1 kk
    refine R_iload_n (i := 2) (q := 5) dX2_fillBlank_4 rfl rfl rfl ?_
    refine R_if_lt (tgt := 22) (q := 8) dX2_fillBlank_5 (by decide) rfl (fun c1 => ?_) (fun c1 => ?_)
    · exact kk
    · exact absurd (by decide) c1
  | succ u ih =>
    intro h1 kk
    have e0 : nI (u + 1) - nI 1 = nI u := by rw [pk_sub (by omega)]; rfl
    refine R_iload_n (i := 2) (q := 5) dX2_fillBlank_4 rfl rfl rfl ?_
    refine R_if_lt (tgt := 22) (q := 8) dX2_fillBlank_5 (by decide) rfl (fun c1 => ?_) (fun c1 => ?_)
    · exact absurd (e0 ▸ c1) (nI_pos (by omega))
    · refine R_aload_n (i := 0) (q := 9) dX2_fillBlank_8 rfl rfl rfl ?_
      rw [e0]
      refine R_iload_n (i := 2) (q := 10) dX2_fillBlank_9 rfl rfl rfl ?_
      refine R_cV1i (M' := MX2_isBlank) (q := 13) dX2_fillBlank_10 ml_X2_49 mk_X2_isBlank (Nat.le_of_ble_eq_true rfl) rfl (c_isBlank hm hm16 (by omega)) ?_
      rintro _ w ⟨rfl, rfl⟩
      refine R_if_eqB (tgt := 22) (q := 16) dX2_fillBlank_13 (by decide) rfl (fun c2 => ?_) (fun c2 => ?_)
      · have hbu : ¬ b u = true := fun h => c2 (by rw [hb u (by omega), if_pos h])
        simp only [uv] at kk
        rw [if_neg hbu, e0] at kk
        exact kk
      · have hbu : b u = true := by
          cases h : b u
          · rw [hb u (by omega), h] at c2
            exact absurd c2 (by decide)
          · rfl
        simp only [uv] at kk
        rw [if_pos hbu] at kk
        refine R_iinc (q := 19) (loc' := [(2, vI (nI u - nI 1)), (0, _), (1, _)]) dX2_fillBlank_16 (by rfl) (sub_dec u) (by decide) (by rfl) rfl ?_
        refine R_goto (q := 4) dX2_fillBlank_19 (by decide) ?_
        exact ih (by omega) kk
theorem l_dn {m l : Nat} {b : Nat → Bool} {x : Int32} (hm : w.1 [7] 2 = nI m) (hm16 : m < 16) (hb : ∀ k, k < 4 → bitN m k = if b k then 1 else 0) (Q : Option AV → Wd → Prop) : ∀ (f k : Nat), 4 ≤ k + f → k ≤ 4 → Wq X 0 (d + 1) MX2_fillBlank 45 [(3, vI (nI (dv b f k))), (2, vI x), (0, vR 2 0 [7]), (1, vI (nI l))] [] w Q → Wq X 0 (d + 1) MX2_fillBlank 26 [(3, vI (nI k)), (2, vI x), (0, vR 2 0 [7]), (1, vI (nI l))] [] w Q := by
  intro f
  induction f with
  | zero =>
    intro k h1 h2 kk
    refine R_iload_n (i := 3) (q := 27) dX2_fillBlank_26 rfl rfl rfl ?_
    refine R_iconst (v := nI 4) (q := 28) dX2_fillBlank_27 (by decide) rfl ?_
    refine R_icmp_geN (by omega) (by omega) (tgt := 45) (q := 31) dX2_fillBlank_28 (by decide) rfl (fun c1 => ?_) (fun c1 => ?_)
    · exact kk
    · omega
  | succ f ih =>
    intro k h1 h2 kk
    refine R_iload_n (i := 3) (q := 27) dX2_fillBlank_26 rfl rfl rfl ?_
    refine R_iconst (v := nI 4) (q := 28) dX2_fillBlank_27 (by decide) rfl ?_
    refine R_icmp_geN (by omega) (by omega) (tgt := 45) (q := 31) dX2_fillBlank_28 (by decide) rfl (fun c1 => ?_) (fun c1 => ?_)
    · simp only [dv] at kk
      rw [if_neg (by omega)] at kk
      exact kk
    · refine R_aload_n (i := 0) (q := 32) dX2_fillBlank_31 rfl rfl rfl ?_
      refine R_iload_n (i := 3) (q := 33) dX2_fillBlank_32 rfl rfl rfl ?_
      refine R_cV1i (M' := MX2_isBlank) (q := 36) dX2_fillBlank_33 ml_X2_49 mk_X2_isBlank (Nat.le_of_ble_eq_true rfl) rfl (c_isBlank hm hm16 (by omega)) ?_
      rintro _ w ⟨rfl, rfl⟩
      refine R_if_eqB (tgt := 45) (q := 39) dX2_fillBlank_36 (by decide) rfl (fun c2 => ?_) (fun c2 => ?_)
      · have hbu : ¬ b k = true := fun h => c2 (by rw [hb k (by omega), if_pos h])
        simp only [dv] at kk
        rw [if_neg (fun h => hbu h.2)] at kk
        exact kk
      · have hbu : b k = true := by
          cases h : b k
          · rw [hb k (by omega), h] at c2
            exact absurd c2 (by decide)
          · rfl
        simp only [dv] at kk
        rw [if_pos ⟨c1, hbu⟩] at kk
        first | refine R_iincN (q := 42) (loc' := [(3, _), (2, _), (0, _), (1, _)]) dX2_fillBlank_39 (by rfl) (by decide) (by rfl) rfl ?_ | refine R_iinc (q := 42) (loc' := [(3, _), (2, _), (0, _), (1, _)]) dX2_fillBlank_39 (by rfl) (by rfl) (by decide) (by rfl) rfl ?_
        refine R_goto (q := 26) dX2_fillBlank_42 (by decide) ?_
        exact ih (k + 1) (by omega) (by omega) kk
theorem l_bl3 {l u dn : Nat} {D : Nat → Nat} (hl : l < 4) (hul : u ≤ l) (hdl : l < dn) (hdn : dn ≤ 4) (hD : ∀ k, D k ≤ 20) (h1 : 0 < u → ∀ j, j < 4 → w.1 [1, 7] ((u - 1) * 4 + j) = nI (D ((u - 1) * 4 + j))) (h2 : dn < 4 → ∀ j, j < 4 → w.1 [1, 7] (dn * 4 + j) = nI (D (dn * 4 + j))) : ∀ (f i : Nat), 4 ≤ i + f → i ≤ 4 → Wq X 0 (d + 1) MX2_fillBlank 48 [(4, vI (nI i)), (3, vI (nI dn)), (2, vI (nI u - nI 1)), (0, vR 2 0 [7]), (1, vI (nI l))] [] (uA w [1, 7] (fun k => if 4 * l ≤ k ∧ k < 4 * l + i then nI (bw D u dn (k - 4 * l)) else w.1 [1, 7] k)) (qV fun w' => w' = uA w [1, 7] (fun k => if 4 * l ≤ k ∧ k < 4 * l + 4 then nI (bw D u dn (k - 4 * l)) else w.1 [1, 7] k)) := by
  have upd_eq : ∀ (i : Nat), uI (uA w [1, 7] (fun k => if 4 * l ≤ k ∧ k < 4 * l + i then nI (bw D u dn (k - 4 * l)) else w.1 [1, 7] k)) [1, 7] (l * 4 + i) (nI (bw D u dn i)) = uA w [1, 7] (fun k => if 4 * l ≤ k ∧ k < 4 * l + (i + 1) then nI (bw D u dn (k - 4 * l)) else w.1 [1, 7] k) := by
    intro i
    unfold uI uA
    dsimp only
    congr 1
    funext q
    by_cases hq : q = [1, 7]
    · simp only [if_pos hq, if_true]
      funext j
      simp only [upd]
      by_cases hj : j = l * 4 + i
      · rw [if_pos hj, if_pos (by omega), hj]
        congr 2
        omega
      · rw [if_neg hj]
        by_cases h3 : 4 * l ≤ j ∧ j < 4 * l + i
        · rw [if_pos h3, if_pos (by omega)]
        · rw [if_neg h3, if_neg (by omega)]
    · simp only [if_neg hq]
  have rd : ∀ (i k : Nat), (k < 4 * l ∨ 4 * l + 4 ≤ k) → i ≤ 4 → (uA w [1, 7] (fun k => if 4 * l ≤ k ∧ k < 4 * l + i then nI (bw D u dn (k - 4 * l)) else w.1 [1, 7] k)).1 [1, 7] k = w.1 [1, 7] k := by
    intro i k h hi
    rw [uA_same, if_neg (by omega)]
  intro f
  induction f with
  | zero =>
    intro i h3 h4
    refine R_iload (q := 50) dX2_fillBlank_48 rfl rfl ?_
    refine R_iconst (v := nI 4) (q := 51) dX2_fillBlank_50 (by decide) rfl ?_
    refine R_icmp_geN (by omega) (by omega) (tgt := 79) (q := 54) dX2_fillBlank_51 (by decide) rfl (fun c1 => ?_) (fun c1 => ?_)
    · refine R_rv dX2_fillBlank_79 rfl ?_
      have : i = 4 := by omega
      rw [this]
    · omega
  | succ f ih =>
    intro i h3 h4
    refine R_iload (q := 50) dX2_fillBlank_48 rfl rfl ?_
    refine R_iconst (v := nI 4) (q := 51) dX2_fillBlank_50 (by decide) rfl ?_
    refine R_icmp_geN (by omega) (by omega) (tgt := 79) (q := 54) dX2_fillBlank_51 (by decide) rfl (fun c1 => ?_) (fun c1 => ?_)
    · refine R_rv dX2_fillBlank_79 rfl ?_
      have : i = 4 := by omega
      rw [this]
    · refine R_aload_n (i := 0) (q := 55) dX2_fillBlank_54 rfl rfl rfl ?_
      refine R_getR (q := 58) dX2_fillBlank_55 fl_X2_18 rfl (by decide) rfl ?_
      refine R_iload_n (i := 1) (q := 59) dX2_fillBlank_58 rfl rfl rfl ?_
      refine R_iconst (v := nI 4) (q := 60) dX2_fillBlank_59 (by decide) rfl ?_
      first | refine R_imulN (q := 61) dX2_fillBlank_60 rfl ?_ | refine R_imul (q := 61) dX2_fillBlank_60 rfl ?_
      refine R_iload (q := 63) dX2_fillBlank_61 rfl rfl ?_
      first | refine R_iaddN (q := 64) dX2_fillBlank_63 rfl ?_ | refine R_iadd (q := 64) dX2_fillBlank_63 rfl ?_
      refine R_aload_n (i := 0) (q := 65) dX2_fillBlank_64 rfl rfl rfl ?_
      refine R_iload_n (i := 2) (q := 66) dX2_fillBlank_65 rfl rfl rfl ?_
      refine R_iload_n (i := 3) (q := 67) dX2_fillBlank_66 rfl rfl rfl ?_
      refine R_iload (q := 69) dX2_fillBlank_67 rfl rfl ?_
      have kk : Wq X 0 (d + 1) MX2_fillBlank 72 [(4, vI (nI i)), (3, vI (nI dn)), (2, vI (nI u - nI 1)), (0, vR 2 0 [7]), (1, vI (nI l))] [vI (nI (bw D u dn i)), vI (nI (l * 4 + i)), vR 9 16 [1, 7]] (uA w [1, 7] (fun k => if 4 * l ≤ k ∧ k < 4 * l + i then nI (bw D u dn (k - 4 * l)) else w.1 [1, 7] k)) (qV fun w' => w' = uA w [1, 7] (fun k => if 4 * l ≤ k ∧ k < 4 * l + 4 then nI (bw D u dn (k - 4 * l)) else w.1 [1, 7] k)) := by
        refine R_iast (q := 73) dX2_fillBlank_72 (rfl) (by omega) (by decide) rfl ?_
        first | refine R_iincN (q := 76) (loc' := [(4, _), (3, _), (2, _), (0, _), (1, _)]) dX2_fillBlank_73 (by rfl) (by decide) (by rfl) rfl ?_ | refine R_iinc (q := 76) (loc' := [(4, _), (3, _), (2, _), (0, _), (1, _)]) dX2_fillBlank_73 (by rfl) (by rfl) (by decide) (by rfl) rfl ?_
        refine R_goto (q := 48) dX2_fillBlank_76 (by decide) ?_
        rw [upd_eq i]
        exact ih (i + 1) (by omega) (by omega)
      rcases Nat.eq_zero_or_pos u with hu | hu
      · subst hu
        refine R_cV3i (M' := MX2_between) (q := 72) dX2_fillBlank_69 ml_X2_70 mk_X2_between (Nat.le_of_ble_eq_true rfl) rfl (c_betw0 (D := D) c1 hdn (fun h => by rw [rd i _ (by omega) h4]; exact h2 h i c1)) ?_
        rintro _ w9 ⟨rfl, rfl⟩
        exact kk
      · obtain ⟨v, rfl⟩ : ∃ v, u = v + 1 := ⟨u - 1, by omega⟩
        have e0 : nI (v + 1) - nI 1 = nI v := by rw [pk_sub (by omega)]; rfl
        rw [e0] at kk ⊢
        have h1v := h1 hu i c1
        rw [Nat.add_sub_cancel] at h1v
        refine R_cV3i (M' := MX2_between) (q := 72) dX2_fillBlank_69 ml_X2_70 mk_X2_between (Nat.le_of_ble_eq_true rfl) rfl (c_betw1 (D := D) c1 (by omega) hdn hD (by rw [rd i _ (by omega) h4]; exact h1v) (fun h => by rw [rd i _ (by omega) h4]; exact h2 h i c1)) ?_
        rintro _ w9 ⟨rfl, rfl⟩
        exact kk
theorem c_fillBlank {m l : Nat} {b : Nat → Bool} {D : Nat → Nat} (hm : w.1 [7] 2 = nI m) (hm16 : m < 16) (hb : ∀ k, k < 4 → bitN m k = if b k then 1 else 0) (hl : l < 4) (hD : ∀ k, D k ≤ 20) (hA : ∀ k, k < 16 → b (k / 4) = false → w.1 [1, 7] k = nI (D k)) : Ct X 0 (d + 1) MX2_fillBlank [vR 2 0 [7], vI (nI l)] w (qV fun w' => w' = uA w [1, 7] (fun k => if 4 * l ≤ k ∧ k < 4 * l + 4 then nI (bw D (uv b l) (dv b 4 (l + 1)) (k - 4 * l)) else w.1 [1, 7] k)) := by
  have hu := uv_le b l
  have hn := uv_nb b l
  have hdv := dv_nb b 4 (l + 1) (by omega) (by omega)
  refine Ct.of (by decide) rfl (Nat.le_of_ble_eq_true rfl) ?_
  show Wq _ _ _ _ 0 [(0, _), (1, _)] [] _ _
  refine R_iload_n (i := 1) (q := 1) dX2_fillBlank_0 rfl rfl rfl ?_
  refine R_iconst (v := nI 1) (q := 2) dX2_fillBlank_1 (by decide) rfl ?_
  refine R_isub (q := 3) dX2_fillBlank_2 rfl ?_
  refine R_istore_n (i := 2) (q := 4) (loc' := [(2, _), (0, _), (1, _)]) dX2_fillBlank_3 rfl (by decide) (by rfl) rfl ?_
  refine l_up hm hm16 hb _ l (by omega) ?_
  refine R_iload_n (i := 1) (q := 23) dX2_fillBlank_22 rfl rfl rfl ?_
  refine R_iconst (v := nI 1) (q := 24) dX2_fillBlank_23 (by decide) rfl ?_
  first | refine R_iaddN (q := 25) dX2_fillBlank_24 rfl ?_ | refine R_iadd (q := 25) dX2_fillBlank_24 rfl ?_
  refine R_istore_n (i := 3) (q := 26) (loc' := [(3, _), (2, _), (0, _), (1, _)]) dX2_fillBlank_25 rfl (by decide) (by rfl) rfl ?_
  refine l_dn hm hm16 hb _ 4 (l + 1) (by omega) (by omega) ?_
  refine R_iconst (v := nI 0) (q := 46) dX2_fillBlank_45 (by decide) rfl ?_
  refine R_istore (q := 48) (loc' := [(4, _), (3, _), (2, _), (0, _), (1, _)]) dX2_fillBlank_46 (by decide) (by rfl) rfl ?_
  have h := l_bl3 (X := X) (d := d) (w := w) (l := l) (u := uv b l) (dn := dv b 4 (l + 1)) (D := D) hl hu (by omega) (by omega) hD ?_ ?_ 4 0 (by omega) (by omega)
  · rw [uA_id w [1, 7] _ (fun k => if_neg (by omega))] at h
    exact h
  · intro h0 j hj
    rcases hn with hn | ⟨hn1, hn2⟩
    · omega
    · refine hA _ (by omega) ?_
      rw [show ((uv b l - 1) * 4 + j) / 4 = uv b l - 1 by omega]
      exact hn2
  · intro h0 j hj
    rcases hdv with hdv | ⟨h3, h4, h5⟩
    · omega
    · refine hA _ (by omega) ?_
      rw [show (dv b 4 (l + 1) * 4 + j) / 4 = dv b 4 (l + 1) by omega]
      exact h5
abbrev FO : List (List Nat) := [[7], [1, 7], [0, 0, 7], [1, 0, 7], [2, 0, 7]]
/-- what the cells of what comes out hold -/
def OutA (w : Wd) (S : Pic) (sh lo : Nat) : Prop := w.1 [7] 2 = nI (bmN (blk sh lo) 4) ∧ ∀ k, k < 16 → w.1 [1, 7] k = nI (outN S sh lo k)
/-- what is asked of a state ahead of a sending -/
def OKo (S : Pic) : Prop := pN S ≤ 20 ∧ (∀ s, s < pN S → pro S s < 6 ∧ pco S s < 6) ∧ ∀ k, k < 16 → pdt S k < 20
theorem OKS.o {S : Pic} (h : OKS S) : OKo S := by
  obtain ⟨h1, h2, h3, h4, h5, h6, h7, h8⟩ := h
  refine ⟨h3, ?_, ?_⟩
  · intro s hs
    have := h6 s hs
    omega
  · intro k hk
    rcases h8 k hk with h | h <;> omega
theorem blk_t {sh lo l : Nat} (h1 : ¬ rC lo l) (h2 : ¬ cC sh lo l) : blk sh lo l = true := by
  simp [blk, h1, h2]
theorem blk_f {sh lo l : Nat} (h : rC lo l ∨ cC sh lo l) : blk sh lo l = false := by
  unfold blk
  rcases h with h | h
  · rw [decide_eq_true h]
    rfl
  · rw [decide_eq_true h, Bool.not_true, Bool.and_false]
theorem l_send1 {S : Pic} {sh lo : Nat} {w0 : Wd} (hS0 : StA w0 p S) (hO : OKo S) (hp : p = [1] ∨ p = [2]) (hsh : sh < 4) (hlo : lo < 16) (Q : Option AV → Wd → Prop) (kk : ∀ w, w.1 [7] 2 = nI (bmN (blk sh lo) 4) → (∀ k, k < 16 → blk sh lo (k / 4) = false → w.1 [1, 7] k = nI (vk S sh lo k)) → Fr FO w0 w → Wq X 0 (d + 3) MX2_send 87 [(4, vI (nI 4)), (0, vR 2 0 [7]), (1, vR 5 0 p), (2, vI (nI sh)), (3, vI (nI lo))] [] w Q) : ∀ (f l : Nat) (w : Wd), 4 ≤ l + f → l ≤ 4 → StA w p S → GuA w [0, 7] S → w.1 [7] 2 = nI (bmN (blk sh lo) l) → (∀ k, k < 16 → k / 4 < l → blk sh lo (k / 4) = false → w.1 [1, 7] k = nI (vk S sh lo k)) → Fr FO w0 w → Wq X 0 (d + 3) MX2_send 16 [(4, vI (nI l)), (0, vR 2 0 [7]), (1, vR 5 0 p), (2, vI (nI sh)), (3, vI (nI lo))] [] w Q := by
  have q0 : p ≠ [7] := by rcases hp with rfl | rfl <;> decide
  have q5 : 5 :: p ≠ [7] := by rcases hp with rfl | rfl <;> decide
  have q6 : 6 :: p ≠ [7] := by rcases hp with rfl | rfl <;> decide
  have q7 : 7 :: p ≠ [7] := by rcases hp with rfl | rfl <;> decide
  have r0 : p ≠ [1, 7] := by rcases hp with rfl | rfl <;> decide
  have r5 : 5 :: p ≠ [1, 7] := by rcases hp with rfl | rfl <;> decide
  have r6 : 6 :: p ≠ [1, 7] := by rcases hp with rfl | rfl <;> decide
  have r7 : 7 :: p ≠ [1, 7] := by rcases hp with rfl | rfl <;> decide
  intro f
  induction f with
  | zero =>
    intro l w h1 h2 hS hG hB hA hF
    refine R_iload (q := 18) dX2_send_16 rfl rfl ?_
    refine R_iconst (v := nI 4) (q := 19) dX2_send_18 (by decide) rfl ?_
    refine R_icmp_geN (by omega) (by omega) (tgt := 87) (q := 22) dX2_send_19 (by decide) rfl (fun c1 => ?_) (fun c1 => ?_)
    · obtain rfl : l = 4 := by omega
      exact kk w hB (fun k hk hb => hA k hk (by omega) hb) hF
    · omega
  | succ f ih =>
    intro l w h1 h2 hS hG hB hA hF
    refine R_iload (q := 18) dX2_send_16 rfl rfl ?_
    refine R_iconst (v := nI 4) (q := 19) dX2_send_18 (by decide) rfl ?_
    refine R_icmp_geN (by omega) (by omega) (tgt := 87) (q := 22) dX2_send_19 (by decide) rfl (fun c1 => ?_) (fun c1 => ?_)
    · obtain rfl : l = 4 := by omega
      exact kk w hB (fun k hk hb => hA k hk (by omega) hb) hF
    · have hm4 : (l + 4 - sh) % 4 < 4 := Nat.mod_lt _ (by decide)
      refine R_iload_n (i := 3) (q := 23) dX2_send_22 rfl rfl rfl ?_
      refine R_iload (q := 25) dX2_send_23 rfl rfl ?_
      refine R_cS2i (M' := MX2_came) (q := 28) dX2_send_25 ml_X2_41 mk_X2_came (Nat.le_of_ble_eq_true rfl) rfl (c_came hlo c1) ?_
      rintro _ w ⟨rfl, rfl⟩
      refine R_istore (q := 30) (loc' := [(5, _), (4, _), (0, _), (1, _), (2, _), (3, _)]) dX2_send_28 (by decide) (by rfl) rfl ?_
      refine R_iload_n (i := 3) (q := 31) dX2_send_30 rfl rfl rfl ?_
      refine R_iload (q := 33) dX2_send_31 rfl rfl ?_
      refine R_iconst (v := nI 4) (q := 34) dX2_send_33 (by decide) rfl ?_
      first | refine R_iaddN (q := 35) dX2_send_34 rfl ?_ | refine R_iadd (q := 35) dX2_send_34 rfl ?_
      refine R_iload_n (i := 2) (q := 36) dX2_send_35 rfl rfl rfl ?_
      refine R_isubN (by omega) (q := 37) dX2_send_36 rfl ?_
      refine R_iconst (v := nI 4) (q := 38) dX2_send_37 (by decide) rfl ?_
      refine R_iremN (by omega) (by omega) (by omega) (q := 39) dX2_send_38 rfl ?_
      refine R_cS2i (M' := MX2_came) (q := 42) dX2_send_39 ml_X2_41 mk_X2_came (Nat.le_of_ble_eq_true rfl) rfl (c_came hlo hm4) ?_
      rintro _ w ⟨rfl, rfl⟩
      refine R_istore (q := 44) (loc' := [(6, _), (5, _), (4, _), (0, _), (1, _), (2, _), (3, _)]) dX2_send_42 (by decide) (by rfl) rfl ?_
      refine R_iload (q := 46) dX2_send_44 rfl rfl ?_
      have hfill : (rC lo l ∨ cC sh lo l) → Wq X 0 (d + 3) MX2_send 54 [(6, vI (bI (cC sh lo l))), (5, vI (bI (rC lo l))), (4, vI (nI l)), (0, vR 2 0 [7]), (1, vR 5 0 p), (2, vI (nI sh)), (3, vI (nI lo))] [] w Q := by
        intro hab
        refine R_aload_n (i := 0) (q := 55) dX2_send_54 rfl rfl rfl ?_
        refine R_aload_n (i := 1) (q := 56) dX2_send_55 rfl rfl rfl ?_
        refine R_iload (q := 58) dX2_send_56 rfl rfl ?_
        refine R_iload (q := 60) dX2_send_58 rfl rfl ?_
        refine R_iload (q := 62) dX2_send_60 rfl rfl ?_
        refine R_cV4v (M' := MX2_fill) (q := 65) dX2_send_62 ml_X2_45 mk_X2_fill (Nat.le_of_ble_eq_true rfl) rfl (c_ofill hS hO.1 hO.2.1 hG hO.2.2 c1 hp hab) ?_
        rintro w1 rfl
        refine R_goto (q := 81) dX2_send_65 (by decide) ?_
        first | refine R_iincN (q := 84) (loc' := [(4, _), (6, _), (5, _), (0, _), (1, _), (2, _), (3, _)]) dX2_send_81 (by rfl) (by decide) (by rfl) rfl ?_ | refine R_iinc (q := 84) (loc' := [(4, _), (6, _), (5, _), (0, _), (1, _), (2, _), (3, _)]) dX2_send_81 (by rfl) (by rfl) (by decide) (by rfl) rfl ?_
        refine R_goto (q := 16) dX2_send_84 (by decide) ?_
        refine R_loc [0, 3, 4, 5, 6] (loc' := [(4, _), (0, _), (1, _), (2, _), (3, _)]) (by rfl) ?_
        refine ih (l + 1) _ (by omega) (by omega) (hS.fr (F := [[1, 7]]) (Fr.a (by simp)) (by simpa using r0) (by simpa using r5) (by simpa using r6) (by simpa using r7)) ?_ ?_ ?_ (hF.tr (Fr.a (by simp)))
        · refine ⟨fun i hi => ?_, fun i hi => ?_⟩
          · rw [uA_ne (by decide)]; exact hG.1 i hi
          · rw [uA_ne (by decide)]; exact hG.2 i hi
        · rw [uA_ne (by decide), hB]
          simp only [bmN]
          rw [if_neg (by rw [blk_f hab]; decide), Nat.add_zero]
        · intro k hk hkl hb
          rw [uA_same]
          by_cases h9 : 4 * l ≤ k ∧ k < 4 * l + 4
          · rw [if_pos h9]
            unfold vk
            rw [show k / 4 = l by omega]
          · rw [if_neg h9]
            exact hA k hk (by omega) hb
      refine R_if_neB (tgt := 54) (q := 49) dX2_send_46 (by decide) rfl (fun c2 => ?_) (fun c2 => ?_)
      · exact hfill (Or.inl c2)
      · refine R_iload (q := 51) dX2_send_49 rfl rfl ?_
        refine R_if_eqB (tgt := 68) (q := 54) dX2_send_51 (by decide) rfl (fun c3 => ?_) (fun c3 => ?_)
        · have hbk := blk_t c2 c3
          refine R_aload_n (i := 0) (q := 69) dX2_send_68 rfl rfl rfl ?_
          refine R_dup (q := 70) dX2_send_69 rfl rfl ?_
          refine R_getI' (q := 73) dX2_send_70 fl_X2_37 rfl (hB) rfl ?_
          refine R_iconst (v := nI 1) (q := 74) dX2_send_73 (by decide) rfl ?_
          refine R_iload (q := 76) dX2_send_74 rfl rfl ?_
          refine R_ishl (q := 77) dX2_send_76 rfl ?_
          refine R_ior (q := 78) dX2_send_77 rfl ?_
          refine R_putI (q := 81) dX2_send_78 fl_X2_37 rfl rfl ?_
          rw [or_fin l c1 _ (Nat.lt_of_lt_of_le (bmN_lt _ l) (show 2 ^ l ≤ 2 ^ 4 from Nat.pow_le_pow_right (by decide) (by omega))) (bmN_lt _ l)]
          first | refine R_iincN (q := 84) (loc' := [(4, _), (6, _), (5, _), (0, _), (1, _), (2, _), (3, _)]) dX2_send_81 (by rfl) (by decide) (by rfl) rfl ?_ | refine R_iinc (q := 84) (loc' := [(4, _), (6, _), (5, _), (0, _), (1, _), (2, _), (3, _)]) dX2_send_81 (by rfl) (by rfl) (by decide) (by rfl) rfl ?_
          refine R_goto (q := 16) dX2_send_84 (by decide) ?_
          refine R_loc [0, 3, 4, 5, 6] (loc' := [(4, _), (0, _), (1, _), (2, _), (3, _)]) (by rfl) ?_
          refine ih (l + 1) _ (by omega) (by omega) (hS.fr (F := [[7]]) (Fr.i (by simp)) (by simpa using q0) (by simpa using q5) (by simpa using q6) (by simpa using q7)) ?_ ?_ ?_ (hF.tr (Fr.i (by simp)))
          · refine ⟨fun i hi => ?_, fun i hi => ?_⟩
            · rw [uI_nep (by decide)]; exact hG.1 i hi
            · rw [uI_nep (by decide)]; exact hG.2 i hi
          · rw [uI_same]
            simp only [bmN]
            rw [if_pos hbk]
          · intro k hk hkl hb
            rw [uI_nep (by decide)]
            refine hA k hk ?_ hb
            rcases Nat.lt_or_ge (k / 4) l with h9 | h9
            · exact h9
            · have : k / 4 = l := by omega
              rw [this, hbk] at hb
              cases hb
        · exact hfill (Or.inr c3)
theorem l_send2 {S : Pic} {sh lo : Nat} {w0 : Wd} (hN : pN S ≤ 20) : ∀ (f l : Nat) (w : Wd), 4 ≤ l + f → l ≤ 4 → w.1 [7] 2 = nI (bmN (blk sh lo) 4) → (∀ k, k < 16 → blk sh lo (k / 4) = false → w.1 [1, 7] k = nI (vk S sh lo k)) → (∀ k, k < 16 → k / 4 < l → w.1 [1, 7] k = nI (outN S sh lo k)) → Fr FO w0 w → Wq X 0 (d + 3) MX2_send 90 [(4, vI (nI l)), (0, vR 2 0 [7]), (1, vR 5 0 p), (2, vI (nI sh)), (3, vI (nI lo))] [] w (qV fun w' => OutA w' S sh lo ∧ Fr FO w0 w') := by
  have hm16 : bmN (blk sh lo) 4 < 16 := bmN_lt _ 4
  intro f
  induction f with
  | zero =>
    intro l w h1 h2 hB hA hC hF
    refine R_iload (q := 92) dX2_send_90 rfl rfl ?_
    refine R_iconst (v := nI 4) (q := 93) dX2_send_92 (by decide) rfl ?_
    refine R_icmp_geN (by omega) (by omega) (tgt := 117) (q := 96) dX2_send_93 (by decide) rfl (fun c1 => ?_) (fun c1 => ?_)
    · obtain rfl : l = 4 := by omega
      refine R_rv dX2_send_117 rfl ?_
      exact ⟨⟨hB, fun k hk => hC k hk (by omega)⟩, hF⟩
    · omega
  | succ f ih =>
    intro l w h1 h2 hB hA hC hF
    refine R_iload (q := 92) dX2_send_90 rfl rfl ?_
    refine R_iconst (v := nI 4) (q := 93) dX2_send_92 (by decide) rfl ?_
    refine R_icmp_geN (by omega) (by omega) (tgt := 117) (q := 96) dX2_send_93 (by decide) rfl (fun c1 => ?_) (fun c1 => ?_)
    · obtain rfl : l = 4 := by omega
      refine R_rv dX2_send_117 rfl ?_
      exact ⟨⟨hB, fun k hk => hC k hk (by omega)⟩, hF⟩
    · refine R_aload_n (i := 0) (q := 97) dX2_send_96 rfl rfl rfl ?_
      refine R_iload (q := 99) dX2_send_97 rfl rfl ?_
      refine R_cV1i (M' := MX2_isBlank) (q := 102) dX2_send_99 ml_X2_49 mk_X2_isBlank (Nat.le_of_ble_eq_true rfl) rfl (c_isBlank hB hm16 c1) ?_
      rintro _ w ⟨rfl, rfl⟩
      rw [bit_bm _ l c1]
      refine R_if_eqB (tgt := 111) (q := 105) dX2_send_102 (by decide) rfl (fun c2 => ?_) (fun c2 => ?_)
      · have hbf : blk sh lo l = false := by
          cases h : blk sh lo l
          · rfl
          · rw [h] at c2; exact absurd rfl c2
        first | refine R_iincN (q := 114) (loc' := [(4, _), (0, _), (1, _), (2, _), (3, _)]) dX2_send_111 (by rfl) (by decide) (by rfl) rfl ?_ | refine R_iinc (q := 114) (loc' := [(4, _), (0, _), (1, _), (2, _), (3, _)]) dX2_send_111 (by rfl) (by rfl) (by decide) (by rfl) rfl ?_
        refine R_goto (q := 90) dX2_send_114 (by decide) ?_
        refine ih (l + 1) w (by omega) (by omega) hB hA ?_ hF
        intro k hk hkl
        rcases Nat.lt_or_ge (k / 4) l with h9 | h9
        · exact hC k hk h9
        · have e : k / 4 = l := by omega
          rw [hA k hk (by rw [e]; exact hbf)]
          unfold outN
          rw [e, hbf]
          rfl
      · have hbt : blk sh lo l = true := by
          cases h : blk sh lo l
          · rw [h] at c2; exact absurd c2 (by decide)
          · rfl
        refine R_aload_n (i := 0) (q := 106) dX2_send_105 rfl rfl rfl ?_
        refine R_iload (q := 108) dX2_send_106 rfl rfl ?_
        refine R_cV1v (M' := MX2_fillBlank) (q := 111) dX2_send_108 ml_X2_53 mk_X2_fillBlank (Nat.le_of_ble_eq_true rfl) rfl (c_fillBlank (b := blk sh lo) (D := vk S sh lo) hB hm16 (fun k hk => bit_bm _ k hk) c1 (fun k => Nat.le_trans vl_le hN) hA) ?_
        rintro w1 rfl
        first | refine R_iincN (q := 114) (loc' := [(4, _), (0, _), (1, _), (2, _), (3, _)]) dX2_send_111 (by rfl) (by decide) (by rfl) rfl ?_ | refine R_iinc (q := 114) (loc' := [(4, _), (0, _), (1, _), (2, _), (3, _)]) dX2_send_111 (by rfl) (by rfl) (by decide) (by rfl) rfl ?_
        refine R_goto (q := 90) dX2_send_114 (by decide) ?_
        refine ih (l + 1) _ (by omega) (by omega) (by rw [uA_ne (by decide)]; exact hB) ?_ ?_ (hF.tr (Fr.a (by simp)))
        · intro k hk hb
          rw [uA_same, if_neg]
          · exact hA k hk hb
          · intro h9
            rw [show k / 4 = l by omega, hbt] at hb
            cases hb
        · intro k hk hkl
          rw [uA_same]
          by_cases h9 : 4 * l ≤ k ∧ k < 4 * l + 4
          · rw [if_pos h9]
            unfold outN
            rw [show k / 4 = l by omega, if_pos hbt, show k % 4 = k - 4 * l by omega]
          · rw [if_neg h9]
            exact hC k hk (by omega)
theorem c_send {S : Pic} {sh lo : Nat} (hS : StA w p S) (hO : OKo S) (hp : p = [1] ∨ p = [2]) (hsh : sh < 4) (hlo : lo < 16) : Ct X 0 (d + 3) MX2_send [vR 2 0 [7], vR 5 0 p, vI (nI sh), vI (nI lo)] w (qV fun w' => OutA w' S sh lo ∧ Fr FO w w') := by
  have g0 : p ∉ FG [0, 7] := by rcases hp with rfl | rfl <;> decide
  have g5 : 5 :: p ∉ FG [0, 7] := by rcases hp with rfl | rfl <;> decide
  have g6 : 6 :: p ∉ FG [0, 7] := by rcases hp with rfl | rfl <;> decide
  have g7 : 7 :: p ∉ FG [0, 7] := by rcases hp with rfl | rfl <;> decide
  have q0 : p ∉ [[7]] := by rcases hp with rfl | rfl <;> decide
  have q5 : 5 :: p ∉ [[7]] := by rcases hp with rfl | rfl <;> decide
  have q6 : 6 :: p ∉ [[7]] := by rcases hp with rfl | rfl <;> decide
  have q7 : 7 :: p ∉ [[7]] := by rcases hp with rfl | rfl <;> decide
  refine Ct.of (by decide) rfl (Nat.le_of_ble_eq_true rfl) ?_
  show Wq _ _ _ _ 0 [(0, _), (1, _), (2, _), (3, _)] [] _ _
  refine R_aload_n (i := 0) (q := 1) dX2_send_0 rfl rfl rfl ?_
  refine R_getR (q := 4) dX2_send_1 fl_X2_12 rfl (by decide) rfl ?_
  refine R_aload_n (i := 1) (q := 5) dX2_send_4 rfl rfl rfl ?_
  refine R_cV1v (M' := MX1_take) (q := 8) dX2_send_5 ml_X2_33 mk_X1_take (Nat.le_of_ble_eq_true rfl) rfl (c_take (g := [0, 7]) hS hO.1 hO.2.1 g0 g5 g6) ?_
  rintro w1 ⟨hG1, hF1⟩
  refine R_aload_n (i := 0) (q := 9) dX2_send_8 rfl rfl rfl ?_
  refine R_iconst (v := nI 0) (q := 10) dX2_send_9 (by decide) rfl ?_
  refine R_putI (q := 13) dX2_send_10 fl_X2_37 rfl rfl ?_
  refine R_iconst (v := nI 0) (q := 14) dX2_send_13 (by decide) rfl ?_
  refine R_istore (q := 16) (loc' := [(4, _), (0, _), (1, _), (2, _), (3, _)]) dX2_send_14 (by decide) (by rfl) rfl ?_
  refine l_send1 (w0 := w) hS hO hp hsh hlo _ ?_ 4 0 _ (by omega) (by omega) ((hS.fr hF1 g0 g5 g6 g7).fr (F := [[7]]) (Fr.i (by simp)) q0 q5 q6 q7) ?_ (uI_same _ _ _ _) (fun k _ h => absurd h (Nat.not_lt_zero _)) ((hF1.up (by simp)).tr (Fr.i (by simp)))
  · intro w2 hB2 hA2 hF2
    refine R_iconst (v := nI 0) (q := 88) dX2_send_87 (by decide) rfl ?_
    refine R_istore (q := 90) (loc' := [(4, _), (0, _), (1, _), (2, _), (3, _)]) dX2_send_88 (by decide) (by rfl) rfl ?_
    exact l_send2 hO.1 4 0 w2 (by omega) (by omega) hB2 hA2 (fun k _ h => absurd h (Nat.not_lt_zero _)) hF2
  · refine ⟨fun i hi => ?_, fun i hi => ?_⟩
    · rw [uI_nep (by decide)]; exact hG1.1 i hi
    · rw [uI_nep (by decide)]; exact hG1.2 i hi
theorem l_missBy {S : Pic} {sh lo : Nat} {w0 : Wd} (hS : StA w p S) (hA : OutA w S sh lo) (hF : Fr FO w0 w) : ∀ (f k : Nat), 16 ≤ k + f → k ≤ 16 → Wq X 0 (d + 4) MX2_missBy 13 [(5, vI (nI k)), (4, vI (nI (sm (fun k => sq (outN S sh lo k) (pdt S k)) k))), (0, vR 2 0 [7]), (1, vR 5 0 p), (2, vI (nI sh)), (3, vI (nI lo))] [] w (qI fun x w' => x = nI (msN S sh lo) ∧ Fr FO w0 w') := by
  intro f
  induction f with
  | zero =>
    intro k h1 h2
    refine R_iload (q := 15) dX2_missBy_13 rfl rfl ?_
    refine R_bipush (v := nI 16) (q := 17) dX2_missBy_15 (by decide) rfl ?_
    refine R_icmp_geN (by omega) (by omega) (tgt := 49) (q := 20) dX2_missBy_17 (by decide) rfl (fun c1 => ?_) (fun c1 => ?_)
    · obtain rfl : k = 16 := by omega
      refine R_iload (q := 51) dX2_missBy_49 rfl rfl ?_
      refine R_ri dX2_missBy_51 rfl ?_
      exact ⟨rfl, hF⟩
    · omega
  | succ f ih =>
    intro k h1 h2
    refine R_iload (q := 15) dX2_missBy_13 rfl rfl ?_
    refine R_bipush (v := nI 16) (q := 17) dX2_missBy_15 (by decide) rfl ?_
    refine R_icmp_geN (by omega) (by omega) (tgt := 49) (q := 20) dX2_missBy_17 (by decide) rfl (fun c1 => ?_) (fun c1 => ?_)
    · obtain rfl : k = 16 := by omega
      refine R_iload (q := 51) dX2_missBy_49 rfl rfl ?_
      refine R_ri dX2_missBy_51 rfl ?_
      exact ⟨rfl, hF⟩
    · have e := ih (k + 1) (by omega) (by omega)
      simp only [sm] at e
      refine R_iload (q := 22) dX2_missBy_20 rfl rfl ?_
      refine R_aload_n (i := 0) (q := 23) dX2_missBy_22 rfl rfl rfl ?_
      refine R_getR (q := 26) dX2_missBy_23 fl_X2_18 rfl (by decide) rfl ?_
      refine R_iload (q := 28) dX2_missBy_26 rfl rfl ?_
      refine R_iald' (q := 29) dX2_missBy_28 (rfl) (by omega) (by decide) (hA.2 k c1) rfl ?_
      refine R_aload_n (i := 1) (q := 30) dX2_missBy_29 rfl rfl rfl ?_
      refine R_getR (q := 33) dX2_missBy_30 fl_X2_26 rfl (by decide) rfl ?_
      refine R_iload (q := 35) dX2_missBy_33 rfl rfl ?_
      refine R_iald' (q := 36) dX2_missBy_35 (rfl) (by omega) (by decide) (hS.2.2.2.2.2.2.2 k c1) rfl ?_
      refine R_isub (q := 37) dX2_missBy_36 rfl ?_
      refine R_cS1i (M' := MX7_square) (q := 40) dX2_missBy_37 ml_X2_29 mk_X7_square (Nat.le_of_ble_eq_true rfl) rfl (c_square) ?_
      rintro _ w ⟨rfl, rfl⟩
      rw [sq_nI]
      first | refine R_iaddN (q := 41) dX2_missBy_40 rfl ?_ | refine R_iadd (q := 41) dX2_missBy_40 rfl ?_
      refine R_istore (q := 43) (loc' := [(4, _), (5, _), (0, _), (1, _), (2, _), (3, _)]) dX2_missBy_41 (by decide) (by rfl) rfl ?_
      first | refine R_iincN (q := 46) (loc' := [(5, _), (4, _), (0, _), (1, _), (2, _), (3, _)]) dX2_missBy_43 (by rfl) (by decide) (by rfl) rfl ?_ | refine R_iinc (q := 46) (loc' := [(5, _), (4, _), (0, _), (1, _), (2, _), (3, _)]) dX2_missBy_43 (by rfl) (by rfl) (by decide) (by rfl) rfl ?_
      refine R_goto (q := 13) dX2_missBy_46 (by decide) ?_
      exact e
theorem c_missBy {S : Pic} {sh lo : Nat} (hS : StA w p S) (hO : OKo S) (hp : p = [1] ∨ p = [2]) (hsh : sh < 4) (hlo : lo < 16) : Ct X 0 (d + 4) MX2_missBy [vR 2 0 [7], vR 5 0 p, vI (nI sh), vI (nI lo)] w (qI fun x w' => x = nI (msN S sh lo) ∧ Fr FO w w') := by
  have g0 : p ∉ FO := by rcases hp with rfl | rfl <;> decide
  have g5 : 5 :: p ∉ FO := by rcases hp with rfl | rfl <;> decide
  have g6 : 6 :: p ∉ FO := by rcases hp with rfl | rfl <;> decide
  have g7 : 7 :: p ∉ FO := by rcases hp with rfl | rfl <;> decide
  refine Ct.of (by decide) rfl (Nat.le_of_ble_eq_true rfl) ?_
  show Wq _ _ _ _ 0 [(0, _), (1, _), (2, _), (3, _)] [] _ _
  refine R_aload_n (i := 0) (q := 1) dX2_missBy_0 rfl rfl rfl ?_
  refine R_aload_n (i := 1) (q := 2) dX2_missBy_1 rfl rfl rfl ?_
  refine R_iload_n (i := 2) (q := 3) dX2_missBy_2 rfl rfl rfl ?_
  refine R_iload_n (i := 3) (q := 4) dX2_missBy_3 rfl rfl rfl ?_
  refine R_cV3v (M' := MX2_send) (q := 7) dX2_missBy_4 ml_X2_22 mk_X2_send (Nat.le_of_ble_eq_true rfl) rfl (c_send hS hO hp hsh hlo) ?_
  rintro w1 ⟨hA1, hF1⟩
  refine R_iconst (v := nI 0) (q := 8) dX2_missBy_7 (by decide) rfl ?_
  refine R_istore (q := 10) (loc' := [(4, _), (0, _), (1, _), (2, _), (3, _)]) dX2_missBy_8 (by decide) (by rfl) rfl ?_
  refine R_iconst (v := nI 0) (q := 11) dX2_missBy_10 (by decide) rfl ?_
  refine R_istore (q := 13) (loc' := [(5, _), (4, _), (0, _), (1, _), (2, _), (3, _)]) dX2_missBy_11 (by decide) (by rfl) rfl ?_
  exact l_missBy (hS.fr hF1 g0 g5 g6 g7) hA1 hF1 16 0 (by omega) (by omega)
end OU
