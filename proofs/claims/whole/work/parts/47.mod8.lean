theorem lk_pow {s x : Nat} : lkN s x 4 = x ^ pcN s * (10 - x) ^ (4 - pcN s) := by
  have h : ∀ y : Nat, ∀ b0 b1 b2 b3 : Nat, b0 < 2 → b1 < 2 → b2 < 2 → b3 < 2 → 1 * (if b0 = 1 then x else y) * (if b1 = 1 then x else y) * (if b2 = 1 then x else y) * (if b3 = 1 then x else y) = x ^ (b0 + b1 + b2 + b3) * y ^ (4 - (b0 + b1 + b2 + b3)) := by
    intro y b0 b1 b2 b3 h0 h1 h2 h3
    rcases (show b0 = 0 ∨ b0 = 1 by omega) with rfl | rfl <;> rcases (show b1 = 0 ∨ b1 = 1 by omega) with rfl | rfl <;> rcases (show b2 = 0 ∨ b2 = 1 by omega) with rfl | rfl <;> rcases (show b3 = 0 ∨ b3 = 1 by omega) with rfl | rfl
    all_goals simp only [Nat.one_mul, Nat.pow_succ, Nat.pow_zero, Nat.mul_one, if_pos, if_neg, Nat.zero_ne_one, not_false_eq_true, Nat.add_zero, Nat.zero_add, Nat.reduceAdd, Nat.reduceSub]
    all_goals first | rfl | ac_rfl
  exact h (10 - x) _ _ _ _ (bitN_lt s 0) (bitN_lt s 1) (bitN_lt s 2) (bitN_lt s 3)
/-! the shares, as sums from the other end -/
def wtN (s : Nat) : Nat := fcG (pcN s) 4 2 1 * fcG (3 - pcN s) 4 2 1
def mP (S : Pic) (sh k : Nat) : Nat → Nat := sm (fun s => if bitN s k = 1 then 0 else wtN s * msN S sh (15 - s))
def mQ (S : Pic) (sh k : Nat) : Nat → Nat := sm (fun s => if bitN s k = 1 then 0 else wtN s * msN S sh (15 - (s ||| 2 ^ k)))
theorem saP_sm (S : Pic) (sh k : Nat) : ∀ n, saP S sh k n = sm (fun l => if bitN l k = 1 then obN l * msN S sh l else 0) n
  | 0 => rfl
  | n + 1 => by simp only [saP, sm]; rw [saP_sm S sh k n]
theorem saQ_sm (S : Pic) (sh k : Nat) : ∀ n, saQ S sh k n = sm (fun l => if bitN l k = 1 then obN l * msN S sh (l ^^^ 2 ^ k) else 0) n
  | 0 => rfl
  | n + 1 => by simp only [saQ, sm]; rw [saQ_sm S sh k n]
theorem sm_rev (f : Nat → Nat) : sm (fun s => f (15 - s)) 16 = sm f 16 := by
  simp only [sm, Nat.sub_zero, Nat.sub_self, Nat.reduceSub]
  omega
theorem rev_fin : ∀ s, s < 16 → ∀ k, k < 4 → (bitN s k = 1 ∧ bitN (15 - s) k = 0) ∨ (bitN s k = 0 ∧ bitN (15 - s) k = 1 ∧ obN (15 - s) = wtN s ∧ (15 - s) ^^^ 2 ^ k = 15 - (s ||| 2 ^ k) ∧ pcN s ≤ 3 ∧ s ||| 2 ^ k < 16) := by decide
theorem mP_eq {S : Pic} {sh k : Nat} (hk : k < 4) : mP S sh k 16 = saP S sh k 16 := by
  rw [saP_sm, ← sm_rev]
  refine sm_cg ?_
  intro s hs
  rcases rev_fin s hs k hk with ⟨h1, h2⟩ | ⟨h1, h2, h3, h4, -⟩
  · show (if bitN s k = 1 then 0 else _) = (if bitN (15 - s) k = 1 then _ else 0)
    rw [if_pos h1, if_neg (by omega)]
  · show (if bitN s k = 1 then 0 else wtN s * msN S sh (15 - s)) = (if bitN (15 - s) k = 1 then obN (15 - s) * msN S sh (15 - s) else 0)
    rw [if_neg (by omega), if_pos h2, h3]
theorem mQ_eq {S : Pic} {sh k : Nat} (hk : k < 4) : mQ S sh k 16 = saQ S sh k 16 := by
  rw [saQ_sm, ← sm_rev]
  refine sm_cg ?_
  intro s hs
  rcases rev_fin s hs k hk with ⟨h1, h2⟩ | ⟨h1, h2, h3, h4, -⟩
  · show (if bitN s k = 1 then 0 else _) = (if bitN (15 - s) k = 1 then _ else 0)
    rw [if_pos h1, if_neg (by omega)]
  · show (if bitN s k = 1 then 0 else wtN s * msN S sh (15 - (s ||| 2 ^ k))) = (if bitN (15 - s) k = 1 then obN (15 - s) * msN S sh ((15 - s) ^^^ 2 ^ k) else 0)
    rw [if_neg (by omega), if_pos h2, h3, h4]
theorem cmp_fin : ∀ s, s < 16 → (nI 15 &&& (nI s ^^^ (-1))) = nI (15 - s) := by decide
theorem orb_fin : ∀ s, s < 16 → ∀ k, k < 4 → (nI s ||| (nI 1 <<< (nI k &&& 31))) = nI (s ||| 2 ^ k) ∧ s ||| 2 ^ k < 16 := by decide
section MI
variable {X : Cx} {d : Nat} {w : Wd} {A : Ab}
theorem l_msh1 {w0 : Wd} {k : Nat} {u : Int32} (hR : ModR w0 A) (hA : AOK A) (Q : Option AV → Wd → Prop) (kk : ∀ w, (∀ j, j < 16 → w.1 [18] j = nI (msN (aP A) (pH (aP A)) (15 - j))) → Fm FSm KR w0 w → Wq X 1 (d + 5) MX8_share 43 [(3, vI (nI 16)), (0, vR 8 0 []), (1, vI (nI k)), (2, vI u)] [] w Q) : ∀ (f s : Nat) (w : Wd), 16 ≤ s + f → s ≤ 16 → (∀ j, j < s → w.1 [18] j = nI (msN (aP A) (pH (aP A)) (15 - j))) → Fm FSm KR w0 w → Wq X 1 (d + 5) MX8_share 11 [(3, vI (nI s)), (0, vR 8 0 []), (1, vI (nI k)), (2, vI u)] [] w Q := by
  intro f
  induction f with
  | zero =>
    intro s w h1 h2 hM hF
    refine R_iload_n (i := 3) (q := 12) dX8_share_11 rfl rfl rfl ?_
    refine R_bipush (v := nI 16) (q := 14) dX8_share_12 (by decide) rfl ?_
    refine R_icmp_geN (by omega) (by omega) (tgt := 43) (q := 17) dX8_share_14 (by decide) rfl (fun c1 => ?_) (fun c1 => ?_)
    · obtain rfl : s = 16 := by omega
      exact kk w hM hF
    · omega
  | succ f ih =>
    intro s w h1 h2 hM hF
    refine R_iload_n (i := 3) (q := 12) dX8_share_11 rfl rfl rfl ?_
    refine R_bipush (v := nI 16) (q := 14) dX8_share_12 (by decide) rfl ?_
    refine R_icmp_geN (by omega) (by omega) (tgt := 43) (q := 17) dX8_share_14 (by decide) rfl (fun c1 => ?_) (fun c1 => ?_)
    · obtain rfl : s = 16 := by omega
      exact kk w hM hF
    · have hRw := hR.sc hF
      refine R_aload_n (i := 0) (q := 18) dX8_share_17 rfl rfl rfl ?_
      refine R_getR (q := 21) dX8_share_18 fl_X8_41 rfl (by decide) rfl ?_
      refine R_iload_n (i := 3) (q := 22) dX8_share_21 rfl rfl rfl ?_
      refine R_aload_n (i := 0) (q := 23) dX8_share_22 rfl rfl rfl ?_
      refine R_aload_n (i := 0) (q := 24) dX8_share_23 rfl rfl rfl ?_
      refine R_getR (q := 27) dX8_share_24 fl_X8_13 rfl (by decide) rfl ?_
      refine R_bipush (v := nI 15) (q := 29) dX8_share_27 (by decide) rfl ?_
      refine R_iload_n (i := 3) (q := 30) dX8_share_29 rfl rfl rfl ?_
      refine R_iconst (v := (-1)) (q := 31) dX8_share_30 (by decide) rfl ?_
      refine R_ixor (q := 32) dX8_share_31 rfl ?_
      refine R_iand (q := 33) dX8_share_32 rfl ?_
      rw [cmp_fin s c1]
      refine R_cV2i (M' := MX8_missBy) (q := 36) dX8_share_33 ml_X8_142 mk_X8_missBy (Nat.le_of_ble_eq_true rfl) rfl (c_mmissBy hRw.2.1.1.2.2 hA.2.1.r hRw.2.1.2 (Or.inl rfl) (by omega)) ?_
      rintro _ w1 ⟨rfl, hF1⟩
      refine R_iast (q := 37) dX8_share_36 (rfl) (by omega) (by decide) rfl ?_
      first | refine R_iincN (q := 40) (loc' := [(3, _), (0, _), (1, _), (2, _)]) dX8_share_37 (by rfl) (by decide) (by rfl) rfl ?_ | refine R_iinc (q := 40) (loc' := [(3, _), (0, _), (1, _), (2, _)]) dX8_share_37 (by rfl) (by rfl) (by decide) (by rfl) rfl ?_
      refine R_goto (q := 11) dX8_share_40 (by decide) ?_
      refine ih (s + 1) _ (by omega) (by omega) ?_ ((hF.tr (hF1.m (by decide) (by decide))).tr (Fm.i (by decide) (by decide)))
      intro j hj
      by_cases h : j = s
      · rw [h]; exact uI_same _ _ _ _
      · rw [uI_ne h, hF1.2 _ (by decide)]
        exact hM j (by omega)
theorem l_msh2 {S : Pic} {sh k : Nat} {u : Int32} (hk : k < 4) (hO : OKo S) (hM : ∀ j, j < 16 → w.1 [18] j = nI (msN S sh (15 - j))) : ∀ (f s : Nat), 16 ≤ s + f → s ≤ 16 → Wq X 1 (d + 5) MX8_share 48 [(4, vI (nI s)), (3, vI (nI (mP S sh k s) - nI (mQ S sh k s))), (0, vR 8 0 []), (1, vI (nI k)), (2, vI u)] [] w (qI fun z w' => z = frD (saP S sh k 16) (saQ S sh k 16) 24 u ∧ w' = w) := by
  have hb1 := saP_bd (sh := sh) (k := k) hO 16
  have hb2 := saQ_bd (sh := sh) (k := k) hO 16
  intro f
  induction f with
  | zero =>
    intro s h1 h2
    refine R_iload (q := 50) dX8_share_48 rfl rfl ?_
    refine R_bipush (v := nI 16) (q := 52) dX8_share_50 (by decide) rfl ?_
    refine R_icmp_geN (by omega) (by omega) (tgt := 113) (q := 55) dX8_share_52 (by decide) rfl (fun c1 => ?_) (fun c1 => ?_)
    · obtain rfl : s = 16 := by omega
      rw [mP_eq hk, mQ_eq hk]
      refine R_iload_n (i := 3) (q := 114) dX8_share_113 rfl rfl rfl ?_
      refine R_bipush (v := nI 24) (q := 116) dX8_share_114 (by decide) rfl ?_
      refine R_iload_n (i := 2) (q := 117) dX8_share_116 rfl rfl rfl ?_
      refine R_cS3i (M' := MX8_fraction) (q := 120) dX8_share_117 ml_X8_210 mk_X8_fraction (Nat.le_of_ble_eq_true rfl) rfl (c_mfraction (by omega) (by omega) (by decide) (by decide)) ?_
      rintro _ w ⟨rfl, rfl⟩
      refine R_ri dX8_share_120 rfl ?_
      exact ⟨rfl, rfl⟩
    · omega
  | succ f ih =>
    intro s h1 h2
    refine R_iload (q := 50) dX8_share_48 rfl rfl ?_
    refine R_bipush (v := nI 16) (q := 52) dX8_share_50 (by decide) rfl ?_
    refine R_icmp_geN (by omega) (by omega) (tgt := 113) (q := 55) dX8_share_52 (by decide) rfl (fun c1 => ?_) (fun c1 => ?_)
    · obtain rfl : s = 16 := by omega
      rw [mP_eq hk, mQ_eq hk]
      refine R_iload_n (i := 3) (q := 114) dX8_share_113 rfl rfl rfl ?_
      refine R_bipush (v := nI 24) (q := 116) dX8_share_114 (by decide) rfl ?_
      refine R_iload_n (i := 2) (q := 117) dX8_share_116 rfl rfl rfl ?_
      refine R_cS3i (M' := MX8_fraction) (q := 120) dX8_share_117 ml_X8_210 mk_X8_fraction (Nat.le_of_ble_eq_true rfl) rfl (c_mfraction (by omega) (by omega) (by decide) (by decide)) ?_
      rintro _ w ⟨rfl, rfl⟩
      refine R_ri dX8_share_120 rfl ?_
      exact ⟨rfl, rfl⟩
    · have e := ih (s + 1) (by omega) (by omega)
      have eP : mP S sh k (s + 1) = mP S sh k s + (if bitN s k = 1 then 0 else wtN s * msN S sh (15 - s)) := rfl
      have eQ : mQ S sh k (s + 1) = mQ S sh k s + (if bitN s k = 1 then 0 else wtN s * msN S sh (15 - (s ||| 2 ^ k))) := rfl
      rw [eP, eQ] at e
      refine R_iload (q := 57) dX8_share_55 rfl rfl ?_
      refine R_iload_n (i := 1) (q := 58) dX8_share_57 rfl rfl rfl ?_
      refine R_cS2i (M' := MX8_has) (q := 61) dX8_share_58 ml_X8_114 mk_X8_has (Nat.le_of_ble_eq_true rfl) rfl (c_has c1 hk) ?_
      rintro _ w ⟨rfl, rfl⟩
      refine R_if_neB (tgt := 107) (q := 64) dX8_share_61 (by decide) rfl (fun c2 => ?_) (fun c2 => ?_)
      · rw [if_pos c2, if_pos c2, Nat.add_zero, Nat.add_zero] at e
        first | refine R_iincN (q := 110) (loc' := [(4, _), (3, _), (0, _), (1, _), (2, _)]) dX8_share_107 (by rfl) (by decide) (by rfl) rfl ?_ | refine R_iinc (q := 110) (loc' := [(4, _), (3, _), (0, _), (1, _), (2, _)]) dX8_share_107 (by rfl) (by rfl) (by decide) (by rfl) rfl ?_
        refine R_goto (q := 48) dX8_share_110 (by decide) ?_
        refine R_loc [0, 1, 2, 3, 4] (loc' := [(4, _), (3, _), (0, _), (1, _), (2, _)]) (by rfl) ?_
        exact e
      · rw [if_neg c2, if_neg c2] at e
        rcases rev_fin s c1 k hk with ⟨h3, -⟩ | ⟨h3, -, -, -, h4, h5⟩
        · exact absurd h3 c2
        · refine R_iload (q := 66) dX8_share_64 rfl rfl ?_
          refine R_cS1i (M' := MX8_ones) (q := 69) dX8_share_66 ml_X8_204 mk_X8_ones (Nat.le_of_ble_eq_true rfl) rfl (c_ones c1) ?_
          rintro _ w ⟨rfl, rfl⟩
          refine R_istore (q := 71) (loc' := [(5, _), (4, _), (3, _), (0, _), (1, _), (2, _)]) dX8_share_69 (by decide) (by rfl) rfl ?_
          refine R_iload_n (i := 3) (q := 72) dX8_share_71 rfl rfl rfl ?_
          refine R_iload (q := 74) dX8_share_72 rfl rfl ?_
          refine R_cS1i (M' := MX8_factorial) (q := 77) dX8_share_74 ml_X8_207 mk_X8_factorial (Nat.le_of_ble_eq_true rfl) rfl (c_factorial (by omega)) ?_
          rintro _ w ⟨rfl, rfl⟩
          refine R_iconst (v := nI 3) (q := 78) dX8_share_77 (by decide) rfl ?_
          refine R_iload (q := 80) dX8_share_78 rfl rfl ?_
          refine R_isubN (h4) (q := 81) dX8_share_80 rfl ?_
          refine R_cS1i (M' := MX8_factorial) (q := 84) dX8_share_81 ml_X8_207 mk_X8_factorial (Nat.le_of_ble_eq_true rfl) rfl (c_factorial (by omega)) ?_
          rintro _ w ⟨rfl, rfl⟩
          first | refine R_imulN (q := 85) dX8_share_84 rfl ?_ | refine R_imul (q := 85) dX8_share_84 rfl ?_
          refine R_aload_n (i := 0) (q := 86) dX8_share_85 rfl rfl rfl ?_
          refine R_getR (q := 89) dX8_share_86 fl_X8_41 rfl (by decide) rfl ?_
          refine R_iload (q := 91) dX8_share_89 rfl rfl ?_
          refine R_iald' (q := 92) dX8_share_91 (rfl) (by omega) (by decide) (hM s c1) rfl ?_
          refine R_aload_n (i := 0) (q := 93) dX8_share_92 rfl rfl rfl ?_
          refine R_getR (q := 96) dX8_share_93 fl_X8_41 rfl (by decide) rfl ?_
          refine R_iload (q := 98) dX8_share_96 rfl rfl ?_
          refine R_iconst (v := nI 1) (q := 99) dX8_share_98 (by decide) rfl ?_
          refine R_iload_n (i := 1) (q := 100) dX8_share_99 rfl rfl rfl ?_
          refine R_ishl (q := 101) dX8_share_100 rfl ?_
          refine R_ior (q := 102) dX8_share_101 rfl ?_
          rw [(orb_fin s c1 k hk).1]
          refine R_iald' (q := 103) dX8_share_102 (rfl) (by omega) (by decide) (hM _ h5) rfl ?_
          refine R_isub (q := 104) dX8_share_103 rfl ?_
          refine R_imul (q := 105) dX8_share_104 rfl ?_
          refine R_iadd (q := 106) dX8_share_105 rfl ?_
          rw [show fcG (pcN s) 4 2 1 * fcG (3 - pcN s) 4 2 1 = wtN s from rfl, sub_sum]
          refine R_istore_n (i := 3) (q := 107) (loc' := [(3, _), (5, _), (4, _), (0, _), (1, _), (2, _)]) dX8_share_106 rfl (by decide) (by rfl) rfl ?_
          first | refine R_iincN (q := 110) (loc' := [(4, _), (3, _), (5, _), (0, _), (1, _), (2, _)]) dX8_share_107 (by rfl) (by decide) (by rfl) rfl ?_ | refine R_iinc (q := 110) (loc' := [(4, _), (3, _), (5, _), (0, _), (1, _), (2, _)]) dX8_share_107 (by rfl) (by rfl) (by decide) (by rfl) rfl ?_
          refine R_goto (q := 48) dX8_share_110 (by decide) ?_
          refine R_loc [0, 1, 3, 4, 5] (loc' := [(4, _), (3, _), (0, _), (1, _), (2, _)]) (by rfl) ?_
          exact e
theorem c_mshare {x u : Int32} (hR : ModR w A) (hA : AOK A) : Ct X 1 (d + 5) MX8_share [vR 8 0 [], vI x, vI u] w (qI fun z w' => z = opShare A x u ∧ ModR w' A) := by
  unfold opShare
  refine Ct.of (by decide) rfl (Nat.le_of_ble_eq_true rfl) ?_
  show Wq _ _ _ _ 0 [(0, _), (1, _), (2, _)] [] _ _
  refine R_iload_n (i := 1) (q := 1) dX8_share_0 rfl rfl rfl ?_
  refine R_cS1i (M' := MX8_isFour) (q := 4) dX8_share_1 ml_X8_177 mk_X8_isFour (Nat.le_of_ble_eq_true rfl) rfl (c_isFour) ?_
  rintro _ w ⟨rfl, rfl⟩
  refine R_if_neB (tgt := 9) (q := 7) dX8_share_4 (by decide) rfl (fun c1 => ?_) (fun c1 => ?_)
  · rw [if_pos c1]
    obtain ⟨k, hk, rfl⟩ := inN_ex (by decide) c1
    rw [cl_nI (by omega)]
    refine R_iconst (v := nI 0) (q := 10) dX8_share_9 (by decide) rfl ?_
    refine R_istore_n (i := 3) (q := 11) (loc' := [(3, _), (0, _), (1, _), (2, _)]) dX8_share_10 rfl (by decide) (by rfl) rfl ?_
    refine l_msh1 (w0 := w) hR hA _ ?_ 16 0 w (by omega) (by omega) (fun j hj => absurd hj (Nat.not_lt_zero j)) Fm.rf
    intro w1 hM1 hF1
    refine R_iconst (v := nI 0) (q := 44) dX8_share_43 (by decide) rfl ?_
    refine R_istore_n (i := 3) (q := 45) (loc' := [(3, _), (0, _), (1, _), (2, _)]) dX8_share_44 rfl (by decide) (by rfl) rfl ?_
    refine R_iconst (v := nI 0) (q := 46) dX8_share_45 (by decide) rfl ?_
    refine R_istore (q := 48) (loc' := [(4, _), (3, _), (0, _), (1, _), (2, _)]) dX8_share_46 (by decide) (by rfl) rfl ?_
    have h0 : nI (mP (aP A) (pH (aP A)) k 0) - nI (mQ (aP A) (pH (aP A)) k 0) = nI 0 := by
      rw [show mP (aP A) (pH (aP A)) k 0 = 0 from rfl, show mQ (aP A) (pH (aP A)) k 0 = 0 from rfl]
      rfl
    have h := l_msh2 (X := X) (d := d) (w := w1) (u := u) hk hA.2.1.o hM1 16 0 (by omega) (by omega)
    rw [h0] at h
    refine Wq_mono h ?_
    rintro z w2 ⟨g1, rfl⟩
    exact ⟨g1, hR.sc hF1⟩
  · rw [if_neg c1]
    refine R_iconst (v := (-1)) (q := 8) dX8_share_7 (by decide) rfl ?_
    refine R_ri dX8_share_8 rfl ?_
    exact ⟨rfl, hR⟩
theorem l_mch {w0 : Wd} {m x : Nat} {u : Int32} (hR : ModR w0 A) (hA : AOK A) (hm : m < 10000) (hx : x ≤ 10) : ∀ (f k : Nat) (w : Wd), 16 ≤ k + f → k ≤ 16 → Fr FL2 w0 w → Wq X 1 (d + 5) MX8_chance 33 [(5, vI (nI k)), (4, vI (nI (chN (aP A) (pH (aP A)) m x k))), (0, vR 8 0 []), (1, vI (nI m)), (2, vI (nI x)), (3, vI u)] [] w (qI fun z w' => z = frD (chN (aP A) (pH (aP A)) m x 16) 0 10000 u ∧ Fr FL2 w0 w') := by
  have hb := chN_bd (S := aP A) (sh := pH (aP A)) (m := m) hx 16
  have e0 : nI (chN (aP A) (pH (aP A)) m x 16) = nI (chN (aP A) (pH (aP A)) m x 16) - nI 0 := by rw [pk_sub (Nat.zero_le _), Nat.sub_zero]
  intro f
  induction f with
  | zero =>
    intro k w h1 h2 hF
    refine R_iload (q := 35) dX8_chance_33 rfl rfl ?_
    refine R_bipush (v := nI 16) (q := 37) dX8_chance_35 (by decide) rfl ?_
    refine R_icmp_geN (by omega) (by omega) (tgt := 93) (q := 40) dX8_chance_37 (by decide) rfl (fun c1 => ?_) (fun c1 => ?_)
    · obtain rfl : k = 16 := by omega
      refine R_iload (q := 95) dX8_chance_93 rfl rfl ?_
      refine R_sipush (v := nI 10000) (q := 98) dX8_chance_95 (by decide) rfl ?_
      refine R_iload_n (i := 3) (q := 99) dX8_chance_98 rfl rfl rfl ?_
      rw [e0]
      refine R_cS3i (M' := MX8_fraction) (q := 102) dX8_chance_99 ml_X8_210 mk_X8_fraction (Nat.le_of_ble_eq_true rfl) rfl (c_mfraction (by omega) (by decide) (by decide) (by decide)) ?_
      rintro _ w ⟨rfl, rfl⟩
      refine R_ri dX8_chance_102 rfl ?_
      exact ⟨rfl, hF⟩
    · omega
  | succ f ih =>
    intro k w h1 h2 hF
    refine R_iload (q := 35) dX8_chance_33 rfl rfl ?_
    refine R_bipush (v := nI 16) (q := 37) dX8_chance_35 (by decide) rfl ?_
    refine R_icmp_geN (by omega) (by omega) (tgt := 93) (q := 40) dX8_chance_37 (by decide) rfl (fun c1 => ?_) (fun c1 => ?_)
    · obtain rfl : k = 16 := by omega
      refine R_iload (q := 95) dX8_chance_93 rfl rfl ?_
      refine R_sipush (v := nI 10000) (q := 98) dX8_chance_95 (by decide) rfl ?_
      refine R_iload_n (i := 3) (q := 99) dX8_chance_98 rfl rfl rfl ?_
      rw [e0]
      refine R_cS3i (M' := MX8_fraction) (q := 102) dX8_chance_99 ml_X8_210 mk_X8_fraction (Nat.le_of_ble_eq_true rfl) rfl (c_mfraction (by omega) (by decide) (by decide) (by decide)) ?_
      rintro _ w ⟨rfl, rfl⟩
      refine R_ri dX8_chance_102 rfl ?_
      exact ⟨rfl, hF⟩
    · have hRw := hR.sc (hF.m (by decide) (by decide))
      have hms := msN_bd (sh := pH (aP A)) (lo := k) hA.2.1.o
      have hpc := pcN_le k
      refine R_iload (q := 42) dX8_chance_40 rfl rfl ?_
      refine R_aload_n (i := 0) (q := 43) dX8_chance_42 rfl rfl rfl ?_
      refine R_aload_n (i := 0) (q := 44) dX8_chance_43 rfl rfl rfl ?_
      refine R_getR (q := 47) dX8_chance_44 fl_X8_13 rfl (by decide) rfl ?_
      refine R_iload (q := 49) dX8_chance_47 rfl rfl ?_
      refine R_cV2i (M' := MX8_missBy) (q := 52) dX8_chance_49 ml_X8_142 mk_X8_missBy (Nat.le_of_ble_eq_true rfl) rfl (c_mmissBy hRw.2.1.1.2.2 hA.2.1.r hRw.2.1.2 (Or.inl rfl) c1) ?_
      rintro _ w1 ⟨rfl, hF1⟩
      have e := ih (k + 1) w1 (by omega) (by omega) (hF.tr hF1)
      simp only [chN] at e
      refine R_iload_n (i := 1) (q := 53) dX8_chance_52 rfl rfl rfl ?_
      refine R_icmp_gtN (by omega) (by omega) (tgt := 83) (q := 56) dX8_chance_53 (by decide) rfl (fun c2 => ?_) (fun c2 => ?_)
      · rw [if_neg (by omega)] at e
        refine R_iconst (v := nI 0) (q := 84) dX8_chance_83 (by decide) rfl ?_
        first | refine R_iaddN (q := 85) dX8_chance_84 rfl ?_ | refine R_iadd (q := 85) dX8_chance_84 rfl ?_
        refine R_istore (q := 87) (loc' := [(4, _), (5, _), (0, _), (1, _), (2, _), (3, _)]) dX8_chance_85 (by decide) (by rfl) rfl ?_
        first | refine R_iincN (q := 90) (loc' := [(5, _), (4, _), (0, _), (1, _), (2, _), (3, _)]) dX8_chance_87 (by rfl) (by decide) (by rfl) rfl ?_ | refine R_iinc (q := 90) (loc' := [(5, _), (4, _), (0, _), (1, _), (2, _), (3, _)]) dX8_chance_87 (by rfl) (by rfl) (by decide) (by rfl) rfl ?_
        refine R_goto (q := 33) dX8_chance_90 (by decide) ?_
        refine R_loc [0, 1, 2, 3, 4, 5] (loc' := [(5, _), (4, _), (0, _), (1, _), (2, _), (3, _)]) (by rfl) ?_
        exact e
      · rw [if_pos c2, lk_pow] at e
        refine R_iload_n (i := 2) (q := 57) dX8_chance_56 rfl rfl rfl ?_
        refine R_iload (q := 59) dX8_chance_57 rfl rfl ?_
        refine R_cS1i (M' := MX8_ones) (q := 62) dX8_chance_59 ml_X8_204 mk_X8_ones (Nat.le_of_ble_eq_true rfl) rfl (c_ones c1) ?_
        rintro _ w1 ⟨rfl, rfl⟩
        refine R_cS2i (M' := MX8_power) (q := 65) dX8_chance_62 ml_X8_218 mk_X8_power (Nat.le_of_ble_eq_true rfl) rfl (c_power hpc) ?_
        rintro _ w1 ⟨rfl, rfl⟩
        refine R_bipush (v := nI 10) (q := 67) dX8_chance_65 (by decide) rfl ?_
        refine R_iload_n (i := 2) (q := 68) dX8_chance_67 rfl rfl rfl ?_
        refine R_isubN (hx) (q := 69) dX8_chance_68 rfl ?_
        refine R_iconst (v := nI 4) (q := 70) dX8_chance_69 (by decide) rfl ?_
        refine R_iload (q := 72) dX8_chance_70 rfl rfl ?_
        refine R_cS1i (M' := MX8_ones) (q := 75) dX8_chance_72 ml_X8_204 mk_X8_ones (Nat.le_of_ble_eq_true rfl) rfl (c_ones c1) ?_
        rintro _ w1 ⟨rfl, rfl⟩
        refine R_isubN (hpc) (q := 76) dX8_chance_75 rfl ?_
        refine R_cS2i (M' := MX8_power) (q := 79) dX8_chance_76 ml_X8_218 mk_X8_power (Nat.le_of_ble_eq_true rfl) rfl (c_power (by omega)) ?_
        rintro _ w1 ⟨rfl, rfl⟩
        first | refine R_imulN (q := 80) dX8_chance_79 rfl ?_ | refine R_imul (q := 80) dX8_chance_79 rfl ?_
        refine R_goto (q := 84) dX8_chance_80 (by decide) ?_
        first | refine R_iaddN (q := 85) dX8_chance_84 rfl ?_ | refine R_iadd (q := 85) dX8_chance_84 rfl ?_
        refine R_istore (q := 87) (loc' := [(4, _), (5, _), (0, _), (1, _), (2, _), (3, _)]) dX8_chance_85 (by decide) (by rfl) rfl ?_
        first | refine R_iincN (q := 90) (loc' := [(5, _), (4, _), (0, _), (1, _), (2, _), (3, _)]) dX8_chance_87 (by rfl) (by decide) (by rfl) rfl ?_ | refine R_iinc (q := 90) (loc' := [(5, _), (4, _), (0, _), (1, _), (2, _), (3, _)]) dX8_chance_87 (by rfl) (by rfl) (by decide) (by rfl) rfl ?_
        refine R_goto (q := 33) dX8_chance_90 (by decide) ?_
        refine R_loc [0, 1, 2, 3, 4, 5] (loc' := [(5, _), (4, _), (0, _), (1, _), (2, _), (3, _)]) (by rfl) ?_
        exact e
theorem c_mchance {m x u : Int32} (hR : ModR w A) (hA : AOK A) : Ct X 1 (d + 5) MX8_chance [vR 8 0 [], vI m, vI x, vI u] w (qI fun z w' => z = opChance A m x u ∧ ModR w' A) := by
  unfold opChance
  refine Ct.of (by decide) rfl (Nat.le_of_ble_eq_true rfl) ?_
  show Wq _ _ _ _ 0 [(0, _), (1, _), (2, _), (3, _)] [] _ _
  refine R_iload_n (i := 1) (q := 1) dX8_chance_0 rfl rfl rfl ?_
  refine R_i2l (q := 2) dX8_chance_1 rfl ?_
  refine R_lconst (v := 0) (q := 3) dX8_chance_2 (by decide) rfl ?_
  refine R_ldc2 (q := 6) dX8_chance_3 kc_X8_214 rfl ?_
  refine R_cS3i (M' := MX8_in) (q := 9) dX8_chance_6 ml_X8_57 mk_X8_in (Nat.le_of_ble_eq_true rfl) rfl (c_in) ?_
  rintro _ w ⟨rfl, rfl⟩
  rw [bI_iff (in64 (n := 10000) (by decide) rfl)]
  refine R_if_eqB (tgt := 24) (q := 12) dX8_chance_9 (by decide) rfl (fun c1 => ?_) (fun c1 => ?_)
  · rw [if_neg (fun h => c1 h.1)]
    refine R_bipush (v := (-2)) (q := 26) dX8_chance_24 (by decide) rfl ?_
    refine R_ri dX8_chance_26 rfl ?_
    exact ⟨rfl, hR⟩
  · refine R_iload_n (i := 2) (q := 13) dX8_chance_12 rfl rfl rfl ?_
    refine R_i2l (q := 14) dX8_chance_13 rfl ?_
    refine R_lconst (v := 0) (q := 15) dX8_chance_14 (by decide) rfl ?_
    refine R_ldc2 (q := 18) dX8_chance_15 kc_X8_216 rfl ?_
    refine R_cS3i (M' := MX8_in) (q := 21) dX8_chance_18 ml_X8_57 mk_X8_in (Nat.le_of_ble_eq_true rfl) rfl (c_in) ?_
    rintro _ w ⟨rfl, rfl⟩
    rw [bI_iff (in64 (n := 11) (by decide) rfl)]
    refine R_if_neB (tgt := 27) (q := 24) dX8_chance_21 (by decide) rfl (fun c2 => ?_) (fun c2 => ?_)
    · rw [if_pos ⟨c1, c2⟩]
      obtain ⟨a, ha, rfl⟩ := inN_ex (by decide) c1
      obtain ⟨b, hb, rfl⟩ := inN_ex (by decide) c2
      rw [cl_nI (by omega), cl_nI (by omega)]
      refine R_iconst (v := nI 0) (q := 28) dX8_chance_27 (by decide) rfl ?_
      refine R_istore (q := 30) (loc' := [(4, _), (0, _), (1, _), (2, _), (3, _)]) dX8_chance_28 (by decide) (by rfl) rfl ?_
      refine R_iconst (v := nI 0) (q := 31) dX8_chance_30 (by decide) rfl ?_
      refine R_istore (q := 33) (loc' := [(5, _), (4, _), (0, _), (1, _), (2, _), (3, _)]) dX8_chance_31 (by decide) (by rfl) rfl ?_
      refine Wq_mono (l_mch (w0 := w) hR hA ha (by omega) 16 0 w (by omega) (by omega) Fr.rf) ?_
      rintro z w2 ⟨h1, h2⟩
      exact ⟨h1, hR.sc (h2.m (by decide) (by decide))⟩
    · rw [if_neg (fun h => c2 h.2)]
      refine R_bipush (v := (-2)) (q := 26) dX8_chance_24 (by decide) rfl ?_
      refine R_ri dX8_chance_26 rfl ?_
      exact ⟨rfl, hR⟩
theorem l_mme {w0 : Wd} {x : Nat} {u : Int32} (hR : ModR w0 A) (hA : AOK A) (hx : x ≤ 10) : ∀ (f k : Nat) (w : Wd), 16 ≤ k + f → k ≤ 16 → Fr FL2 w0 w → Wq X 1 (d + 5) MX8_mean 20 [(4, vI (nI k)), (3, vI (nI (meN (aP A) (pH (aP A)) x k))), (0, vR 8 0 []), (1, vI (nI x)), (2, vI u)] [] w (qI fun z w' => z = frD (meN (aP A) (pH (aP A)) x 16) 0 10000 u ∧ Fr FL2 w0 w') := by
  have hb := meN_bd (sh := pH (aP A)) hA.2.1.o hx 16
  have e0 : nI (meN (aP A) (pH (aP A)) x 16) = nI (meN (aP A) (pH (aP A)) x 16) - nI 0 := by rw [pk_sub (Nat.zero_le _), Nat.sub_zero]
  intro f
  induction f with
  | zero =>
    intro k w h1 h2 hF
    refine R_iload (q := 22) dX8_mean_20 rfl rfl ?_
    refine R_bipush (v := nI 16) (q := 24) dX8_mean_22 (by decide) rfl ?_
    refine R_icmp_geN (by omega) (by omega) (tgt := 71) (q := 27) dX8_mean_24 (by decide) rfl (fun c1 => ?_) (fun c1 => ?_)
    · obtain rfl : k = 16 := by omega
      refine R_iload_n (i := 3) (q := 72) dX8_mean_71 rfl rfl rfl ?_
      refine R_sipush (v := nI 10000) (q := 75) dX8_mean_72 (by decide) rfl ?_
      refine R_iload_n (i := 2) (q := 76) dX8_mean_75 rfl rfl rfl ?_
      rw [e0]
      refine R_cS3i (M' := MX8_fraction) (q := 79) dX8_mean_76 ml_X8_210 mk_X8_fraction (Nat.le_of_ble_eq_true rfl) rfl (c_mfraction (by omega) (by decide) (by decide) (by decide)) ?_
      rintro _ w ⟨rfl, rfl⟩
      refine R_ri dX8_mean_79 rfl ?_
      exact ⟨rfl, hF⟩
    · omega
  | succ f ih =>
    intro k w h1 h2 hF
    refine R_iload (q := 22) dX8_mean_20 rfl rfl ?_
    refine R_bipush (v := nI 16) (q := 24) dX8_mean_22 (by decide) rfl ?_
    refine R_icmp_geN (by omega) (by omega) (tgt := 71) (q := 27) dX8_mean_24 (by decide) rfl (fun c1 => ?_) (fun c1 => ?_)
    · obtain rfl : k = 16 := by omega
      refine R_iload_n (i := 3) (q := 72) dX8_mean_71 rfl rfl rfl ?_
      refine R_sipush (v := nI 10000) (q := 75) dX8_mean_72 (by decide) rfl ?_
      refine R_iload_n (i := 2) (q := 76) dX8_mean_75 rfl rfl rfl ?_
      rw [e0]
      refine R_cS3i (M' := MX8_fraction) (q := 79) dX8_mean_76 ml_X8_210 mk_X8_fraction (Nat.le_of_ble_eq_true rfl) rfl (c_mfraction (by omega) (by decide) (by decide) (by decide)) ?_
      rintro _ w ⟨rfl, rfl⟩
      refine R_ri dX8_mean_79 rfl ?_
      exact ⟨rfl, hF⟩
    · have hRw := hR.sc (hF.m (by decide) (by decide))
      have hpc := pcN_le k
      refine R_iload_n (i := 3) (q := 28) dX8_mean_27 rfl rfl rfl ?_
      refine R_aload_n (i := 0) (q := 29) dX8_mean_28 rfl rfl rfl ?_
      refine R_aload_n (i := 0) (q := 30) dX8_mean_29 rfl rfl rfl ?_
      refine R_getR (q := 33) dX8_mean_30 fl_X8_13 rfl (by decide) rfl ?_
      refine R_iload (q := 35) dX8_mean_33 rfl rfl ?_
      refine R_cV2i (M' := MX8_missBy) (q := 38) dX8_mean_35 ml_X8_142 mk_X8_missBy (Nat.le_of_ble_eq_true rfl) rfl (c_mmissBy hRw.2.1.1.2.2 hA.2.1.r hRw.2.1.2 (Or.inl rfl) c1) ?_
      rintro _ w1 ⟨rfl, hF1⟩
      have e := ih (k + 1) w1 (by omega) (by omega) (hF.tr hF1)
      simp only [meN] at e
      rw [lk_pow, Nat.mul_comm (x ^ pcN k * (10 - x) ^ (4 - pcN k)), ← Nat.mul_assoc] at e
      refine R_iload_n (i := 1) (q := 39) dX8_mean_38 rfl rfl rfl ?_
      refine R_iload (q := 41) dX8_mean_39 rfl rfl ?_
      refine R_cS1i (M' := MX8_ones) (q := 44) dX8_mean_41 ml_X8_204 mk_X8_ones (Nat.le_of_ble_eq_true rfl) rfl (c_ones c1) ?_
      rintro _ w1 ⟨rfl, rfl⟩
      refine R_cS2i (M' := MX8_power) (q := 47) dX8_mean_44 ml_X8_218 mk_X8_power (Nat.le_of_ble_eq_true rfl) rfl (c_power hpc) ?_
      rintro _ w1 ⟨rfl, rfl⟩
      first | refine R_imulN (q := 48) dX8_mean_47 rfl ?_ | refine R_imul (q := 48) dX8_mean_47 rfl ?_
      refine R_bipush (v := nI 10) (q := 50) dX8_mean_48 (by decide) rfl ?_
      refine R_iload_n (i := 1) (q := 51) dX8_mean_50 rfl rfl rfl ?_
      refine R_isubN (hx) (q := 52) dX8_mean_51 rfl ?_
      refine R_iconst (v := nI 4) (q := 53) dX8_mean_52 (by decide) rfl ?_
      refine R_iload (q := 55) dX8_mean_53 rfl rfl ?_
      refine R_cS1i (M' := MX8_ones) (q := 58) dX8_mean_55 ml_X8_204 mk_X8_ones (Nat.le_of_ble_eq_true rfl) rfl (c_ones c1) ?_
      rintro _ w1 ⟨rfl, rfl⟩
      refine R_isubN (hpc) (q := 59) dX8_mean_58 rfl ?_
      refine R_cS2i (M' := MX8_power) (q := 62) dX8_mean_59 ml_X8_218 mk_X8_power (Nat.le_of_ble_eq_true rfl) rfl (c_power (by omega)) ?_
      rintro _ w1 ⟨rfl, rfl⟩
      first | refine R_imulN (q := 63) dX8_mean_62 rfl ?_ | refine R_imul (q := 63) dX8_mean_62 rfl ?_
      first | refine R_iaddN (q := 64) dX8_mean_63 rfl ?_ | refine R_iadd (q := 64) dX8_mean_63 rfl ?_
      refine R_istore_n (i := 3) (q := 65) (loc' := [(3, _), (4, _), (0, _), (1, _), (2, _)]) dX8_mean_64 rfl (by decide) (by rfl) rfl ?_
      first | refine R_iincN (q := 68) (loc' := [(4, _), (3, _), (0, _), (1, _), (2, _)]) dX8_mean_65 (by rfl) (by decide) (by rfl) rfl ?_ | refine R_iinc (q := 68) (loc' := [(4, _), (3, _), (0, _), (1, _), (2, _)]) dX8_mean_65 (by rfl) (by rfl) (by decide) (by rfl) rfl ?_
      refine R_goto (q := 20) dX8_mean_68 (by decide) ?_
      refine R_loc [0, 1, 2, 3, 4] (loc' := [(4, _), (3, _), (0, _), (1, _), (2, _)]) (by rfl) ?_
      exact e
theorem c_mmean {x u : Int32} (hR : ModR w A) (hA : AOK A) : Ct X 1 (d + 5) MX8_mean [vR 8 0 [], vI x, vI u] w (qI fun z w' => z = opMean A x u ∧ ModR w' A) := by
  unfold opMean
  refine Ct.of (by decide) rfl (Nat.le_of_ble_eq_true rfl) ?_
  show Wq _ _ _ _ 0 [(0, _), (1, _), (2, _)] [] _ _
  refine R_iload_n (i := 1) (q := 1) dX8_mean_0 rfl rfl rfl ?_
  refine R_i2l (q := 2) dX8_mean_1 rfl ?_
  refine R_lconst (v := 0) (q := 3) dX8_mean_2 (by decide) rfl ?_
  refine R_ldc2 (q := 6) dX8_mean_3 kc_X8_216 rfl ?_
  refine R_cS3i (M' := MX8_in) (q := 9) dX8_mean_6 ml_X8_57 mk_X8_in (Nat.le_of_ble_eq_true rfl) rfl (c_in) ?_
  rintro _ w ⟨rfl, rfl⟩
  rw [bI_iff (in64 (n := 11) (by decide) rfl)]
  refine R_if_neB (tgt := 15) (q := 12) dX8_mean_9 (by decide) rfl (fun c2 => ?_) (fun c2 => ?_)
  · rw [if_pos c2]
    obtain ⟨b, hb, rfl⟩ := inN_ex (by decide) c2
    rw [cl_nI (by omega)]
    refine R_iconst (v := nI 0) (q := 16) dX8_mean_15 (by decide) rfl ?_
    refine R_istore_n (i := 3) (q := 17) (loc' := [(3, _), (0, _), (1, _), (2, _)]) dX8_mean_16 rfl (by decide) (by rfl) rfl ?_
    refine R_iconst (v := nI 0) (q := 18) dX8_mean_17 (by decide) rfl ?_
    refine R_istore (q := 20) (loc' := [(4, _), (3, _), (0, _), (1, _), (2, _)]) dX8_mean_18 (by decide) (by rfl) rfl ?_
    refine Wq_mono (l_mme (w0 := w) hR hA (by omega) 16 0 w (by omega) (by omega) Fr.rf) ?_
    rintro z w2 ⟨h1, h2⟩
    exact ⟨h1, hR.sc (h2.m (by decide) (by decide))⟩
  · rw [if_neg c2]
    refine R_bipush (v := (-2)) (q := 14) dX8_mean_12 (by decide) rfl ?_
    refine R_ri dX8_mean_14 rfl ?_
    exact ⟨rfl, hR⟩
theorem c_mseed {v : Int64} (hR : ModR w A) : Ct X 1 d MX8_seed [vR 8 0 [], vL v] w (qL fun u w' => u = (opSeed A v).1 ∧ ModR w' (opSeed A v).2) := by
  refine Ct.of (by decide) rfl (Nat.le_of_ble_eq_true rfl) ?_
  show Wq _ _ _ _ 0 [(0, _), (1, _)] [] _ _
  refine R_aload_n (i := 0) (q := 1) dX8_seed_0 rfl rfl rfl ?_
  refine R_getL (q := 4) dX8_seed_1 fl_X8_221 rfl rfl ?_
  refine R_lstore_n (i := 3) (q := 5) (loc' := [(3, _), (0, _), (1, _)]) dX8_seed_4 rfl (by decide) (by rfl) rfl ?_
  refine R_aload_n (i := 0) (q := 6) dX8_seed_5 rfl rfl rfl ?_
  refine R_lload_n (i := 1) (q := 7) dX8_seed_6 rfl rfl rfl ?_
  refine R_putL (q := 10) dX8_seed_7 fl_X8_221 rfl one8 rfl ?_
  refine R_lload_n (i := 3) (q := 11) dX8_seed_10 rfl rfl rfl ?_
  refine R_rl dX8_seed_11 rfl ?_
  obtain ⟨h1, h2, h3, h4, h5, h6⟩ := hR
  exact ⟨h6, h1, h2, h3, h4, h5, uL_same _ _ _⟩
theorem dT_r {S : Pic} {z : Int64} (h : OKr S) : ∀ i, OKr (dT S z i)
  | 0 => h
  | i + 1 => by
    have ih := dT_r (z := z) h i
    have ho := dT_ok (z := z) h.1 (i + 1)
    have ho0 := dT_ok (z := z) h.1 i
    refine ⟨ho.1, by rw [ho.2.2.1]; exact h.2.1, by rw [ho.2.2.2]; exact h.2.2.1, ?_⟩
    intro k hk
    rw [ho.2.1]
    simp only [dT]
    by_cases h0 : pN S = 0
    · exact Or.inr h0
    · rw [if_neg h0]
      left
      show fnU (pdt (dT S z i)) _ _ k < pN S
      unfold fnU
      split
      · exact Nat.mod_lt _ (by omega)
      · have := ih.2.2.2 k hk
        rw [ho0.2.1] at this
        omega
theorem ModR.zz {w' : Wd} {v : Int64} (h : ModR w A) (hf : Fz F3 w w') (hz : w'.2 [] = v) : ModR w' (aN A, aX A, aP A, aA A, aK A, aM A, aL A, aV A, v) := by
  have h1 : Fr F3 w (w'.1, w.2) := ⟨rfl, hf⟩
  have h2 := h.sc (h1.m (by decide) (by decide))
  exact ⟨h2.1, h2.2.1, h2.2.2.1, h2.2.2.2.1, h2.2.2.2.2.1, hz⟩
theorem l_mdrawn {w0 : Wd} {m : Nat} (hm : m ≤ 20) (hR : ModR w0 A) (hA : AOK A) : ∀ (f i : Nat) (w : Wd), m ≤ i + f → i ≤ m → RowA w [6] (dT (aP A) (aZ A) i) → w.2 [] = dz (aZ A) i → Fz F3 w0 w → Wq X 1 (d + 5) MX8_drawn 30 [(3, vI (nI i)), (2, vI (nI (dSum (aP A) (aZ A) i))), (0, vR 8 0 []), (1, vI (nI m))] [] w (qI fun z w' => z = nI (dSum (aP A) (aZ A) m) ∧ w'.2 [] = dz (aZ A) m ∧ Fz F3 w0 w') := by
  intro f
  induction f with
  | zero =>
    intro i w h1 h2 hT hz hF
    refine R_iload_n (i := 3) (q := 31) dX8_drawn_30 rfl rfl rfl ?_
    refine R_iload_n (i := 1) (q := 32) dX8_drawn_31 rfl rfl rfl ?_
    refine R_icmp_geN (by omega) (by omega) (tgt := 123) (q := 35) dX8_drawn_32 (by decide) rfl (fun c1 => ?_) (fun c1 => ?_)
    · obtain rfl : i = m := by omega
      refine R_iload_n (i := 2) (q := 124) dX8_drawn_123 rfl rfl rfl ?_
      refine R_ri dX8_drawn_124 rfl ?_
      exact ⟨rfl, hz, hF⟩
    · omega
  | succ f ih =>
    intro i w h1 h2 hT hz hF
    refine R_iload_n (i := 3) (q := 31) dX8_drawn_30 rfl rfl rfl ?_
    refine R_iload_n (i := 1) (q := 32) dX8_drawn_31 rfl rfl rfl ?_
    refine R_icmp_geN (by omega) (by omega) (tgt := 123) (q := 35) dX8_drawn_32 (by decide) rfl (fun c1 => ?_) (fun c1 => ?_)
    · obtain rfl : i = m := by omega
      refine R_iload_n (i := 2) (q := 124) dX8_drawn_123 rfl rfl rfl ?_
      refine R_ri dX8_drawn_124 rfl ?_
      exact ⟨rfl, hz, hF⟩
    · have hok := dT_ok (z := aZ A) hA.2.1.o i
      have hok1 := dT_ok (z := aZ A) hA.2.1.o (i + 1)
      have hr1 := dT_r (z := aZ A) hA.2.1.r (i + 1)
      obtain ⟨hOK1, hOK2, hOK3, hOK4, hOK5, -⟩ := id hA.2.1
      have hv31 := dvN_lt (dz (aZ A) (i + 1))
      have hn9 : w.1 [] 4 = nI (pN (aP A)) := by rw [hF _ (by decide)]; exact hR.2.1.1.2.2
      refine R_aload_n (i := 0) (q := 36) dX8_drawn_35 rfl rfl rfl ?_
      refine R_aload_n (i := 0) (q := 37) dX8_drawn_36 rfl rfl rfl ?_
      refine R_getL (q := 40) dX8_drawn_37 fl_X8_221 rfl rfl ?_
      refine R_ldc2 (q := 43) dX8_drawn_40 kc_X8_227 rfl ?_
      refine R_lmul (q := 44) dX8_drawn_43 rfl ?_
      refine R_ldc2 (q := 47) dX8_drawn_44 kc_X8_229 rfl ?_
      refine R_ladd (q := 48) dX8_drawn_47 rfl ?_
      refine R_putL (q := 51) dX8_drawn_48 fl_X8_221 rfl one8 rfl ?_
      refine R_aload_n (i := 0) (q := 52) dX8_drawn_51 rfl rfl rfl ?_
      refine R_getL (q := 55) dX8_drawn_52 fl_X8_221 rfl rfl ?_
      rw [uL_same, hz, show dz (aZ A) i * 6364136223846793005 + 1442695040888963407 = dz (aZ A) (i + 1) from rfl]
      refine R_bipush (v := nI 33) (q := 57) dX8_drawn_55 (by decide) rfl ?_
      refine R_lushr (q := 58) dX8_drawn_57 rfl ?_
      refine R_l2i (q := 59) dX8_drawn_58 rfl ?_
      rw [sh33]
      have tail : ∀ w1, RowA w1 [6] (dT (aP A) (aZ A) (i + 1)) → w1.2 [] = dz (aZ A) (i + 1) → Fz F3 w0 w1 → Wq X 1 (d + 5) MX8_drawn 99 [(4, vI (nI (dvN (dz (aZ A) (i + 1))))), (3, vI (nI i)), (2, vI (nI (dSum (aP A) (aZ A) i))), (0, vR 8 0 []), (1, vI (nI m))] [] w1 (qI fun z w' => z = nI (dSum (aP A) (aZ A) m) ∧ w'.2 [] = dz (aZ A) m ∧ Fz F3 w0 w') := by
        intro w1 hS1 hz1 hF1
        have hn1 : w1.1 [] 4 = nI (pN (dT (aP A) (aZ A) (i + 1))) := by rw [hF1 _ (by decide), hok1.2.1]; exact hR.2.1.1.2.2
        refine R_iload_n (i := 2) (q := 100) dX8_drawn_99 rfl rfl rfl ?_
        refine R_aload_n (i := 0) (q := 101) dX8_drawn_100 rfl rfl rfl ?_
        refine R_aload_n (i := 0) (q := 102) dX8_drawn_101 rfl rfl rfl ?_
        refine R_getR (q := 105) dX8_drawn_102 fl_X8_16 rfl (by decide) rfl ?_
        refine R_aload_n (i := 0) (q := 106) dX8_drawn_105 rfl rfl rfl ?_
        refine R_getR (q := 109) dX8_drawn_106 fl_X8_16 rfl (by decide) rfl ?_
        refine R_bipush (v := nI 37) (q := 111) dX8_drawn_109 (by decide) rfl ?_
        refine R_iald' (q := 112) dX8_drawn_111 (rfl) (by omega) (by decide) (hS1.2.2.2) rfl ?_
        refine R_cV2i (M' := MX8_missBy) (q := 115) dX8_drawn_112 ml_X8_142 mk_X8_missBy (Nat.le_of_ble_eq_true rfl) rfl (c_mmissBy hn1 hr1 hS1 (Or.inr rfl) hr1.2.2.1) ?_
        rintro _ w2 ⟨rfl, hF2⟩
        rw [hok1.2.2.1, hok1.2.2.2]
        first | refine R_iaddN (q := 116) dX8_drawn_115 rfl ?_ | refine R_iadd (q := 116) dX8_drawn_115 rfl ?_
        refine R_istore_n (i := 2) (q := 117) (loc' := [(2, _), (4, _), (3, _), (0, _), (1, _)]) dX8_drawn_116 rfl (by decide) (by rfl) rfl ?_
        first | refine R_iincN (q := 120) (loc' := [(3, _), (2, _), (4, _), (0, _), (1, _)]) dX8_drawn_117 (by rfl) (by decide) (by rfl) rfl ?_ | refine R_iinc (q := 120) (loc' := [(3, _), (2, _), (4, _), (0, _), (1, _)]) dX8_drawn_117 (by rfl) (by rfl) (by decide) (by rfl) rfl ?_
        refine R_goto (q := 30) dX8_drawn_120 (by decide) ?_
        refine R_loc [0, 1, 3, 4] (loc' := [(3, _), (2, _), (0, _), (1, _)]) (by rfl) ?_
        refine ih (i + 1) w2 (by omega) (by omega) (hS1.fr hF2 (by decide)) (by rw [hF2.1]; exact hz1) ?_
        intro q hq
        rw [hF2.2 q (fun h => hq ((show ∀ q, q ∈ FL2 → q ∈ F3 by decide) q h))]
        exact hF1 q hq
      refine R_istore (q := 61) (loc' := [(4, _), (3, _), (2, _), (0, _), (1, _)]) dX8_drawn_59 (by decide) (by rfl) rfl ?_
      refine R_aload_n (i := 0) (q := 62) dX8_drawn_61 rfl rfl rfl ?_
      refine R_getI' (q := 65) dX8_drawn_62 fl_X8_54 rfl (hn9) rfl ?_
      refine R_if_le (tgt := 99) (q := 68) dX8_drawn_65 (by decide) rfl (fun c2 => ?_) (fun c2 => ?_)
      · have h0 : pN (aP A) = 0 := by
          rcases Nat.eq_zero_or_pos (pN (aP A)) with h | h
          · exact h
          · exact absurd c2 (nI_nle h (by omega))
        refine tail _ ?_ (uL_same _ _ _) hF
        simp only [dT]
        rw [if_pos h0]
        exact hT
      · have h0 : pN (aP A) ≠ 0 := fun h => c2 (by rw [h]; decide)
        have hb1 : dvN (dz (aZ A) (i + 1)) / 4 % 4 < 4 := Nat.mod_lt _ (by decide)
        have hb2 : dvN (dz (aZ A) (i + 1)) % 4 < 4 := Nat.mod_lt _ (by decide)
        refine R_aload_n (i := 0) (q := 69) dX8_drawn_68 rfl rfl rfl ?_
        refine R_getR (q := 72) dX8_drawn_69 fl_X8_16 rfl (by decide) rfl ?_
        refine R_bipush (v := nI 20) (q := 74) dX8_drawn_72 (by decide) rfl ?_
        refine R_iconst (v := nI 4) (q := 75) dX8_drawn_74 (by decide) rfl ?_
        refine R_iload (q := 77) dX8_drawn_75 rfl rfl ?_
        refine R_iconst (v := nI 4) (q := 78) dX8_drawn_77 (by decide) rfl ?_
        refine R_idivN (by omega) (by omega) (by omega) (q := 79) dX8_drawn_78 rfl ?_
        refine R_iconst (v := nI 4) (q := 80) dX8_drawn_79 (by decide) rfl ?_
        refine R_iremN (by omega) (by omega) (by omega) (q := 81) dX8_drawn_80 rfl ?_
        first | refine R_imulN (q := 82) dX8_drawn_81 rfl ?_ | refine R_imul (q := 82) dX8_drawn_81 rfl ?_
        first | refine R_iaddN (q := 83) dX8_drawn_82 rfl ?_ | refine R_iadd (q := 83) dX8_drawn_82 rfl ?_
        refine R_iload (q := 85) dX8_drawn_83 rfl rfl ?_
        refine R_iconst (v := nI 4) (q := 86) dX8_drawn_85 (by decide) rfl ?_
        refine R_iremN (by omega) (by omega) (by omega) (q := 87) dX8_drawn_86 rfl ?_
        first | refine R_iaddN (q := 88) dX8_drawn_87 rfl ?_ | refine R_iadd (q := 88) dX8_drawn_87 rfl ?_
        refine R_iload (q := 90) dX8_drawn_88 rfl rfl ?_
        refine R_bipush (v := nI 16) (q := 92) dX8_drawn_90 (by decide) rfl ?_
        refine R_idivN (by omega) (by omega) (by omega) (q := 93) dX8_drawn_92 rfl ?_
        refine R_aload_n (i := 0) (q := 94) dX8_drawn_93 rfl rfl rfl ?_
        refine R_getI' (q := 97) dX8_drawn_94 fl_X8_54 rfl (hn9) rfl ?_
        refine R_iremN (by omega) (by omega) (by omega) (q := 98) dX8_drawn_97 rfl ?_
        refine R_iast (q := 99) dX8_drawn_98 (congrArg nI (show 20 + 4 * (dvN (dz (aZ A) (i + 1)) / 4 % 4) + dvN (dz (aZ A) (i + 1)) % 4 = 20 + (dvN (dz (aZ A) (i + 1)) / 4 % 4 * 4 + dvN (dz (aZ A) (i + 1)) % 4) by omega)) (by omega) (by decide) rfl ?_
        refine tail _ ?_ (show (uL w [] (dz (aZ A) (i + 1))).2 [] = dz (aZ A) (i + 1) from uL_same _ _ _) ?_
        · simp only [dT]
          rw [if_neg h0]
          exact RowA_dt (w := uL w [] (dz (aZ A) (i + 1))) hok.1.1 (by omega) hT
        · intro q hq
          have hq6 : q ≠ [6] := fun h => hq (by rw [h]; decide)
          exact (uA_ne (w := uL w [] (dz (aZ A) (i + 1))) hq6).trans (hF q hq)
theorem c_mdrawn {m : Int32} (hR : ModR w A) (hA : AOK A) : Ct X 1 (d + 5) MX8_drawn [vR 8 0 [], vI m] w (qI fun z w' => z = (opDrawn A m).1 ∧ ModR w' (opDrawn A m).2) := by
  unfold opDrawn
  have n5 : ((1 : Int64) ≤ m.toInt64 ∧ m.toInt64 ≤ 20) ↔ (inN m 21 ∧ ¬ m = 0) := by
    have e : m = 0 ↔ m.toInt = 0 := by
      rw [← Int32.toInt_inj]
      rfl
    rw [e]
    unfold inN
    rw [Int64.le_iff_toInt_le, Int64.le_iff_toInt_le, Int32.toInt_toInt64, Int32.lt_iff_toInt_lt, Int32.le_iff_toInt_le, show (1 : Int64).toInt = 1 from rfl, show (20 : Int64).toInt = 20 from rfl, show (nI 21).toInt = 21 from rfl, show (0 : Int32).toInt = 0 from rfl]
    omega
  refine Ct.of (by decide) rfl (Nat.le_of_ble_eq_true rfl) ?_
  show Wq _ _ _ _ 0 [(0, _), (1, _)] [] _ _
  refine R_iload_n (i := 1) (q := 1) dX8_drawn_0 rfl rfl rfl ?_
  refine R_i2l (q := 2) dX8_drawn_1 rfl ?_
  refine R_lconst (v := 1) (q := 3) dX8_drawn_2 (by decide) rfl ?_
  refine R_ldc2 (q := 6) dX8_drawn_3 kc_X8_225 rfl ?_
  refine R_cS3i (M' := MX8_in) (q := 9) dX8_drawn_6 ml_X8_57 mk_X8_in (Nat.le_of_ble_eq_true rfl) rfl (c_in) ?_
  rintro _ w ⟨rfl, rfl⟩
  rw [bI_iff n5]
  refine R_if_neB (tgt := 15) (q := 12) dX8_drawn_9 (by decide) rfl (fun c1 => ?_) (fun c1 => ?_)
  · rw [if_pos c1]
    obtain ⟨k, hk, rfl⟩ := inN_ex (by decide) c1.1
    rw [cl_nI (by omega)]
    refine R_aload_n (i := 0) (q := 16) dX8_drawn_15 rfl rfl rfl ?_
    refine R_getR (q := 19) dX8_drawn_16 fl_X8_13 rfl (by decide) rfl ?_
    refine R_aload_n (i := 0) (q := 20) dX8_drawn_19 rfl rfl rfl ?_
    refine R_getR (q := 23) dX8_drawn_20 fl_X8_16 rfl (by decide) rfl ?_
    refine R_cS2v (M' := MX8_copy) (q := 26) dX8_drawn_23 ml_X8_134 mk_X8_copy (Nat.le_of_ble_eq_true rfl) rfl (c_mcopy (by decide) hA.2.1.2.2.1 hR.2.1.2) ?_
    rintro w1 ⟨hS1, hF1⟩
    refine R_iconst (v := nI 0) (q := 27) dX8_drawn_26 (by decide) rfl ?_
    refine R_istore_n (i := 2) (q := 28) (loc' := [(2, _), (0, _), (1, _)]) dX8_drawn_27 rfl (by decide) (by rfl) rfl ?_
    refine R_iconst (v := nI 0) (q := 29) dX8_drawn_28 (by decide) rfl ?_
    refine R_istore_n (i := 3) (q := 30) (loc' := [(3, _), (2, _), (0, _), (1, _)]) dX8_drawn_29 rfl (by decide) (by rfl) rfl ?_
    refine Wq_mono (l_mdrawn (w0 := w) (by omega) hR hA k 0 w1 (by omega) (by omega) hS1 ?_ ?_) ?_
    · rw [hF1.1]
      exact hR.2.2.2.2.2
    · exact (hF1.up (by decide)).2
    · rintro z w2 ⟨h1, h2, h3⟩
      exact ⟨h1, hR.zz h3 h2⟩
  · rw [if_neg c1]
    refine R_bipush (v := (-2)) (q := 14) dX8_drawn_12 (by decide) rfl ?_
    refine R_ri dX8_drawn_14 rfl ?_
    exact ⟨rfl, hR⟩
theorem l_mkeep {w0 : Wd} {n lo : Nat} (hn : n < 2) (hlo : w0.1 [5] 37 = nI lo) (P : Int32 → Wd → Prop) (kk : ∀ w, (∀ j, j < 38 → w.1 [10] (38 * n + j) = w0.1 [5] j) → (∀ j, j < 38 * n ∨ 38 * n + 38 ≤ j → w.1 [10] j = w0.1 [10] j) → Fr [[10]] w0 w → P (nI lo) w) : ∀ (f k : Nat) (w : Wd), 38 ≤ k + f → k ≤ 38 → (∀ j, j < k → w.1 [10] (38 * n + j) = w0.1 [5] j) → (∀ j, j < 38 * n ∨ 38 * n + 38 ≤ j → w.1 [10] j = w0.1 [10] j) → Fr [[10]] w0 w → Wq X 1 (d + 1) MX8_keep 21 [(2, vI (nI k)), (0, vR 8 0 []), (1, vI (nI n))] [] w (qI P) := by
  intro f
  induction f with
  | zero =>
    intro k w h1 h2 hj hj2 hF
    refine R_iload_n (i := 2) (q := 22) dX8_keep_21 rfl rfl rfl ?_
    refine R_bipush (v := nI 38) (q := 24) dX8_keep_22 (by decide) rfl ?_
    refine R_icmp_geN (by omega) (by omega) (tgt := 50) (q := 27) dX8_keep_24 (by decide) rfl (fun c1 => ?_) (fun c1 => ?_)
    · obtain rfl : k = 38 := by omega
      refine R_aload_n (i := 0) (q := 51) dX8_keep_50 rfl rfl rfl ?_
      refine R_getR (q := 54) dX8_keep_51 fl_X8_13 rfl (by decide) rfl ?_
      refine R_bipush (v := nI 37) (q := 56) dX8_keep_54 (by decide) rfl ?_
      refine R_iald' (q := 57) dX8_keep_56 (rfl) (by omega) (by decide) ((congrFun (hF.2 [5] (by decide)) 37).trans hlo) rfl ?_
      refine R_ri dX8_keep_57 rfl ?_
      exact kk w hj hj2 hF
    · omega
  | succ f ih =>
    intro k w h1 h2 hj hj2 hF
    refine R_iload_n (i := 2) (q := 22) dX8_keep_21 rfl rfl rfl ?_
    refine R_bipush (v := nI 38) (q := 24) dX8_keep_22 (by decide) rfl ?_
    refine R_icmp_geN (by omega) (by omega) (tgt := 50) (q := 27) dX8_keep_24 (by decide) rfl (fun c1 => ?_) (fun c1 => ?_)
    · obtain rfl : k = 38 := by omega
      refine R_aload_n (i := 0) (q := 51) dX8_keep_50 rfl rfl rfl ?_
      refine R_getR (q := 54) dX8_keep_51 fl_X8_13 rfl (by decide) rfl ?_
      refine R_bipush (v := nI 37) (q := 56) dX8_keep_54 (by decide) rfl ?_
      refine R_iald' (q := 57) dX8_keep_56 (rfl) (by omega) (by decide) ((congrFun (hF.2 [5] (by decide)) 37).trans hlo) rfl ?_
      refine R_ri dX8_keep_57 rfl ?_
      exact kk w hj hj2 hF
    · refine R_aload_n (i := 0) (q := 28) dX8_keep_27 rfl rfl rfl ?_
      refine R_getR (q := 31) dX8_keep_28 fl_X8_22 rfl (by decide) rfl ?_
      refine R_bipush (v := nI 38) (q := 33) dX8_keep_31 (by decide) rfl ?_
      refine R_iload_n (i := 1) (q := 34) dX8_keep_33 rfl rfl rfl ?_
      first | refine R_imulN (q := 35) dX8_keep_34 rfl ?_ | refine R_imul (q := 35) dX8_keep_34 rfl ?_
      refine R_iload_n (i := 2) (q := 36) dX8_keep_35 rfl rfl rfl ?_
      first | refine R_iaddN (q := 37) dX8_keep_36 rfl ?_ | refine R_iadd (q := 37) dX8_keep_36 rfl ?_
      refine R_aload_n (i := 0) (q := 38) dX8_keep_37 rfl rfl rfl ?_
      refine R_getR (q := 41) dX8_keep_38 fl_X8_13 rfl (by decide) rfl ?_
      refine R_iload_n (i := 2) (q := 42) dX8_keep_41 rfl rfl rfl ?_
      refine R_iald' (q := 43) dX8_keep_42 (rfl) (by omega) (by decide) (congrFun (hF.2 [5] (by decide)) k) rfl ?_
      refine R_iast (q := 44) dX8_keep_43 (rfl) (by omega) (by decide) rfl ?_
      first | refine R_iincN (q := 47) (loc' := [(2, _), (0, _), (1, _)]) dX8_keep_44 (by rfl) (by decide) (by rfl) rfl ?_ | refine R_iinc (q := 47) (loc' := [(2, _), (0, _), (1, _)]) dX8_keep_44 (by rfl) (by rfl) (by decide) (by rfl) rfl ?_
      refine R_goto (q := 21) dX8_keep_47 (by decide) ?_
      refine ih (k + 1) _ (by omega) (by omega) ?_ ?_ (hF.tr (Fr.i (by simp)))
      · intro j hjk
        by_cases h : j = k
        · rw [h]; exact uI_same _ _ _ _
        · rw [uI_ne (by omega)]; exact hj j (by omega)
      · intro j hjk
        rw [uI_ne (by omega)]
        exact hj2 j hjk
theorem c_mkeep {x : Int32} (hR : ModR w A) (hA : AOK A) : Ct X 1 (d + 1) MX8_keep [vR 8 0 [], vI x] w (qI fun u w' => u = (opKeep A x).1 ∧ ModR w' (opKeep A x).2) := by
  obtain ⟨h1, h2, h3, h4, h5, h6⟩ := id hR
  have hN := hA.2.1.2.2.1
  unfold opKeep
  refine Ct.of (by decide) rfl (Nat.le_of_ble_eq_true rfl) ?_
  show Wq _ _ _ _ 0 [(0, _), (1, _)] [] _ _
  refine R_iload_n (i := 1) (q := 1) dX8_keep_0 rfl rfl rfl ?_
  refine R_i2l (q := 2) dX8_keep_1 rfl ?_
  refine R_lconst (v := 0) (q := 3) dX8_keep_2 (by decide) rfl ?_
  refine R_lconst (v := 1) (q := 4) dX8_keep_3 (by decide) rfl ?_
  refine R_cS3i (M' := MX8_in) (q := 7) dX8_keep_4 ml_X8_57 mk_X8_in (Nat.le_of_ble_eq_true rfl) rfl (c_in) ?_
  rintro _ w ⟨rfl, rfl⟩
  rw [bI_iff (in64 (n := 2) (by decide) rfl)]
  refine R_if_neB (tgt := 12) (q := 10) dX8_keep_7 (by decide) rfl (fun c1 => ?_) (fun c1 => ?_)
  · rw [if_pos c1]
    obtain ⟨a, ha, rfl⟩ := inN_ex (by decide) c1
    rw [cl_nI (by omega)]
    refine R_aload_n (i := 0) (q := 13) dX8_keep_12 rfl rfl rfl ?_
    refine R_getR (q := 16) dX8_keep_13 fl_X8_25 rfl (by decide) rfl ?_
    refine R_iload_n (i := 1) (q := 17) dX8_keep_16 rfl rfl rfl ?_
    refine R_iconst (v := nI 1) (q := 18) dX8_keep_17 (by decide) rfl ?_
    refine R_zast (q := 19) dX8_keep_18 (rfl) (by omega) (by decide) (by decide) rfl ?_
    refine R_iconst (v := nI 0) (q := 20) dX8_keep_19 (by decide) rfl ?_
    refine R_istore_n (i := 2) (q := 21) (loc' := [(2, _), (0, _), (1, _)]) dX8_keep_20 rfl (by decide) (by rfl) rfl ?_
    refine l_mkeep (w0 := uI w [11] a (nI 1)) ha ((uI_nep (by decide)).trans h2.2.2.2.2) _ ?_ 38 0 _ (by omega) (by omega) (fun j hj => absurd hj (Nat.not_lt_zero j)) (fun _ _ => rfl) Fr.rf
    intro w2 hj hj2 hF2
    have hG : Fm [[10], [11]] [] w w2 := (Fm.i (by decide) (by decide)).tr (hF2.m (by decide) (by decide))
    refine ⟨rfl, h1.fm hG (by decide) (by decide), h2.fm hG (by decide) (by decide) (by decide) (by decide), h3.fm hG (by decide) (by decide) (by decide), ?_, h5.fm hG (by decide) (by decide) (by decide), by rw [hG.1]; exact h6⟩
    intro i hi
    show (fnU (aK A) a (some (aP A)) i = none ∧ _) ∨ ∃ S, fnU (aK A) a (some (aP A)) i = some S ∧ _
    unfold fnU
    by_cases h : i = a
    · rw [if_pos h, h]
      refine Or.inr ⟨aP A, rfl, ?_, ?_⟩
      · rw [hF2.2 _ (by decide)]
        exact uI_same _ _ _ _
      · refine h2.2.toB hN ?_
        intro y hy
        rw [hj y hy, uI_nep (by decide)]
    · rw [if_neg h]
      have e11 : w2.1 [11] i = w.1 [11] i := by
        rw [hF2.2 _ (by decide)]
        exact uI_ne h
      rw [e11]
      rcases h4 i hi with g | ⟨S, g1, g2, g3⟩
      · exact Or.inl g
      · refine Or.inr ⟨S, g1, g2, g3.toB ((hA.2.2.2.2.1 i S g1).1.2.2.1) ?_⟩
        intro y hy
        rw [hj2 _ (by omega), uI_nep (by decide)]
  · rw [if_neg c1]
    refine R_iconst (v := (-1)) (q := 11) dX8_keep_10 (by decide) rfl ?_
    refine R_ri dX8_keep_11 rfl ?_
    exact ⟨rfl, hR⟩
theorem l_magain {w0 : Wd} {n : Nat} (hn : n < 2) (Q : Option AV → Wd → Prop) (kk : ∀ w, (∀ j, j < 38 → w.1 [5] j = w0.1 [10] (38 * n + j)) → Fr [[5]] w0 w → Wq X 1 (d + 1) MX8_again 55 [(2, vI (nI 38)), (0, vR 8 0 []), (1, vI (nI n))] [] w Q) : ∀ (f k : Nat) (w : Wd), 38 ≤ k + f → k ≤ 38 → (∀ j, j < k → w.1 [5] j = w0.1 [10] (38 * n + j)) → Fr [[5]] w0 w → Wq X 1 (d + 1) MX8_again 26 [(2, vI (nI k)), (0, vR 8 0 []), (1, vI (nI n))] [] w Q := by
  intro f
  induction f with
  | zero =>
    intro k w h1 h2 hj hF
    refine R_iload_n (i := 2) (q := 27) dX8_again_26 rfl rfl rfl ?_
    refine R_bipush (v := nI 38) (q := 29) dX8_again_27 (by decide) rfl ?_
    refine R_icmp_geN (by omega) (by omega) (tgt := 55) (q := 32) dX8_again_29 (by decide) rfl (fun c1 => ?_) (fun c1 => ?_)
    · obtain rfl : k = 38 := by omega
      exact kk w hj hF
    · omega
  | succ f ih =>
    intro k w h1 h2 hj hF
    refine R_iload_n (i := 2) (q := 27) dX8_again_26 rfl rfl rfl ?_
    refine R_bipush (v := nI 38) (q := 29) dX8_again_27 (by decide) rfl ?_
    refine R_icmp_geN (by omega) (by omega) (tgt := 55) (q := 32) dX8_again_29 (by decide) rfl (fun c1 => ?_) (fun c1 => ?_)
    · obtain rfl : k = 38 := by omega
      exact kk w hj hF
    · refine R_aload_n (i := 0) (q := 33) dX8_again_32 rfl rfl rfl ?_
      refine R_getR (q := 36) dX8_again_33 fl_X8_13 rfl (by decide) rfl ?_
      refine R_iload_n (i := 2) (q := 37) dX8_again_36 rfl rfl rfl ?_
      refine R_aload_n (i := 0) (q := 38) dX8_again_37 rfl rfl rfl ?_
      refine R_getR (q := 41) dX8_again_38 fl_X8_22 rfl (by decide) rfl ?_
      refine R_bipush (v := nI 38) (q := 43) dX8_again_41 (by decide) rfl ?_
      refine R_iload_n (i := 1) (q := 44) dX8_again_43 rfl rfl rfl ?_
      first | refine R_imulN (q := 45) dX8_again_44 rfl ?_ | refine R_imul (q := 45) dX8_again_44 rfl ?_
      refine R_iload_n (i := 2) (q := 46) dX8_again_45 rfl rfl rfl ?_
      first | refine R_iaddN (q := 47) dX8_again_46 rfl ?_ | refine R_iadd (q := 47) dX8_again_46 rfl ?_
      refine R_iald' (q := 48) dX8_again_47 (rfl) (by omega) (by decide) (congrFun (hF.2 [10] (by decide)) (38 * n + k)) rfl ?_
      refine R_iast (q := 49) dX8_again_48 (rfl) (by omega) (by decide) rfl ?_
      first | refine R_iincN (q := 52) (loc' := [(2, _), (0, _), (1, _)]) dX8_again_49 (by rfl) (by decide) (by rfl) rfl ?_ | refine R_iinc (q := 52) (loc' := [(2, _), (0, _), (1, _)]) dX8_again_49 (by rfl) (by rfl) (by decide) (by rfl) rfl ?_
      refine R_goto (q := 26) dX8_again_52 (by decide) ?_
      refine ih (k + 1) _ (by omega) (by omega) ?_ (hF.tr (Fr.i (by simp)))
      intro j hjk
      by_cases h : j = k
      · rw [h]; exact uI_same _ _ _ _
      · rw [uI_ne h]; exact hj j (by omega)
theorem c_magain {x : Int32} (hR : ModR w A) (hA : AOK A) : Ct X 1 (d + 1) MX8_again [vR 8 0 [], vI x] w (qI fun u w' => u = (opAgain A x).1 ∧ ModR w' (opAgain A x).2) := by
  obtain ⟨h1, h2, h3, h4, h5, h6⟩ := id hR
  unfold opAgain
  refine Ct.of (by decide) rfl (Nat.le_of_ble_eq_true rfl) ?_
  show Wq _ _ _ _ 0 [(0, _), (1, _)] [] _ _
  refine R_iload_n (i := 1) (q := 1) dX8_again_0 rfl rfl rfl ?_
  refine R_i2l (q := 2) dX8_again_1 rfl ?_
  refine R_lconst (v := 0) (q := 3) dX8_again_2 (by decide) rfl ?_
  refine R_lconst (v := 1) (q := 4) dX8_again_3 (by decide) rfl ?_
  refine R_cS3i (M' := MX8_in) (q := 7) dX8_again_4 ml_X8_57 mk_X8_in (Nat.le_of_ble_eq_true rfl) rfl (c_in) ?_
  rintro _ w ⟨rfl, rfl⟩
  rw [bI_iff (in64 (n := 2) (by decide) rfl)]
  refine R_if_neB (tgt := 12) (q := 10) dX8_again_7 (by decide) rfl (fun c1 => ?_) (fun c1 => ?_)
  · rw [if_pos c1]
    obtain ⟨a, ha, rfl⟩ := inN_ex (by decide) c1
    rw [cl_nI (by omega)]
    rcases h4 a ha with ⟨e, hk0⟩ | ⟨S, e, hk1, hB⟩
    · rw [e]
      refine R_aload_n (i := 0) (q := 13) dX8_again_12 rfl rfl rfl ?_
      refine R_getR (q := 16) dX8_again_13 fl_X8_25 rfl (by decide) rfl ?_
      refine R_iload_n (i := 1) (q := 17) dX8_again_16 rfl rfl rfl ?_
      refine R_zald' (q := 18) dX8_again_17 (rfl) (by omega) (by decide) (hk0) rfl ?_
      refine R_if_ne (tgt := 24) (q := 21) dX8_again_18 (by decide) rfl (fun c2 => ?_) (fun c2 => ?_)
      · exact absurd rfl c2
      · refine R_bipush (v := (-3)) (q := 23) dX8_again_21 (by decide) rfl ?_
        refine R_ri dX8_again_23 rfl ?_
        exact ⟨rfl, hR⟩
    · rw [e]
      have hS := hA.2.2.2.2.1 a S e
      refine R_aload_n (i := 0) (q := 13) dX8_again_12 rfl rfl rfl ?_
      refine R_getR (q := 16) dX8_again_13 fl_X8_25 rfl (by decide) rfl ?_
      refine R_iload_n (i := 1) (q := 17) dX8_again_16 rfl rfl rfl ?_
      refine R_zald' (q := 18) dX8_again_17 (rfl) (by omega) (by decide) (hk1) rfl ?_
      refine R_if_ne (tgt := 24) (q := 21) dX8_again_18 (by decide) rfl (fun c2 => ?_) (fun c2 => ?_)
      · refine R_iconst (v := nI 0) (q := 25) dX8_again_24 (by decide) rfl ?_
        refine R_istore_n (i := 2) (q := 26) (loc' := [(2, _), (0, _), (1, _)]) dX8_again_25 rfl (by decide) (by rfl) rfl ?_
        refine l_magain (w0 := w) ha _ ?_ 38 0 w (by omega) (by omega) (fun j hj => absurd hj (Nat.not_lt_zero j)) Fr.rf
        intro w2 hj hF2
        have hA2 : RowA w2 [5] S := hB.toA hS.1.2.2.1 hj
        refine R_aload_n (i := 0) (q := 56) dX8_again_55 rfl rfl rfl ?_
        refine R_iconst (v := nI 0) (q := 57) dX8_again_56 (by decide) rfl ?_
        refine R_putI (q := 60) dX8_again_57 fl_X8_99 rfl rfl ?_
        refine R_aload_n (i := 0) (q := 61) dX8_again_60 rfl rfl rfl ?_
        refine R_getR (q := 64) dX8_again_61 fl_X8_13 rfl (by decide) rfl ?_
        refine R_bipush (v := nI 37) (q := 66) dX8_again_64 (by decide) rfl ?_
        refine R_iald' (q := 67) dX8_again_66 (rfl) (by omega) (by decide) ((uI_nep (by decide)).trans hA2.2.2.2) rfl ?_
        refine R_ri dX8_again_67 rfl ?_
        have hG : Fm [[5]] [8] w (uI w2 [] 8 (nI 0)) := (hF2.m (by decide) (by decide)).tr (Fm.f (by decide))
        refine ⟨rfl, h1.fm hG (by decide) (by decide), ⟨(h2.1.fm hG (by decide) (by decide) (by decide)).dm hS.2, hA2.fm (F := []) (K := [8]) (Fm.f (by decide)) (by decide) (by decide)⟩, ?_, h4.fm hG (by decide) (by decide), h5.fm hG (by decide) (by decide) (by decide), by rw [hG.1]; exact h6⟩
        obtain ⟨n, q1, q2, q3, q4, q5⟩ := h3
        refine ⟨n, q1, ?_, ?_, Nat.zero_le _, fun j S hj => by cases hj⟩
        · exact uI_same _ _ _ _
        · rw [hG.2.2 9 (by decide)]
          exact q3
      · exact absurd c2 (by decide)
  · rw [if_neg c1]
    refine R_iconst (v := (-1)) (q := 11) dX8_again_10 (by decide) rfl ?_
    refine R_ri dX8_again_11 rfl ?_
    exact ⟨rfl, hR⟩
end MI
