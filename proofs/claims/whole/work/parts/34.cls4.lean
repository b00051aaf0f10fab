/-! bits of longs (the first rows are the kit's family, pasted) -/
theorem wb_tb (n : Nat) : (lN n).toBitVec = BitVec.ofNat 64 n := rfl
theorem wb_inj {a b : Int64} (h : a.toBitVec = b.toBitVec) : a = b := Int64.toBitVec_inj.mp h
theorem wb_tn {n : Nat} (h : n < 2 ^ 64) : (lN n).toBitVec.toNat = n := by rw [wb_tb, BitVec.toNat_ofNat, Nat.mod_eq_of_lt h]
theorem wb_cu : ∀ k, k < 64 → ((nI k).toInt64.toUInt64 &&& Int64.toUInt64 63) = UInt64.ofNat k := by decide +kernel
theorem wb_shr {n k : Nat} (hn : n < 2 ^ 64) (hk : k < 64) : ((lN n).toUInt64 >>> ((nI k).toInt64.toUInt64 &&& Int64.toUInt64 63)).toInt64 = lN (n / 2 ^ k) := by
  rw [wb_cu k hk]
  apply wb_inj
  apply BitVec.eq_of_toNat_eq
  show ((lN n).toUInt64 >>> UInt64.ofNat k).toNat = (BitVec.ofNat 64 _).toNat
  have h1 : (UInt64.ofNat k).toNat = k := by
    show (BitVec.ofNat 64 k).toNat = k
    rw [BitVec.toNat_ofNat, Nat.mod_eq_of_lt (by omega)]
  have h2 : (lN n).toUInt64.toNat = n := wb_tn hn
  rw [UInt64.toNat_shiftRight, h1, h2, Nat.mod_eq_of_lt hk, Nat.shiftRight_eq_div_pow, BitVec.toNat_ofNat, Nat.mod_eq_of_lt (Nat.lt_of_le_of_lt (Nat.div_le_self _ _) hn)]
/-- what is drawn of a seed -/
def dvN (x : Int64) : Nat := x.toBitVec.toNat / 2 ^ 33
theorem dvN_lt (x : Int64) : dvN x < 2 ^ 31 := by
  have h := x.toBitVec.isLt
  unfold dvN
  rw [Nat.div_lt_iff_lt_mul (by decide)]
  omega
theorem sh33 (x : Int64) : ((x.toUInt64 >>> ((nI 33).toInt64.toUInt64 &&& Int64.toUInt64 63)).toInt64).toInt32 = nI (dvN x) := by
  have e : x = lN x.toBitVec.toNat := wb_inj (by rw [wb_tb]; simp)
  have h := wb_shr (n := x.toBitVec.toNat) (k := 33) x.toBitVec.isLt (by decide)
  rw [← e] at h
  rw [h, lN_i]
  rfl
/-! fractions -/
theorem mod_half {x y : Nat} (h : y < x) (h0 : 0 < y) : 2 * (x % y) ≤ x := by
  have h1 := Nat.mod_lt x h0
  have h2 := Nat.div_add_mod x y
  have h3 : 1 ≤ x / y := (Nat.le_div_iff_mul_le h0).mpr (by omega)
  have h4 : y * 1 ≤ y * (x / y) := Nat.mul_le_mul_left y h3
  omega
def frD (P Q b : Nat) (u : Int32) : Int32 := if u = 0 then nI b / nI (Nat.gcd (dst P Q) b) else (nI P - nI Q) / nI (Nat.gcd (dst P Q) b)
section FR
variable {X : Cx} {d : Nat} {w : Wd}
theorem l_cd {g b : Nat} {a0 b0 : Int32} (hb : b ≤ 10000) : ∀ (f k x y : Nat) (r5 : Lo), k + f = 64 → 1 ≤ k → Nat.gcd x y = g → y < x → x ≤ 10000 → x * 2 ^ ((k - 1) / 2) ≤ b → y * 2 ^ (k / 2) ≤ b → Wq X 0 d MX7_commonDivisor 7 [(4, vI (nI k)), (3, vI (nI y)), (2, vI (nI x)), (0, vI a0), (1, vI b0)] [] w (qI fun z w' => z = nI g ∧ w' = w) := by
  intro f
  induction f with
  | zero =>
    intro k x y r5 h1 h2 h3 h4 h5 h6 h7
    refine R_iload (q := 9) dX7_commonDivisor_7 rfl rfl ?_
    refine R_bipush (v := nI 64) (q := 11) dX7_commonDivisor_9 (by decide) rfl ?_
    refine R_icmp_geN (by omega) (by omega) (tgt := 34) (q := 14) dX7_commonDivisor_11 (by decide) rfl (fun c1 => ?_) (fun c1 => ?_)
    · have hk : k = 64 := by omega
      subst hk
      have hy : y = 0 := by
        rcases Nat.eq_zero_or_pos y with h | h
        · exact h
        · have : 1 * 2 ^ (64 / 2) ≤ y * 2 ^ (64 / 2) := Nat.mul_le_mul_right _ h
          omega
      subst hy
      rw [Nat.gcd_zero_right] at h3
      refine R_iload_n (i := 2) (q := 35) dX7_commonDivisor_34 rfl rfl rfl ?_
      refine R_ri dX7_commonDivisor_35 rfl ?_
      exact ⟨by rw [h3], rfl⟩
    · omega
  | succ f ih =>
    intro k x y r5 h1 h2 h3 h4 h5 h6 h7
    refine R_iload (q := 9) dX7_commonDivisor_7 rfl rfl ?_
    refine R_bipush (v := nI 64) (q := 11) dX7_commonDivisor_9 (by decide) rfl ?_
    refine R_icmp_geN (by omega) (by omega) (tgt := 34) (q := 14) dX7_commonDivisor_11 (by decide) rfl (fun c1 => ?_) (fun c1 => ?_)
    · omega
    · refine R_iload_n (i := 3) (q := 15) dX7_commonDivisor_14 rfl rfl rfl ?_
      refine R_if_eqN (by omega) (tgt := 34) (q := 18) dX7_commonDivisor_15 (by decide) rfl (fun c2 => ?_) (fun c2 => ?_)
      · subst c2
        rw [Nat.gcd_zero_right] at h3
        refine R_iload_n (i := 2) (q := 35) dX7_commonDivisor_34 rfl rfl rfl ?_
        refine R_ri dX7_commonDivisor_35 rfl ?_
        exact ⟨by rw [h3], rfl⟩
      · refine R_iload_n (i := 2) (q := 19) dX7_commonDivisor_18 rfl rfl rfl ?_
        refine R_iload_n (i := 3) (q := 20) dX7_commonDivisor_19 rfl rfl rfl ?_
        refine R_iremN (by omega) (by omega) (by omega) (q := 21) dX7_commonDivisor_20 rfl ?_
        refine R_istore (q := 23) (loc' := [(5, _), (4, _), (3, _), (2, _), (0, _), (1, _)]) dX7_commonDivisor_21 (by decide) (by rfl) rfl ?_
        refine R_iload_n (i := 3) (q := 24) dX7_commonDivisor_23 rfl rfl rfl ?_
        refine R_istore_n (i := 2) (q := 25) (loc' := [(2, _), (5, _), (4, _), (3, _), (0, _), (1, _)]) dX7_commonDivisor_24 rfl (by decide) (by rfl) rfl ?_
        refine R_iload (q := 27) dX7_commonDivisor_25 rfl rfl ?_
        refine R_istore_n (i := 3) (q := 28) (loc' := [(3, _), (2, _), (5, _), (4, _), (0, _), (1, _)]) dX7_commonDivisor_27 rfl (by decide) (by rfl) rfl ?_
        first | refine R_iincN (q := 31) (loc' := [(4, _), (3, _), (2, _), (5, _), (0, _), (1, _)]) dX7_commonDivisor_28 (by rfl) (by decide) (by rfl) rfl ?_ | refine R_iinc (q := 31) (loc' := [(4, _), (3, _), (2, _), (5, _), (0, _), (1, _)]) dX7_commonDivisor_28 (by rfl) (by rfl) (by decide) (by rfl) rfl ?_
        refine R_goto (q := 7) dX7_commonDivisor_31 (by decide) ?_
        refine R_loc [0, 1, 2, 4, 5] (loc' := [(4, _), (3, _), (2, _), (0, _), (1, _)]) (by rfl) ?_
        have hm := Nat.mod_lt x (show 0 < y by omega)
        have hh := mod_half h4 (by omega)
        refine ih (k + 1) y (x % y) [] (by omega) (by omega) ?_ hm (by omega) (by rw [Nat.add_sub_cancel]; exact h7) ?_
        · rw [← h3, Nat.gcd_comm y, ← Nat.gcd_rec, Nat.gcd_comm]
        · have e : (k + 1) / 2 = (k - 1) / 2 + 1 := by omega
          rw [e, Nat.pow_succ, Nat.mul_comm (2 ^ _) 2, ← Nat.mul_assoc]
          refine Nat.le_trans (Nat.mul_le_mul_right _ ?_) h6
          omega
theorem c_cd {m b : Nat} (hm : m < 2 ^ 31) (hb0 : 0 < b) (hb : b ≤ 10000) : Ct X 0 d MX7_commonDivisor [vI (nI m), vI (nI b)] w (qI fun z w' => z = nI (Nat.gcd m b) ∧ w' = w) := by
  refine Ct.of (by decide) rfl (Nat.le_of_ble_eq_true rfl) ?_
  show Wq _ _ _ _ 0 [(0, _), (1, _)] [] _ _
  refine R_iload_n (i := 0) (q := 1) dX7_commonDivisor_0 rfl rfl rfl ?_
  refine R_istore_n (i := 2) (q := 2) (loc' := [(2, _), (0, _), (1, _)]) dX7_commonDivisor_1 rfl (by decide) (by rfl) rfl ?_
  refine R_iload_n (i := 1) (q := 3) dX7_commonDivisor_2 rfl rfl rfl ?_
  refine R_istore_n (i := 3) (q := 4) (loc' := [(3, _), (2, _), (0, _), (1, _)]) dX7_commonDivisor_3 rfl (by decide) (by rfl) rfl ?_
  refine R_iconst (v := nI 0) (q := 5) dX7_commonDivisor_4 (by decide) rfl ?_
  refine R_istore (q := 7) (loc' := [(4, _), (3, _), (2, _), (0, _), (1, _)]) dX7_commonDivisor_5 (by decide) (by rfl) rfl ?_
  refine R_iload (q := 9) dX7_commonDivisor_7 rfl rfl ?_
  refine R_bipush (v := nI 64) (q := 11) dX7_commonDivisor_9 (by decide) rfl ?_
  refine R_icmp_geN (by omega) (by omega) (tgt := 34) (q := 14) dX7_commonDivisor_11 (by decide) rfl (fun c1 => ?_) (fun c1 => ?_)
  · omega
  · refine R_iload_n (i := 3) (q := 15) dX7_commonDivisor_14 rfl rfl rfl ?_
    refine R_if_eqN (by omega) (tgt := 34) (q := 18) dX7_commonDivisor_15 (by decide) rfl (fun c2 => ?_) (fun c2 => ?_)
    · omega
    · refine R_iload_n (i := 2) (q := 19) dX7_commonDivisor_18 rfl rfl rfl ?_
      refine R_iload_n (i := 3) (q := 20) dX7_commonDivisor_19 rfl rfl rfl ?_
      refine R_iremN (by omega) (by omega) (by omega) (q := 21) dX7_commonDivisor_20 rfl ?_
      refine R_istore (q := 23) (loc' := [(5, _), (4, _), (3, _), (2, _), (0, _), (1, _)]) dX7_commonDivisor_21 (by decide) (by rfl) rfl ?_
      refine R_iload_n (i := 3) (q := 24) dX7_commonDivisor_23 rfl rfl rfl ?_
      refine R_istore_n (i := 2) (q := 25) (loc' := [(2, _), (5, _), (4, _), (3, _), (0, _), (1, _)]) dX7_commonDivisor_24 rfl (by decide) (by rfl) rfl ?_
      refine R_iload (q := 27) dX7_commonDivisor_25 rfl rfl ?_
      refine R_istore_n (i := 3) (q := 28) (loc' := [(3, _), (2, _), (5, _), (4, _), (0, _), (1, _)]) dX7_commonDivisor_27 rfl (by decide) (by rfl) rfl ?_
      first | refine R_iincN (q := 31) (loc' := [(4, _), (3, _), (2, _), (5, _), (0, _), (1, _)]) dX7_commonDivisor_28 (by rfl) (by decide) (by rfl) rfl ?_ | refine R_iinc (q := 31) (loc' := [(4, _), (3, _), (2, _), (5, _), (0, _), (1, _)]) dX7_commonDivisor_28 (by rfl) (by rfl) (by decide) (by rfl) rfl ?_
      refine R_goto (q := 7) dX7_commonDivisor_31 (by decide) ?_
      refine R_loc [0, 1, 2, 4, 5] (loc' := [(4, _), (3, _), (2, _), (0, _), (1, _)]) (by rfl) ?_
      have hml := Nat.mod_lt m hb0
      refine l_cd hb 63 1 b (m % b) [] (by omega) (by omega) ?_ hml hb ?_ ?_
      · rw [Nat.gcd_comm b, ← Nat.gcd_rec, Nat.gcd_comm]
      · show b * 2 ^ 0 ≤ b
        omega
      · show m % b * 2 ^ 0 ≤ b
        omega
theorem c_fraction {P Q b : Nat} {u : Int32} (hP : P < 2 ^ 30) (hQ : Q < 2 ^ 30) (hb0 : 0 < b) (hb : b ≤ 10000) : Ct X 0 (d + 1) MX7_fraction [vI (nI P - nI Q), vI (nI b), vI u] w (qI fun z w' => z = frD P Q b u ∧ w' = w) := by
  have hd : dst P Q < 2 ^ 31 := by unfold dst; split <;> omega
  have hg0 : 0 < Nat.gcd (dst P Q) b := Nat.gcd_pos_of_pos_right _ hb0
  have hg1 : Nat.gcd (dst P Q) b ≤ b := Nat.le_of_dvd hb0 (Nat.gcd_dvd_right _ _)
  refine Ct.of (by decide) rfl (Nat.le_of_ble_eq_true rfl) ?_
  show Wq _ _ _ _ 0 [(0, _), (1, _), (2, _)] [] _ _
  refine R_iconst (v := nI 1) (q := 1) dX7_fraction_0 (by decide) rfl ?_
  refine R_iload_n (i := 0) (q := 2) dX7_fraction_1 rfl rfl rfl ?_
  refine R_mabs (q := 5) dX7_fraction_2 mj_X7_287 mk_J9_abs_0f7a4 (Nat.le_of_ble_eq_true rfl) rfl ?_
  rw [abs_dst hP hQ]
  refine R_iload_n (i := 1) (q := 6) dX7_fraction_5 rfl rfl rfl ?_
  refine R_cS2i (M' := MX7_commonDivisor) (q := 9) dX7_fraction_6 ml_X7_290 mk_X7_commonDivisor (Nat.le_of_ble_eq_true rfl) rfl (c_cd hd hb0 hb) ?_
  rintro _ w ⟨rfl, rfl⟩
  refine R_mmax (q := 12) dX7_fraction_9 mj_X7_267 mk_J9_max_7cf53 (Nat.le_of_ble_eq_true rfl) rfl ?_
  rw [max_nI (by omega) (by omega), show (if 1 < Nat.gcd (dst P Q) b then Nat.gcd (dst P Q) b else 1) = Nat.gcd (dst P Q) b by split <;> omega]
  refine R_istore_n (i := 3) (q := 13) (loc' := [(3, _), (0, _), (1, _), (2, _)]) dX7_fraction_12 rfl (by decide) (by rfl) rfl ?_
  refine R_iload_n (i := 2) (q := 14) dX7_fraction_13 rfl rfl rfl ?_
  refine R_if_eq (tgt := 23) (q := 17) dX7_fraction_14 (by decide) rfl (fun c1 => ?_) (fun c1 => ?_)
  · refine R_iload_n (i := 1) (q := 24) dX7_fraction_23 rfl rfl rfl ?_
    refine R_iload_n (i := 3) (q := 25) dX7_fraction_24 rfl rfl rfl ?_
    refine R_idiv (q := 26) dX7_fraction_25 (nI_ne0 hg0 (by omega)) rfl ?_
    refine R_ri dX7_fraction_26 rfl ?_
    exact ⟨(if_pos c1).symm, rfl⟩
  · refine R_iload_n (i := 0) (q := 18) dX7_fraction_17 rfl rfl rfl ?_
    refine R_iload_n (i := 3) (q := 19) dX7_fraction_18 rfl rfl rfl ?_
    refine R_idiv (q := 20) dX7_fraction_19 (nI_ne0 hg0 (by omega)) rfl ?_
    refine R_goto (q := 26) dX7_fraction_20 (by decide) ?_
    refine R_ri dX7_fraction_26 rfl ?_
    exact ⟨(if_neg c1).symm, rfl⟩
end FR
/-! chances -/
def lkN (s x : Nat) : Nat → Nat
  | 0 => 1
  | k + 1 => lkN s x k * (if bitN s k = 1 then x else 10 - x)
theorem lkN_bd {s x : Nat} (hx : x ≤ 10) : ∀ k, lkN s x k ≤ 10 ^ k
  | 0 => Nat.le_refl _
  | k + 1 => by
    simp only [lkN, Nat.pow_succ]
    refine Nat.mul_le_mul (lkN_bd hx k) ?_
    split <;> omega
def chN (S : Pic) (sh m x : Nat) : Nat → Nat
  | 0 => 0
  | s + 1 => chN S sh m x s + (if msN S sh s ≤ m then lkN s x 4 else 0)
def meN (S : Pic) (sh x : Nat) : Nat → Nat
  | 0 => 0
  | s + 1 => meN S sh x s + lkN s x 4 * msN S sh s
theorem chN_bd {S : Pic} {sh m x : Nat} (hx : x ≤ 10) : ∀ s, chN S sh m x s ≤ s * 10000
  | 0 => by simp [chN]
  | s + 1 => by
    have h1 := chN_bd (S := S) (sh := sh) (m := m) hx s
    have h3 : (if msN S sh s ≤ m then lkN s x 4 else 0) ≤ 10000 := by
      by_cases h : msN S sh s ≤ m
      · rw [if_pos h]
        exact lkN_bd (s := s) hx 4
      · rw [if_neg h]
        exact Nat.zero_le _
    rw [Nat.succ_mul]
    exact Nat.add_le_add h1 h3
theorem meN_bd {S : Pic} {sh x : Nat} (hO : OKo S) (hx : x ≤ 10) : ∀ s, meN S sh x s ≤ s * 64000000
  | 0 => by simp [meN]
  | s + 1 => by
    have h1 := meN_bd (sh := sh) hO hx s
    have h2 : lkN s x 4 * msN S sh s ≤ 10 ^ 4 * 6400 := Nat.mul_le_mul (lkN_bd (s := s) hx 4) (msN_bd hO)
    rw [Nat.succ_mul]
    exact Nat.add_le_add h1 h2
/-- how many packs -/
def pcN (l : Nat) : Nat := bitN l 0 + bitN l 1 + bitN l 2 + bitN l 3
def obN (l : Nat) : Nat := if pcN l = 0 then 0 else if pcN l = 1 then 6 else if pcN l = 2 then 2 else if pcN l = 3 then 2 else 6
def saP (S : Pic) (sh k : Nat) : Nat → Nat
  | 0 => 0
  | l + 1 => saP S sh k l + (if bitN l k = 1 then obN l * msN S sh l else 0)
def saQ (S : Pic) (sh k : Nat) : Nat → Nat
  | 0 => 0
  | l + 1 => saQ S sh k l + (if bitN l k = 1 then obN l * msN S sh (l ^^^ 2 ^ k) else 0)
theorem obN_le (l : Nat) : obN l ≤ 6 := by
  unfold obN
  repeat' split
  all_goals omega
theorem saP_bd {S : Pic} {sh k : Nat} (hO : OKo S) : ∀ l, saP S sh k l ≤ l * 38400
  | 0 => by simp [saP]
  | l + 1 => by
    have h1 := saP_bd (sh := sh) (k := k) hO l
    have h3 : (if bitN l k = 1 then obN l * msN S sh l else 0) ≤ 38400 := by
      by_cases h : bitN l k = 1
      · rw [if_pos h]
        exact Nat.mul_le_mul (obN_le l) (msN_bd hO)
      · rw [if_neg h]
        exact Nat.zero_le _
    rw [Nat.succ_mul]
    exact Nat.add_le_add h1 h3
theorem saQ_bd {S : Pic} {sh k : Nat} (hO : OKo S) : ∀ l, saQ S sh k l ≤ l * 38400
  | 0 => by simp [saQ]
  | l + 1 => by
    have h1 := saQ_bd (sh := sh) (k := k) hO l
    have h3 : (if bitN l k = 1 then obN l * msN S sh (l ^^^ 2 ^ k) else 0) ≤ 38400 := by
      by_cases h : bitN l k = 1
      · rw [if_pos h]
        exact Nat.mul_le_mul (obN_le l) (msN_bd hO)
      · rw [if_neg h]
        exact Nat.zero_le _
    rw [Nat.succ_mul]
    exact Nat.add_le_add h1 h3
theorem sub_sum (p q o a b : Nat) : (nI p - nI q) + nI o * (nI a - nI b) = nI (p + o * a) - nI (q + o * b) := by
  rw [← nI_add, ← nI_add, ← pk_mul, ← pk_mul]
  simp only [Int32.sub_eq_add_neg, Int32.mul_add, Int32.mul_neg, Int32.neg_add]
  ac_rfl
def opShare (A : Ab) (k u : Int32) : Int32 := if inN k 4 then frD (saP (aP A) (pH (aP A)) (cl k) 16) (saQ (aP A) (pH (aP A)) (cl k) 16) 24 u else -1
def opChance (A : Ab) (m x u : Int32) : Int32 := if inN m 10000 ∧ inN x 11 then frD (chN (aP A) (pH (aP A)) (cl m) (cl x) 16) 0 10000 u else -2
def opMean (A : Ab) (x u : Int32) : Int32 := if inN x 11 then frD (meN (aP A) (pH (aP A)) (cl x) 16) 0 10000 u else -2
section CH
variable {X : Cx} {d : Nat} {w : Wd} {A : Ab}
theorem l_tm {w0 : Wd} (hR : ClsR w0 A) (hA : AOK A) : ∀ (f k : Nat) (w : Wd), 16 ≤ k + f → k ≤ 16 → Fr FSc w0 w → (∀ j, j < k → w.1 [8] j = nI (msN (aP A) (pH (aP A)) j)) → Wq X 0 (d + 5) MX7_tellMisses 2 [(1, vI (nI k)), (0, vR 7 0 [])] [] w (qV fun w' => (∀ j, j < 16 → w'.1 [8] j = nI (msN (aP A) (pH (aP A)) j)) ∧ Fr FSc w0 w') := by
  obtain ⟨hOK1, hOK2, hOK3, hOK4, hOK5, -⟩ := id hA.2.1
  intro f
  induction f with
  | zero =>
    intro k w h1 h2 hF hM
    refine R_iload_n (i := 1) (q := 3) dX7_tellMisses_2 rfl rfl rfl ?_
    refine R_bipush (v := nI 16) (q := 5) dX7_tellMisses_3 (by decide) rfl ?_
    refine R_icmp_geN (by omega) (by omega) (tgt := 39) (q := 8) dX7_tellMisses_5 (by decide) rfl (fun c1 => ?_) (fun c1 => ?_)
    · obtain rfl : k = 16 := by omega
      refine R_rv dX7_tellMisses_39 rfl ?_
      exact ⟨hM, hF⟩
    · omega
  | succ f ih =>
    intro k w h1 h2 hF hM
    refine R_iload_n (i := 1) (q := 3) dX7_tellMisses_2 rfl rfl rfl ?_
    refine R_bipush (v := nI 16) (q := 5) dX7_tellMisses_3 (by decide) rfl ?_
    refine R_icmp_geN (by omega) (by omega) (tgt := 39) (q := 8) dX7_tellMisses_5 (by decide) rfl (fun c1 => ?_) (fun c1 => ?_)
    · obtain rfl : k = 16 := by omega
      refine R_rv dX7_tellMisses_39 rfl ?_
      exact ⟨hM, hF⟩
    · have hRw := hR.sc hF
      refine R_aload_n (i := 0) (q := 9) dX7_tellMisses_8 rfl rfl rfl ?_
      refine R_getR (q := 12) dX7_tellMisses_9 fl_X7_61 rfl (by decide) rfl ?_
      refine R_iload_n (i := 1) (q := 13) dX7_tellMisses_12 rfl rfl rfl ?_
      refine R_aload_n (i := 0) (q := 14) dX7_tellMisses_13 rfl rfl rfl ?_
      refine R_getR (q := 17) dX7_tellMisses_14 fl_X7_57 rfl (by decide) rfl ?_
      refine R_aload_n (i := 0) (q := 18) dX7_tellMisses_17 rfl rfl rfl ?_
      refine R_getR (q := 21) dX7_tellMisses_18 fl_X7_19 rfl (by decide) rfl ?_
      refine R_aload_n (i := 0) (q := 22) dX7_tellMisses_21 rfl rfl rfl ?_
      refine R_getR (q := 25) dX7_tellMisses_22 fl_X7_19 rfl (by decide) rfl ?_
      refine R_getI' (q := 28) dX7_tellMisses_25 fl_X7_94 rfl (hRw.2.1.2.2.2.1) rfl ?_
      refine R_iload_n (i := 1) (q := 29) dX7_tellMisses_28 rfl rfl rfl ?_
      refine R_cV3i (M' := MX2_missBy) (q := 32) dX7_tellMisses_29 ml_X7_104 mk_X2_missBy (Nat.le_of_ble_eq_true rfl) rfl (c_missBy hRw.2.1 hA.2.1.o (Or.inl rfl) hOK4 c1) ?_
      rintro _ w1 ⟨rfl, hF1⟩
      refine R_iast (q := 33) dX7_tellMisses_32 (rfl) (by omega) (by decide) rfl ?_
      first | refine R_iincN (q := 36) (loc' := [(1, _), (0, _)]) dX7_tellMisses_33 (by rfl) (by decide) (by rfl) rfl ?_ | refine R_iinc (q := 36) (loc' := [(1, _), (0, _)]) dX7_tellMisses_33 (by rfl) (by rfl) (by decide) (by rfl) rfl ?_
      refine R_goto (q := 2) dX7_tellMisses_36 (by decide) ?_
      refine ih (k + 1) _ (by omega) (by omega) ((hF.tr (hF1.up (by decide))).tr (Fr.i (by decide))) ?_
      intro j hj
      by_cases h : j = k
      · subst h
        exact uI_same _ _ _ _
      · rw [uI_ne h, hF1.2 _ (by decide)]
        exact hM j (by omega)
theorem c_tellMisses (hR : ClsR w A) (hA : AOK A) : Ct X 0 (d + 5) MX7_tellMisses [vR 7 0 []] w (qV fun w' => (∀ j, j < 16 → w'.1 [8] j = nI (msN (aP A) (pH (aP A)) j)) ∧ Fr FSc w w') := by
  refine Ct.of (by decide) rfl (Nat.le_of_ble_eq_true rfl) ?_
  show Wq _ _ _ _ 0 [(0, _)] [] _ _
  refine R_iconst (v := nI 0) (q := 1) dX7_tellMisses_0 (by decide) rfl ?_
  refine R_istore_n (i := 1) (q := 2) (loc' := [(1, _), (0, _)]) dX7_tellMisses_1 rfl (by decide) (by rfl) rfl ?_
  exact l_tm hR hA 16 0 w (by omega) (by omega) Fr.rf (fun j hj => absurd hj (Nat.not_lt_zero j))
theorem l_lk {s x : Nat} (hs : s < 16) (hx : x ≤ 10) : ∀ (f k : Nat), 4 ≤ k + f → k ≤ 4 → Wq X 0 d MX7_likelihood 4 [(3, vI (nI k)), (2, vI (nI (lkN s x k))), (0, vI (nI s)), (1, vI (nI x))] [] w (qI fun z w' => z = nI (lkN s x 4) ∧ w' = w) := by
  intro f
  induction f with
  | zero =>
    intro k h1 h2
    refine R_iload_n (i := 3) (q := 5) dX7_likelihood_4 rfl rfl rfl ?_
    refine R_iconst (v := nI 4) (q := 6) dX7_likelihood_5 (by decide) rfl ?_
    refine R_icmp_geN (by omega) (by omega) (tgt := 35) (q := 9) dX7_likelihood_6 (by decide) rfl (fun c1 => ?_) (fun c1 => ?_)
    · obtain rfl : k = 4 := by omega
      refine R_iload_n (i := 2) (q := 36) dX7_likelihood_35 rfl rfl rfl ?_
      refine R_ri dX7_likelihood_36 rfl ?_
      exact ⟨rfl, rfl⟩
    · omega
  | succ f ih =>
    intro k h1 h2
    refine R_iload_n (i := 3) (q := 5) dX7_likelihood_4 rfl rfl rfl ?_
    refine R_iconst (v := nI 4) (q := 6) dX7_likelihood_5 (by decide) rfl ?_
    refine R_icmp_geN (by omega) (by omega) (tgt := 35) (q := 9) dX7_likelihood_6 (by decide) rfl (fun c1 => ?_) (fun c1 => ?_)
    · obtain rfl : k = 4 := by omega
      refine R_iload_n (i := 2) (q := 36) dX7_likelihood_35 rfl rfl rfl ?_
      refine R_ri dX7_likelihood_36 rfl ?_
      exact ⟨rfl, rfl⟩
    · have e := ih (k + 1) (by omega) (by omega)
      simp only [lkN] at e
      have hbl := bitN_lt s k
      refine R_iload_n (i := 2) (q := 10) dX7_likelihood_9 rfl rfl rfl ?_
      refine R_iload_n (i := 0) (q := 11) dX7_likelihood_10 rfl rfl rfl ?_
      refine R_iload_n (i := 3) (q := 12) dX7_likelihood_11 rfl rfl rfl ?_
      refine R_ishr (q := 13) dX7_likelihood_12 rfl ?_
      refine R_iconst (v := nI 1) (q := 14) dX7_likelihood_13 (by decide) rfl ?_
      refine R_iand (q := 15) dX7_likelihood_14 rfl ?_
      rw [shr_fin s hs k c1]
      refine R_iconst (v := nI 1) (q := 16) dX7_likelihood_15 (by decide) rfl ?_
      refine R_icmp_neN (by omega) (by omega) (tgt := 23) (q := 19) dX7_likelihood_16 (by decide) rfl (fun c2 => ?_) (fun c2 => ?_)
      · rw [if_neg c2] at e
        refine R_bipush (v := nI 10) (q := 25) dX7_likelihood_23 (by decide) rfl ?_
        refine R_iload_n (i := 1) (q := 26) dX7_likelihood_25 rfl rfl rfl ?_
        refine R_isubN (hx) (q := 27) dX7_likelihood_26 rfl ?_
        first | refine R_imulN (q := 28) dX7_likelihood_27 rfl ?_ | refine R_imul (q := 28) dX7_likelihood_27 rfl ?_
        refine R_istore_n (i := 2) (q := 29) (loc' := [(2, _), (3, _), (0, _), (1, _)]) dX7_likelihood_28 rfl (by decide) (by rfl) rfl ?_
        first | refine R_iincN (q := 32) (loc' := [(3, _), (2, _), (0, _), (1, _)]) dX7_likelihood_29 (by rfl) (by decide) (by rfl) rfl ?_ | refine R_iinc (q := 32) (loc' := [(3, _), (2, _), (0, _), (1, _)]) dX7_likelihood_29 (by rfl) (by rfl) (by decide) (by rfl) rfl ?_
        refine R_goto (q := 4) dX7_likelihood_32 (by decide) ?_
        refine R_loc [0, 1, 2, 3] (loc' := [(3, _), (2, _), (0, _), (1, _)]) (by rfl) ?_
        exact e
      · rw [if_pos c2] at e
        refine R_iload_n (i := 1) (q := 20) dX7_likelihood_19 rfl rfl rfl ?_
        refine R_goto (q := 27) dX7_likelihood_20 (by decide) ?_
        first | refine R_imulN (q := 28) dX7_likelihood_27 rfl ?_ | refine R_imul (q := 28) dX7_likelihood_27 rfl ?_
        refine R_istore_n (i := 2) (q := 29) (loc' := [(2, _), (3, _), (0, _), (1, _)]) dX7_likelihood_28 rfl (by decide) (by rfl) rfl ?_
        first | refine R_iincN (q := 32) (loc' := [(3, _), (2, _), (0, _), (1, _)]) dX7_likelihood_29 (by rfl) (by decide) (by rfl) rfl ?_ | refine R_iinc (q := 32) (loc' := [(3, _), (2, _), (0, _), (1, _)]) dX7_likelihood_29 (by rfl) (by rfl) (by decide) (by rfl) rfl ?_
        refine R_goto (q := 4) dX7_likelihood_32 (by decide) ?_
        refine R_loc [0, 1, 2, 3] (loc' := [(3, _), (2, _), (0, _), (1, _)]) (by rfl) ?_
        exact e
theorem c_likelihood {s x : Nat} (hs : s < 16) (hx : x ≤ 10) : Ct X 0 d MX7_likelihood [vI (nI s), vI (nI x)] w (qI fun z w' => z = nI (lkN s x 4) ∧ w' = w) := by
  refine Ct.of (by decide) rfl (Nat.le_of_ble_eq_true rfl) ?_
  show Wq _ _ _ _ 0 [(0, _), (1, _)] [] _ _
  refine R_iconst (v := nI 1) (q := 1) dX7_likelihood_0 (by decide) rfl ?_
  refine R_istore_n (i := 2) (q := 2) (loc' := [(2, _), (0, _), (1, _)]) dX7_likelihood_1 rfl (by decide) (by rfl) rfl ?_
  refine R_iconst (v := nI 0) (q := 3) dX7_likelihood_2 (by decide) rfl ?_
  refine R_istore_n (i := 3) (q := 4) (loc' := [(3, _), (2, _), (0, _), (1, _)]) dX7_likelihood_3 rfl (by decide) (by rfl) rfl ?_
  exact l_lk hs hx 4 0 (by omega) (by omega)
theorem l_ch {S : Pic} {sh m x : Nat} {u : Int32} (hO : OKo S) (hm : m < 10000) (hx : x ≤ 10) (hM : ∀ j, j < 16 → w.1 [8] j = nI (msN S sh j)) : ∀ (f k : Nat), 16 ≤ k + f → k ≤ 16 → Wq X 0 (d + 2) MX7_chance 31 [(5, vI (nI k)), (4, vI (nI (chN S sh m x k))), (0, vR 7 0 []), (1, vI (nI m)), (2, vI (nI x)), (3, vI u)] [] w (qI fun z w' => z = frD (chN S sh m x 16) 0 10000 u ∧ w' = w) := by
  intro f
  induction f with
  | zero =>
    intro k h1 h2
    refine R_iload (q := 33) dX7_chance_31 rfl rfl ?_
    refine R_bipush (v := nI 16) (q := 35) dX7_chance_33 (by decide) rfl ?_
    refine R_icmp_geN (by omega) (by omega) (tgt := 66) (q := 38) dX7_chance_35 (by decide) rfl (fun c1 => ?_) (fun c1 => ?_)
    · obtain rfl : k = 16 := by omega
      refine R_iload (q := 68) dX7_chance_66 rfl rfl ?_
      refine R_sipush (v := nI 10000) (q := 71) dX7_chance_68 (by decide) rfl ?_
      refine R_iload_n (i := 3) (q := 72) dX7_chance_71 rfl rfl rfl ?_
      have hb := chN_bd (S := S) (sh := sh) (m := m) hx 16
      have e0 : nI (chN S sh m x 16) = nI (chN S sh m x 16) - nI 0 := by rw [pk_sub (Nat.zero_le _), Nat.sub_zero]
      rw [e0]
      refine R_cS3i (M' := MX7_fraction) (q := 75) dX7_chance_72 ml_X7_226 mk_X7_fraction (Nat.le_of_ble_eq_true rfl) rfl (c_fraction (by omega) (by decide) (by decide) (by decide)) ?_
      rintro _ w ⟨rfl, rfl⟩
      refine R_ri dX7_chance_75 rfl ?_
      exact ⟨rfl, rfl⟩
    · omega
  | succ f ih =>
    intro k h1 h2
    refine R_iload (q := 33) dX7_chance_31 rfl rfl ?_
    refine R_bipush (v := nI 16) (q := 35) dX7_chance_33 (by decide) rfl ?_
    refine R_icmp_geN (by omega) (by omega) (tgt := 66) (q := 38) dX7_chance_35 (by decide) rfl (fun c1 => ?_) (fun c1 => ?_)
    · obtain rfl : k = 16 := by omega
      refine R_iload (q := 68) dX7_chance_66 rfl rfl ?_
      refine R_sipush (v := nI 10000) (q := 71) dX7_chance_68 (by decide) rfl ?_
      refine R_iload_n (i := 3) (q := 72) dX7_chance_71 rfl rfl rfl ?_
      have hb := chN_bd (S := S) (sh := sh) (m := m) hx 16
      have e0 : nI (chN S sh m x 16) = nI (chN S sh m x 16) - nI 0 := by rw [pk_sub (Nat.zero_le _), Nat.sub_zero]
      rw [e0]
      refine R_cS3i (M' := MX7_fraction) (q := 75) dX7_chance_72 ml_X7_226 mk_X7_fraction (Nat.le_of_ble_eq_true rfl) rfl (c_fraction (by omega) (by decide) (by decide) (by decide)) ?_
      rintro _ w ⟨rfl, rfl⟩
      refine R_ri dX7_chance_75 rfl ?_
      exact ⟨rfl, rfl⟩
    · have e := ih (k + 1) (by omega) (by omega)
      simp only [chN] at e
      have hms := msN_bd (sh := sh) (lo := k) hO
      refine R_aload_n (i := 0) (q := 39) dX7_chance_38 rfl rfl rfl ?_
      refine R_getR (q := 42) dX7_chance_39 fl_X7_61 rfl (by decide) rfl ?_
      refine R_iload (q := 44) dX7_chance_42 rfl rfl ?_
      refine R_iald' (q := 45) dX7_chance_44 (rfl) (by omega) (by decide) (hM k c1) rfl ?_
      refine R_iload_n (i := 1) (q := 46) dX7_chance_45 rfl rfl rfl ?_
      refine R_icmp_gtN (by omega) (by omega) (tgt := 60) (q := 49) dX7_chance_46 (by decide) rfl (fun c2 => ?_) (fun c2 => ?_)
      · rw [if_neg (by omega), Nat.add_zero] at e
        first | refine R_iincN (q := 63) (loc' := [(5, _), (4, _), (0, _), (1, _), (2, _), (3, _)]) dX7_chance_60 (by rfl) (by decide) (by rfl) rfl ?_ | refine R_iinc (q := 63) (loc' := [(5, _), (4, _), (0, _), (1, _), (2, _), (3, _)]) dX7_chance_60 (by rfl) (by rfl) (by decide) (by rfl) rfl ?_
        refine R_goto (q := 31) dX7_chance_63 (by decide) ?_
        exact e
      · rw [if_pos c2] at e
        refine R_iload (q := 51) dX7_chance_49 rfl rfl ?_
        refine R_iload (q := 53) dX7_chance_51 rfl rfl ?_
        refine R_iload_n (i := 2) (q := 54) dX7_chance_53 rfl rfl rfl ?_
        refine R_cS2i (M' := MX7_likelihood) (q := 57) dX7_chance_54 ml_X7_233 mk_X7_likelihood (Nat.le_of_ble_eq_true rfl) rfl (c_likelihood c1 hx) ?_
        rintro _ w ⟨rfl, rfl⟩
        first | refine R_iaddN (q := 58) dX7_chance_57 rfl ?_ | refine R_iadd (q := 58) dX7_chance_57 rfl ?_
        refine R_istore (q := 60) (loc' := [(4, _), (5, _), (0, _), (1, _), (2, _), (3, _)]) dX7_chance_58 (by decide) (by rfl) rfl ?_
        first | refine R_iincN (q := 63) (loc' := [(5, _), (4, _), (0, _), (1, _), (2, _), (3, _)]) dX7_chance_60 (by rfl) (by decide) (by rfl) rfl ?_ | refine R_iinc (q := 63) (loc' := [(5, _), (4, _), (0, _), (1, _), (2, _), (3, _)]) dX7_chance_60 (by rfl) (by rfl) (by decide) (by rfl) rfl ?_
        refine R_goto (q := 31) dX7_chance_63 (by decide) ?_
        refine R_loc [0, 1, 2, 3, 4, 5] (loc' := [(5, _), (4, _), (0, _), (1, _), (2, _), (3, _)]) (by rfl) ?_
        exact e
theorem c_chance {m x u : Int32} (hR : ClsR w A) (hA : AOK A) : Ct X 0 (d + 6) MX7_chance [vR 7 0 [], vI m, vI x, vI u] w (qI fun z w' => z = opChance A m x u ∧ ClsR w' A) := by
  unfold opChance
  have h99 : nI 9999 < m ↔ nI 10000 ≤ m := by
    rw [Int32.lt_iff_toInt_lt, Int32.le_iff_toInt_le, show (nI 9999).toInt = 9999 from rfl, show (nI 10000).toInt = 10000 from rfl]
    omega
  refine Ct.of (by decide) rfl (Nat.le_of_ble_eq_true rfl) ?_
  show Wq _ _ _ _ 0 [(0, _), (1, _), (2, _), (3, _)] [] _ _
  refine R_iload_n (i := 1) (q := 1) dX7_chance_0 rfl rfl rfl ?_
  refine R_if_lt (tgt := 18) (q := 4) dX7_chance_1 (by decide) rfl (fun c1 => ?_) (fun c1 => ?_)
  · rw [if_neg (fun h => h.1.1 c1)]
    refine R_bipush (v := (-2)) (q := 20) dX7_chance_18 (by decide) rfl ?_
    refine R_ri dX7_chance_20 rfl ?_
    exact ⟨rfl, hR⟩
  · refine R_iload_n (i := 1) (q := 5) dX7_chance_4 rfl rfl rfl ?_
    refine R_sipush (v := nI 9999) (q := 8) dX7_chance_5 (by decide) rfl ?_
    refine R_icmp_gt (tgt := 18) (q := 11) dX7_chance_8 (by decide) rfl (fun c2 => ?_) (fun c2 => ?_)
    · rw [if_neg (fun h => h.1.2 (h99.mp c2))]
      refine R_bipush (v := (-2)) (q := 20) dX7_chance_18 (by decide) rfl ?_
      refine R_ri dX7_chance_20 rfl ?_
      exact ⟨rfl, hR⟩
    · refine R_iload_n (i := 2) (q := 12) dX7_chance_11 rfl rfl rfl ?_
      refine R_cS1i (M' := MX7_isTenths) (q := 15) dX7_chance_12 ml_X7_230 mk_X7_isTenths (Nat.le_of_ble_eq_true rfl) rfl (c_isTenths) ?_
      rintro _ w ⟨rfl, rfl⟩
      refine R_if_neB (tgt := 21) (q := 18) dX7_chance_15 (by decide) rfl (fun c3 => ?_) (fun c3 => ?_)
      · have hin : inN m 10000 := ⟨c1, fun h => c2 (h99.mpr h)⟩
        rw [if_pos ⟨hin, c3⟩]
        obtain ⟨a, ha, rfl⟩ := inN_ex (by decide) hin
        obtain ⟨b, hb, rfl⟩ := inN_ex (by decide) c3
        rw [cl_nI (by omega), cl_nI (by omega)]
        refine R_aload_n (i := 0) (q := 22) dX7_chance_21 rfl rfl rfl ?_
        refine R_cV0v (M' := MX7_tellMisses) (q := 25) dX7_chance_22 ml_X7_215 mk_X7_tellMisses (Nat.le_of_ble_eq_true rfl) rfl (c_tellMisses hR hA) ?_
        rintro w1 ⟨hM, hF⟩
        refine R_iconst (v := nI 0) (q := 26) dX7_chance_25 (by decide) rfl ?_
        refine R_istore (q := 28) (loc' := [(4, _), (0, _), (1, _), (2, _), (3, _)]) dX7_chance_26 (by decide) (by rfl) rfl ?_
        refine R_iconst (v := nI 0) (q := 29) dX7_chance_28 (by decide) rfl ?_
        refine R_istore (q := 31) (loc' := [(5, _), (4, _), (0, _), (1, _), (2, _), (3, _)]) dX7_chance_29 (by decide) (by rfl) rfl ?_
        refine Wq_mono (l_ch hA.2.1.o ha (by omega) hM 16 0 (by omega) (by omega)) ?_
        rintro z w2 ⟨h1, rfl⟩
        exact ⟨h1, hR.sc hF⟩
      · rw [if_neg (fun h => c3 h.2)]
        refine R_bipush (v := (-2)) (q := 20) dX7_chance_18 (by decide) rfl ?_
        refine R_ri dX7_chance_20 rfl ?_
        exact ⟨rfl, hR⟩
theorem l_me {S : Pic} {sh x : Nat} {u : Int32} (hO : OKo S) (hx : x ≤ 10) (hM : ∀ j, j < 16 → w.1 [8] j = nI (msN S sh j)) : ∀ (f k : Nat), 16 ≤ k + f → k ≤ 16 → Wq X 0 (d + 2) MX7_mean 19 [(4, vI (nI k)), (3, vI (nI (meN S sh x k))), (0, vR 7 0 []), (1, vI (nI x)), (2, vI u)] [] w (qI fun z w' => z = frD (meN S sh x 16) 0 10000 u ∧ w' = w) := by
  intro f
  induction f with
  | zero =>
    intro k h1 h2
    refine R_iload (q := 21) dX7_mean_19 rfl rfl ?_
    refine R_bipush (v := nI 16) (q := 23) dX7_mean_21 (by decide) rfl ?_
    refine R_icmp_geN (by omega) (by omega) (tgt := 49) (q := 26) dX7_mean_23 (by decide) rfl (fun c1 => ?_) (fun c1 => ?_)
    · obtain rfl : k = 16 := by omega
      refine R_iload_n (i := 3) (q := 50) dX7_mean_49 rfl rfl rfl ?_
      refine R_sipush (v := nI 10000) (q := 53) dX7_mean_50 (by decide) rfl ?_
      refine R_iload_n (i := 2) (q := 54) dX7_mean_53 rfl rfl rfl ?_
      have hb := meN_bd (sh := sh) hO hx 16
      have e0 : nI (meN S sh x 16) = nI (meN S sh x 16) - nI 0 := by rw [pk_sub (Nat.zero_le _), Nat.sub_zero]
      rw [e0]
      refine R_cS3i (M' := MX7_fraction) (q := 57) dX7_mean_54 ml_X7_226 mk_X7_fraction (Nat.le_of_ble_eq_true rfl) rfl (c_fraction (by omega) (by decide) (by decide) (by decide)) ?_
      rintro _ w ⟨rfl, rfl⟩
      refine R_ri dX7_mean_57 rfl ?_
      exact ⟨rfl, rfl⟩
    · omega
  | succ f ih =>
    intro k h1 h2
    refine R_iload (q := 21) dX7_mean_19 rfl rfl ?_
    refine R_bipush (v := nI 16) (q := 23) dX7_mean_21 (by decide) rfl ?_
    refine R_icmp_geN (by omega) (by omega) (tgt := 49) (q := 26) dX7_mean_23 (by decide) rfl (fun c1 => ?_) (fun c1 => ?_)
    · obtain rfl : k = 16 := by omega
      refine R_iload_n (i := 3) (q := 50) dX7_mean_49 rfl rfl rfl ?_
      refine R_sipush (v := nI 10000) (q := 53) dX7_mean_50 (by decide) rfl ?_
      refine R_iload_n (i := 2) (q := 54) dX7_mean_53 rfl rfl rfl ?_
      have hb := meN_bd (sh := sh) hO hx 16
      have e0 : nI (meN S sh x 16) = nI (meN S sh x 16) - nI 0 := by rw [pk_sub (Nat.zero_le _), Nat.sub_zero]
      rw [e0]
      refine R_cS3i (M' := MX7_fraction) (q := 57) dX7_mean_54 ml_X7_226 mk_X7_fraction (Nat.le_of_ble_eq_true rfl) rfl (c_fraction (by omega) (by decide) (by decide) (by decide)) ?_
      rintro _ w ⟨rfl, rfl⟩
      refine R_ri dX7_mean_57 rfl ?_
      exact ⟨rfl, rfl⟩
    · have e := ih (k + 1) (by omega) (by omega)
      simp only [meN] at e
      refine R_iload_n (i := 3) (q := 27) dX7_mean_26 rfl rfl rfl ?_
      refine R_iload (q := 29) dX7_mean_27 rfl rfl ?_
      refine R_iload_n (i := 1) (q := 30) dX7_mean_29 rfl rfl rfl ?_
      refine R_cS2i (M' := MX7_likelihood) (q := 33) dX7_mean_30 ml_X7_233 mk_X7_likelihood (Nat.le_of_ble_eq_true rfl) rfl (c_likelihood c1 hx) ?_
      rintro _ w ⟨rfl, rfl⟩
      refine R_aload_n (i := 0) (q := 34) dX7_mean_33 rfl rfl rfl ?_
      refine R_getR (q := 37) dX7_mean_34 fl_X7_61 rfl (by decide) rfl ?_
      refine R_iload (q := 39) dX7_mean_37 rfl rfl ?_
      refine R_iald' (q := 40) dX7_mean_39 (rfl) (by omega) (by decide) (hM k c1) rfl ?_
      first | refine R_imulN (q := 41) dX7_mean_40 rfl ?_ | refine R_imul (q := 41) dX7_mean_40 rfl ?_
      first | refine R_iaddN (q := 42) dX7_mean_41 rfl ?_ | refine R_iadd (q := 42) dX7_mean_41 rfl ?_
      refine R_istore_n (i := 3) (q := 43) (loc' := [(3, _), (4, _), (0, _), (1, _), (2, _)]) dX7_mean_42 rfl (by decide) (by rfl) rfl ?_
      first | refine R_iincN (q := 46) (loc' := [(4, _), (3, _), (0, _), (1, _), (2, _)]) dX7_mean_43 (by rfl) (by decide) (by rfl) rfl ?_ | refine R_iinc (q := 46) (loc' := [(4, _), (3, _), (0, _), (1, _), (2, _)]) dX7_mean_43 (by rfl) (by rfl) (by decide) (by rfl) rfl ?_
      refine R_goto (q := 19) dX7_mean_46 (by decide) ?_
      refine R_loc [0, 1, 2, 3, 4] (loc' := [(4, _), (3, _), (0, _), (1, _), (2, _)]) (by rfl) ?_
      exact e
theorem c_mean {x u : Int32} (hR : ClsR w A) (hA : AOK A) : Ct X 0 (d + 6) MX7_mean [vR 7 0 [], vI x, vI u] w (qI fun z w' => z = opMean A x u ∧ ClsR w' A) := by
  unfold opMean
  refine Ct.of (by decide) rfl (Nat.le_of_ble_eq_true rfl) ?_
  show Wq _ _ _ _ 0 [(0, _), (1, _), (2, _)] [] _ _
  refine R_iload_n (i := 1) (q := 1) dX7_mean_0 rfl rfl rfl ?_
  refine R_cS1i (M' := MX7_isTenths) (q := 4) dX7_mean_1 ml_X7_230 mk_X7_isTenths (Nat.le_of_ble_eq_true rfl) rfl (c_isTenths) ?_
  rintro _ w ⟨rfl, rfl⟩
  refine R_if_neB (tgt := 10) (q := 7) dX7_mean_4 (by decide) rfl (fun c3 => ?_) (fun c3 => ?_)
  · rw [if_pos c3]
    obtain ⟨b, hb, rfl⟩ := inN_ex (by decide) c3
    rw [cl_nI (by omega)]
    refine R_aload_n (i := 0) (q := 11) dX7_mean_10 rfl rfl rfl ?_
    refine R_cV0v (M' := MX7_tellMisses) (q := 14) dX7_mean_11 ml_X7_215 mk_X7_tellMisses (Nat.le_of_ble_eq_true rfl) rfl (c_tellMisses hR hA) ?_
    rintro w1 ⟨hM, hF⟩
    refine R_iconst (v := nI 0) (q := 15) dX7_mean_14 (by decide) rfl ?_
    refine R_istore_n (i := 3) (q := 16) (loc' := [(3, _), (0, _), (1, _), (2, _)]) dX7_mean_15 rfl (by decide) (by rfl) rfl ?_
    refine R_iconst (v := nI 0) (q := 17) dX7_mean_16 (by decide) rfl ?_
    refine R_istore (q := 19) (loc' := [(4, _), (3, _), (0, _), (1, _), (2, _)]) dX7_mean_17 (by decide) (by rfl) rfl ?_
    refine Wq_mono (l_me hA.2.1.o (by omega) hM 16 0 (by omega) (by omega)) ?_
    rintro z w2 ⟨h1, rfl⟩
    exact ⟨h1, hR.sc hF⟩
  · rw [if_neg c3]
    refine R_bipush (v := (-2)) (q := 9) dX7_mean_7 (by decide) rfl ?_
    refine R_ri dX7_mean_9 rfl ?_
    exact ⟨rfl, hR⟩
theorem R_top {r : Nat} {M : Mth} {pc : Nat} {loc : Lo} {stk : List AV} {Q : Option AV → Wd → Prop} {x : Int32} (k : ∀ y, y = x → Wq X r d M pc loc (vI y :: stk) w Q) : Wq X r d M pc loc (vI x :: stk) w Q := k x rfl
abbrev us (x : Int32) (k : Int32) : Int32 := (x.toUInt32 >>> (k.toUInt32 &&& Int32.toUInt32 31)).toInt32
def bc1 (x : Int32) : Int32 := x - (us x (nI 1) &&& 1431655765)
def bc2 (x : Int32) : Int32 := (x &&& 858993459) + (us x (nI 2) &&& 858993459)
def bc3 (x : Int32) : Int32 := (x + us x (nI 4)) &&& 252645135
def bc4 (x : Int32) : Int32 := x + us x (nI 8)
def bc5 (x : Int32) : Int32 := x + us x (nI 16)
theorem bc_fin : ∀ l, l < 16 → bc5 (bc4 (bc3 (bc2 (bc1 (nI l))))) &&& nI 63 = nI (pcN l) := by decide +kernel
theorem c_bitCount {l : Nat} (hl : l < 16) : Ct X 0 d MJ6_bitCount_0f7a4 [vI (nI l)] w (qI fun z w' => z = nI (pcN l) ∧ w' = w) := by
  refine Ct.of (by decide) rfl (Nat.le_of_ble_eq_true rfl) ?_
  show Wq _ _ _ _ 0 [(0, _)] [] _ _
  generalize hx : nI l = x
  refine R_iload_n (i := 0) (q := 1) dJ6_bitCount_0f7a4_0 rfl rfl rfl ?_
  refine R_iload_n (i := 0) (q := 2) dJ6_bitCount_0f7a4_1 rfl rfl rfl ?_
  refine R_iconst (v := nI 1) (q := 3) dJ6_bitCount_0f7a4_2 (by decide) rfl ?_
  refine R_iushr (q := 4) dJ6_bitCount_0f7a4_3 rfl ?_
  refine R_ldcw (q := 7) dJ6_bitCount_0f7a4_4 kc_J6_265 rfl ?_
  refine R_iand (q := 8) dJ6_bitCount_0f7a4_7 rfl ?_
  refine R_isub (q := 9) dJ6_bitCount_0f7a4_8 rfl ?_
  refine R_top (fun y1 e1 => ?_)
  refine R_istore_n (i := 0) (q := 10) (loc' := [(0, _)]) dJ6_bitCount_0f7a4_9 rfl (by decide) (by rfl) rfl ?_
  refine R_iload_n (i := 0) (q := 11) dJ6_bitCount_0f7a4_10 rfl rfl rfl ?_
  refine R_ldcw (q := 14) dJ6_bitCount_0f7a4_11 kc_J6_266 rfl ?_
  refine R_iand (q := 15) dJ6_bitCount_0f7a4_14 rfl ?_
  refine R_iload_n (i := 0) (q := 16) dJ6_bitCount_0f7a4_15 rfl rfl rfl ?_
  refine R_iconst (v := nI 2) (q := 17) dJ6_bitCount_0f7a4_16 (by decide) rfl ?_
  refine R_iushr (q := 18) dJ6_bitCount_0f7a4_17 rfl ?_
  refine R_ldcw (q := 21) dJ6_bitCount_0f7a4_18 kc_J6_266 rfl ?_
  refine R_iand (q := 22) dJ6_bitCount_0f7a4_21 rfl ?_
  refine R_iadd (q := 23) dJ6_bitCount_0f7a4_22 rfl ?_
  refine R_top (fun y2 e2 => ?_)
  refine R_istore_n (i := 0) (q := 24) (loc' := [(0, _)]) dJ6_bitCount_0f7a4_23 rfl (by decide) (by rfl) rfl ?_
  refine R_iload_n (i := 0) (q := 25) dJ6_bitCount_0f7a4_24 rfl rfl rfl ?_
  refine R_iload_n (i := 0) (q := 26) dJ6_bitCount_0f7a4_25 rfl rfl rfl ?_
  refine R_iconst (v := nI 4) (q := 27) dJ6_bitCount_0f7a4_26 (by decide) rfl ?_
  refine R_iushr (q := 28) dJ6_bitCount_0f7a4_27 rfl ?_
  refine R_iadd (q := 29) dJ6_bitCount_0f7a4_28 rfl ?_
  refine R_ldcw (q := 32) dJ6_bitCount_0f7a4_29 kc_J6_267 rfl ?_
  refine R_iand (q := 33) dJ6_bitCount_0f7a4_32 rfl ?_
  refine R_top (fun y3 e3 => ?_)
  refine R_istore_n (i := 0) (q := 34) (loc' := [(0, _)]) dJ6_bitCount_0f7a4_33 rfl (by decide) (by rfl) rfl ?_
  refine R_iload_n (i := 0) (q := 35) dJ6_bitCount_0f7a4_34 rfl rfl rfl ?_
  refine R_iload_n (i := 0) (q := 36) dJ6_bitCount_0f7a4_35 rfl rfl rfl ?_
  refine R_bipush (v := nI 8) (q := 38) dJ6_bitCount_0f7a4_36 (by decide) rfl ?_
  refine R_iushr (q := 39) dJ6_bitCount_0f7a4_38 rfl ?_
  refine R_iadd (q := 40) dJ6_bitCount_0f7a4_39 rfl ?_
  refine R_top (fun y4 e4 => ?_)
  refine R_istore_n (i := 0) (q := 41) (loc' := [(0, _)]) dJ6_bitCount_0f7a4_40 rfl (by decide) (by rfl) rfl ?_
  refine R_iload_n (i := 0) (q := 42) dJ6_bitCount_0f7a4_41 rfl rfl rfl ?_
  refine R_iload_n (i := 0) (q := 43) dJ6_bitCount_0f7a4_42 rfl rfl rfl ?_
  refine R_bipush (v := nI 16) (q := 45) dJ6_bitCount_0f7a4_43 (by decide) rfl ?_
  refine R_iushr (q := 46) dJ6_bitCount_0f7a4_45 rfl ?_
  refine R_iadd (q := 47) dJ6_bitCount_0f7a4_46 rfl ?_
  refine R_top (fun y5 e5 => ?_)
  refine R_istore_n (i := 0) (q := 48) (loc' := [(0, _)]) dJ6_bitCount_0f7a4_47 rfl (by decide) (by rfl) rfl ?_
  refine R_iload_n (i := 0) (q := 49) dJ6_bitCount_0f7a4_48 rfl rfl rfl ?_
  refine R_bipush (v := nI 63) (q := 51) dJ6_bitCount_0f7a4_49 (by decide) rfl ?_
  refine R_iand (q := 52) dJ6_bitCount_0f7a4_51 rfl ?_
  refine R_ri dJ6_bitCount_0f7a4_52 rfl ?_
  refine ⟨?_, rfl⟩
  have f1 : y1 = bc1 x := e1
  have f2 : y2 = bc2 y1 := e2
  have f3 : y3 = bc3 y2 := e3
  have f4 : y4 = bc4 y3 := e4
  have f5 : y5 = bc5 y4 := e5
  rw [f5, f4, f3, f2, f1, ← hx]
  exact bc_fin l hl
theorem bit_and : ∀ l, l < 16 → ∀ k, k < 4 → ((nI l &&& nI (2 ^ k)) = 0 ↔ bitN l k ≠ 1) ∧ (nI l ^^^ nI (2 ^ k)) = nI (l ^^^ 2 ^ k) ∧ l ^^^ 2 ^ k < 16 ∧ pcN l < 5 ∧ oBi (pcN l) = nI (obN l) := by decide
theorem l_sa {S : Pic} {sh k : Nat} {u : Int32} (hO : OKo S) (hk : k < 4) (hM : ∀ j, j < 16 → w.1 [8] j = nI (msN S sh j)) : ∀ (f l : Nat), 16 ≤ l + f → l ≤ 16 → Wq X 0 (d + 2) MX7_share 23 [(5, vI (nI l)), (4, vI (nI (saP S sh k l) - nI (saQ S sh k l))), (3, vI (nI (2 ^ k))), (0, vR 7 0 []), (1, vI (nI k)), (2, vI u)] [] w (qI fun z w' => z = frD (saP S sh k 16) (saQ S sh k 16) 24 u ∧ w' = w) := by
  intro f
  induction f with
  | zero =>
    intro l h1 h2
    refine R_iload (q := 25) dX7_share_23 rfl rfl ?_
    refine R_bipush (v := nI 16) (q := 27) dX7_share_25 (by decide) rfl ?_
    refine R_icmp_geN (by omega) (by omega) (tgt := 79) (q := 30) dX7_share_27 (by decide) rfl (fun c1 => ?_) (fun c1 => ?_)
    · obtain rfl : l = 16 := by omega
      refine R_iload (q := 81) dX7_share_79 rfl rfl ?_
      refine R_bipush (v := nI 24) (q := 83) dX7_share_81 (by decide) rfl ?_
      refine R_iload_n (i := 2) (q := 84) dX7_share_83 rfl rfl rfl ?_
      have hb1 := saP_bd (sh := sh) (k := k) hO 16
      have hb2 := saQ_bd (sh := sh) (k := k) hO 16
      refine R_cS3i (M' := MX7_fraction) (q := 87) dX7_share_84 ml_X7_226 mk_X7_fraction (Nat.le_of_ble_eq_true rfl) rfl (c_fraction (by omega) (by omega) (by decide) (by decide)) ?_
      rintro _ w ⟨rfl, rfl⟩
      refine R_ri dX7_share_87 rfl ?_
      exact ⟨rfl, rfl⟩
    · omega
  | succ f ih =>
    intro l h1 h2
    refine R_iload (q := 25) dX7_share_23 rfl rfl ?_
    refine R_bipush (v := nI 16) (q := 27) dX7_share_25 (by decide) rfl ?_
    refine R_icmp_geN (by omega) (by omega) (tgt := 79) (q := 30) dX7_share_27 (by decide) rfl (fun c1 => ?_) (fun c1 => ?_)
    · obtain rfl : l = 16 := by omega
      refine R_iload (q := 81) dX7_share_79 rfl rfl ?_
      refine R_bipush (v := nI 24) (q := 83) dX7_share_81 (by decide) rfl ?_
      refine R_iload_n (i := 2) (q := 84) dX7_share_83 rfl rfl rfl ?_
      have hb1 := saP_bd (sh := sh) (k := k) hO 16
      have hb2 := saQ_bd (sh := sh) (k := k) hO 16
      refine R_cS3i (M' := MX7_fraction) (q := 87) dX7_share_84 ml_X7_226 mk_X7_fraction (Nat.le_of_ble_eq_true rfl) rfl (c_fraction (by omega) (by omega) (by decide) (by decide)) ?_
      rintro _ w ⟨rfl, rfl⟩
      refine R_ri dX7_share_87 rfl ?_
      exact ⟨rfl, rfl⟩
    · have hb := bit_and l c1 k hk
      have e := ih (l + 1) (by omega) (by omega)
      simp only [saP, saQ] at e
      refine R_iload (q := 32) dX7_share_30 rfl rfl ?_
      refine R_iload_n (i := 3) (q := 33) dX7_share_32 rfl rfl rfl ?_
      refine R_iand (q := 34) dX7_share_33 rfl ?_
      refine R_if_eq (tgt := 73) (q := 37) dX7_share_34 (by decide) rfl (fun c2 => ?_) (fun c2 => ?_)
      · have hb1 := hb.1.mp c2
        rw [if_neg hb1, if_neg hb1, Nat.add_zero, Nat.add_zero] at e
        first | refine R_iincN (q := 76) (loc' := [(5, _), (4, _), (3, _), (0, _), (1, _), (2, _)]) dX7_share_73 (by rfl) (by decide) (by rfl) rfl ?_ | refine R_iinc (q := 76) (loc' := [(5, _), (4, _), (3, _), (0, _), (1, _), (2, _)]) dX7_share_73 (by rfl) (by rfl) (by decide) (by rfl) rfl ?_
        refine R_goto (q := 23) dX7_share_76 (by decide) ?_
        exact e
      · have hb1 : bitN l k = 1 := Classical.byContradiction (fun h => c2 (hb.1.mpr h))
        rw [if_pos hb1, if_pos hb1] at e
        refine R_gets14 (q := 40) dX7_share_37 lk_X7_218 rfl ?_
        refine R_iload (q := 42) dX7_share_40 rfl rfl ?_
        refine R_cS1i (M' := MJ6_bitCount_0f7a4) (q := 45) dX7_share_42 ml_X7_221 mk_J6_bitCount_0f7a4 (Nat.le_of_ble_eq_true rfl) rfl (c_bitCount c1) ?_
        rintro _ w ⟨rfl, rfl⟩
        refine R_iald14 (q := 46) dX7_share_45 rfl hb.2.2.2.1 rfl ?_
        rw [hb.2.2.2.2]
        refine R_istore (q := 48) (loc' := [(6, _), (5, _), (4, _), (3, _), (0, _), (1, _), (2, _)]) dX7_share_46 (by decide) (by rfl) rfl ?_
        refine R_iload (q := 50) dX7_share_48 rfl rfl ?_
        refine R_iload (q := 52) dX7_share_50 rfl rfl ?_
        refine R_aload_n (i := 0) (q := 53) dX7_share_52 rfl rfl rfl ?_
        refine R_getR (q := 56) dX7_share_53 fl_X7_61 rfl (by decide) rfl ?_
        refine R_iload (q := 58) dX7_share_56 rfl rfl ?_
        refine R_iald' (q := 59) dX7_share_58 (rfl) (by omega) (by decide) (hM l c1) rfl ?_
        refine R_aload_n (i := 0) (q := 60) dX7_share_59 rfl rfl rfl ?_
        refine R_getR (q := 63) dX7_share_60 fl_X7_61 rfl (by decide) rfl ?_
        refine R_iload (q := 65) dX7_share_63 rfl rfl ?_
        refine R_iload_n (i := 3) (q := 66) dX7_share_65 rfl rfl rfl ?_
        refine R_ixor (q := 67) dX7_share_66 rfl ?_
        rw [hb.2.1]
        refine R_iald' (q := 68) dX7_share_67 (rfl) (by omega) (by decide) (hM _ hb.2.2.1) rfl ?_
        refine R_isub (q := 69) dX7_share_68 rfl ?_
        refine R_imul (q := 70) dX7_share_69 rfl ?_
        refine R_iadd (q := 71) dX7_share_70 rfl ?_
        rw [sub_sum]
        refine R_istore (q := 73) (loc' := [(4, _), (6, _), (5, _), (3, _), (0, _), (1, _), (2, _)]) dX7_share_71 (by decide) (by rfl) rfl ?_
        first | refine R_iincN (q := 76) (loc' := [(5, _), (4, _), (6, _), (3, _), (0, _), (1, _), (2, _)]) dX7_share_73 (by rfl) (by decide) (by rfl) rfl ?_ | refine R_iinc (q := 76) (loc' := [(5, _), (4, _), (6, _), (3, _), (0, _), (1, _), (2, _)]) dX7_share_73 (by rfl) (by rfl) (by decide) (by rfl) rfl ?_
        refine R_goto (q := 23) dX7_share_76 (by decide) ?_
        refine R_loc [0, 1, 3, 4, 5, 6] (loc' := [(5, _), (4, _), (3, _), (0, _), (1, _), (2, _)]) (by rfl) ?_
        exact e
theorem c_share {x u : Int32} (hR : ClsR w A) (hA : AOK A) : Ct X 0 (d + 6) MX7_share [vR 7 0 [], vI x, vI u] w (qI fun z w' => z = opShare A x u ∧ ClsR w' A) := by
  unfold opShare
  refine Ct.of (by decide) rfl (Nat.le_of_ble_eq_true rfl) ?_
  show Wq _ _ _ _ 0 [(0, _), (1, _), (2, _)] [] _ _
  refine R_iload_n (i := 1) (q := 1) dX7_share_0 rfl rfl rfl ?_
  refine R_cS1i (M' := MX7_isPack) (q := 4) dX7_share_1 ml_X7_189 mk_X7_isPack (Nat.le_of_ble_eq_true rfl) rfl (c_isPack) ?_
  rintro _ w ⟨rfl, rfl⟩
  refine R_if_neB (tgt := 9) (q := 7) dX7_share_4 (by decide) rfl (fun c3 => ?_) (fun c3 => ?_)
  · rw [if_pos c3]
    obtain ⟨b, hb, rfl⟩ := inN_ex (by decide) c3
    rw [cl_nI (by omega)]
    refine R_aload_n (i := 0) (q := 10) dX7_share_9 rfl rfl rfl ?_
    refine R_cV0v (M' := MX7_tellMisses) (q := 13) dX7_share_10 ml_X7_215 mk_X7_tellMisses (Nat.le_of_ble_eq_true rfl) rfl (c_tellMisses hR hA) ?_
    rintro w1 ⟨hM, hF⟩
    refine R_iconst (v := nI 1) (q := 14) dX7_share_13 (by decide) rfl ?_
    refine R_iload_n (i := 1) (q := 15) dX7_share_14 rfl rfl rfl ?_
    refine R_ishl (q := 16) dX7_share_15 rfl ?_
    rw [(one_shl b hb).1]
    refine R_istore_n (i := 3) (q := 17) (loc' := [(3, _), (0, _), (1, _), (2, _)]) dX7_share_16 rfl (by decide) (by rfl) rfl ?_
    refine R_iconst (v := nI 0) (q := 18) dX7_share_17 (by decide) rfl ?_
    refine R_istore (q := 20) (loc' := [(4, _), (3, _), (0, _), (1, _), (2, _)]) dX7_share_18 (by decide) (by rfl) rfl ?_
    refine R_iconst (v := nI 0) (q := 21) dX7_share_20 (by decide) rfl ?_
    refine R_istore (q := 23) (loc' := [(5, _), (4, _), (3, _), (0, _), (1, _), (2, _)]) dX7_share_21 (by decide) (by rfl) rfl ?_
    have e0 : nI 0 = nI 0 - nI 0 := by decide
    rw [e0]
    refine Wq_mono (l_sa hA.2.1.o hb hM 16 0 (by omega) (by omega)) ?_
    rintro z w2 ⟨h1, rfl⟩
    exact ⟨h1, hR.sc hF⟩
  · rw [if_neg c3]
    refine R_iconst (v := (-1)) (q := 8) dX7_share_7 (by decide) rfl ?_
    refine R_ri dX7_share_8 rfl ?_
    exact ⟨rfl, hR⟩
end CH
