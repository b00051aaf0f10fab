/-! counts and sums -/
def ct (f : Nat → Bool) : Nat → Nat
  | 0 => 0
  | n + 1 => ct f n + (if f n then 1 else 0)
def sm (f : Nat → Nat) : Nat → Nat
  | 0 => 0
  | n + 1 => sm f n + f n
theorem ct_le (f : Nat → Bool) : ∀ n, ct f n ≤ n
  | 0 => Nat.le_refl _
  | n + 1 => by
    have h := ct_le f n
    simp only [ct]
    split <;> omega
theorem ct_cg {f g : Nat → Bool} : ∀ {n : Nat}, (∀ k, k < n → f k = g k) → ct f n = ct g n
  | 0, _ => rfl
  | n + 1, h => by
    simp only [ct]
    rw [ct_cg (fun k hk => h k (by omega)), h n (by omega)]
theorem sm_cg {f g : Nat → Nat} : ∀ {n : Nat}, (∀ k, k < n → f k = g k) → sm f n = sm g n
  | 0, _ => rfl
  | n + 1, h => by
    simp only [sm]
    rw [sm_cg (fun k hk => h k (by omega)), h n (by omega)]
theorem sm_bd {f : Nat → Nat} {c : Nat} : ∀ {n : Nat}, (∀ k, k < n → f k ≤ c) → sm f n ≤ n * c
  | 0, _ => by simp [sm]
  | n + 1, h => by
    have h1 := sm_bd (n := n) (fun k hk => h k (by omega))
    have h2 := h n (by omega)
    simp only [sm, Nat.succ_mul]
    omega
def dst (a b : Nat) : Nat := if a ≤ b then b - a else a - b
def sq (a b : Nat) : Nat := dst a b * dst a b
theorem nI_neg {a b : Nat} (h : a ≤ b) : -(nI a - nI b) = nI (b - a) := by
  rw [← pk_sub h]
  simp [Int32.sub_eq_add_neg, Int32.neg_add, Int32.neg_neg, Int32.add_comm]
theorem abs_dst {a b : Nat} (ha : a < 2 ^ 30) (hb : b < 2 ^ 30) : (if nI a - nI b < 0 then -(nI a - nI b) else nI a - nI b) = nI (dst a b) := by
  unfold dst
  rcases Nat.lt_or_ge a b with h | h
  · rw [if_pos (pk_sneg hb h), if_pos (Nat.le_of_lt h), nI_neg (Nat.le_of_lt h)]
  · rw [pk_sub h, if_neg (nI_pos (by omega))]
    by_cases h2 : a ≤ b
    · rw [if_pos h2]
      congr 1
      omega
    · rw [if_neg h2]
theorem sq_nI (a b : Nat) : (nI a - nI b) * (nI a - nI b) = nI (sq a b) := by
  unfold sq dst
  split
  · rename_i h
    rw [← pk_mul, ← nI_neg h, Int32.neg_mul, Int32.mul_neg, Int32.neg_neg]
  · rename_i h
    rw [← pk_mul, pk_sub (by omega)]
theorem sub_in {a b c : Nat} (ha : a < 2 ^ 30) (hb : b < 2 ^ 30) (hc : c < 2 ^ 30) : inN (nI a - nI b) c ↔ b ≤ a ∧ a - b < c := by
  constructor
  · intro h
    have h1 : b ≤ a := Nat.not_lt.mp fun h2 => h.1 (pk_sneg hb h2)
    refine ⟨h1, ?_⟩
    rw [pk_sub h1] at h
    exact (inN_nI (by omega) (by omega)).mp h
  · intro h
    rw [pk_sub h.1]
    exact (inN_nI (by omega) (by omega)).mpr h.2
theorem mj_X7_267 : Cond.methodLink RX7 267 yJ9_max_7cf53 ∈ tbG := tg 379 (by decide +kernel) rfl
theorem mj_X5_69 : Cond.methodLink RX5 69 yJ9_abs_0f7a4 ∈ tbG := tg 390 (by decide +kernel) rfl
theorem mj_X7_287 : Cond.methodLink RX7 287 yJ9_abs_0f7a4 ∈ tbG := tg 554 (by decide +kernel) rfl
section JD
variable {X : Cx} {r d : Nat} {w : Wd}
theorem R_loc {M : Mth} {pc : Nat} {loc loc' : Lo} {stk : List AV} {Q : Option AV → Wd → Prop} (ks : List Nat) (h : ks.filterMap (fun k => loc[k]?) = loc') (k : Wq X r d M pc loc' stk w Q) : Wq X r d M pc loc stk w Q := by
  intro h1 h2 p e s m args below meth c H locs ls B hP hD hS hl
  have hsub : ∀ q, q ∈ loc' → q ∈ loc := fun q hq => by
    rw [← h] at hq
    obtain ⟨j, -, hj⟩ := List.mem_filterMap.mp hq
    exact List.mem_of_getElem? hj
  refine k (fun q hq => h1 q (hsub q hq)) h2 p e s m args below meth c H locs ls B hP hD hS ⟨hl.1, hl.2.1, fun q hq => ?_⟩
  obtain ⟨q0, h3, h4⟩ := List.mem_map.mp hq
  exact hl.2.2 q (List.mem_map.mpr ⟨q0, hsub q0 h3, h4⟩)
theorem R_mabs {M : Mth} {pc q i : Nat} {loc : Lo} {stk : List AV} {Q : Option AV → Wd → Prop} {x : Int32} (hd : decode M.2.1 pc = .ok (.invokestatic i, 3)) (hl0 : Cond.methodLink M.2.2.2.2 i yJ9_abs_0f7a4 ∈ tbG) (hm : mokS MJ9_abs_0f7a4 1) (hc : (stk.map cat).sum ≤ 8) (hq : pc + 3 = q) (k : Wq X r (d + 1) M q loc (vI (if x < 0 then -x else x) :: stk) w Q) : Wq X r (d + 1) M pc loc (vI x :: stk) w Q := by
  subst hq
  intro h1 h2 p e s m args below meth c H locs ls B hP hD hS hl
  have hts := B.2.2.2.2.2.2.1
  refine va_mabs (rest := stk.map (con X)) B.1 B.2.1 (B.2.2.1.trans hl.1.symm) B.2.2.2.2.2.1 (hts _ hl0) (hts _ hm.1) (hts _ hm.2.1) (hts _ hm.2.2.1) (Nat.le_add_left 1 d) ?_ (Nat.zero_le _) (Nat.zero_le _) hd ?_
  · rw [con_sum]
    show _ ≤ 40 * (d + 1)
    omega
  · have e9 : (if 0 ≤ x then x else 0 - x) = (if x < 0 then -x else x) := by
      by_cases h : x < 0
      · rw [if_pos h, if_neg (fun h3 => by rw [Int32.lt_iff_toInt_lt] at h; rw [Int32.le_iff_toInt_le] at h3; omega), Int32.zero_sub]
      · rw [if_neg h, if_pos (by rw [Int32.lt_iff_toInt_lt] at h; rw [Int32.le_iff_toInt_le]; omega)]
    rw [e9]
    exact k h1 h2.tl.i p e s m args below meth c H locs ls B hP hD hS hl
theorem R_mmax {M : Mth} {pc q i : Nat} {loc : Lo} {stk : List AV} {Q : Option AV → Wd → Prop} {x y : Int32} (hd : decode M.2.1 pc = .ok (.invokestatic i, 3)) (hl0 : Cond.methodLink M.2.2.2.2 i yJ9_max_7cf53 ∈ tbG) (hm : mokS MJ9_max_7cf53 2) (hc : (stk.map cat).sum ≤ 8) (hq : pc + 3 = q) (k : Wq X r (d + 1) M q loc (vI (if x < y then y else x) :: stk) w Q) : Wq X r (d + 1) M pc loc (vI y :: vI x :: stk) w Q := by
  subst hq
  intro h1 h2 p e s m args below meth c H locs ls B hP hD hS hl
  have hts := B.2.2.2.2.2.2.1
  refine va_mmax (rest := stk.map (con X)) B.1 B.2.1 (B.2.2.1.trans hl.1.symm) B.2.2.2.2.2.1 (hts _ hl0) (hts _ hm.1) (hts _ hm.2.1) (hts _ hm.2.2.1) (Nat.le_add_left 1 d) ?_ (Nat.zero_le _) (Nat.zero_le _) hd (k h1 h2.tl.tl.i p e s m args below meth c H locs ls B hP hD hS hl)
  rw [con_sum]
  show _ ≤ 40 * (d + 1)
  omega
theorem l_fill {n : Nat} {pa : List Nat} {x : Int32} (hn : n < 2 ^ 31) : ∀ (k i : Nat), n ≤ i + k → i ≤ n → Wq X r d MJ7_fill_53178 5 [(3, vI (nI n)), (2, vI (nI i)), (0, vR 9 n pa), (1, vI x)] [] (uA w pa (fun j => if j < i then x else w.1 pa j)) (qV fun w' => w' = uA w pa (fun j => if j < n then x else w.1 pa j)) := by
  intro k
  induction k with
  | zero =>
    intro i h1 h2
    refine R_iload_n (i := 2) (q := 6) dJ7_fill_53178_5 rfl rfl rfl ?_
    refine R_iload_n (i := 3) (q := 7) dJ7_fill_53178_6 rfl rfl rfl ?_
    refine R_icmp_geN (by omega) (by omega) (tgt := 20) (q := 10) dJ7_fill_53178_7 (by decide) rfl (fun c1 => ?_) (fun c1 => ?_)
    · refine R_rv dJ7_fill_53178_20 rfl ?_
      obtain rfl : i = n := by omega
      rfl
    · omega
  | succ k ih =>
    intro i h1 h2
    refine R_iload_n (i := 2) (q := 6) dJ7_fill_53178_5 rfl rfl rfl ?_
    refine R_iload_n (i := 3) (q := 7) dJ7_fill_53178_6 rfl rfl rfl ?_
    refine R_icmp_geN (by omega) (by omega) (tgt := 20) (q := 10) dJ7_fill_53178_7 (by decide) rfl (fun c1 => ?_) (fun c1 => ?_)
    · refine R_rv dJ7_fill_53178_20 rfl ?_
      obtain rfl : i = n := by omega
      rfl
    · refine R_aload_n (i := 0) (q := 11) dJ7_fill_53178_10 rfl rfl rfl ?_
      refine R_iload_n (i := 2) (q := 12) dJ7_fill_53178_11 rfl rfl rfl ?_
      refine R_iload_n (i := 1) (q := 13) dJ7_fill_53178_12 rfl rfl rfl ?_
      refine R_iast (q := 14) dJ7_fill_53178_13 rfl c1 hn rfl ?_
      first | refine R_iincN (q := 17) (loc' := [(2, _), (3, _), (0, _), (1, _)]) dJ7_fill_53178_14 (by rfl) (by decide) (by rfl) rfl ?_ | refine R_iinc (q := 17) (loc' := [(2, _), (3, _), (0, _), (1, _)]) dJ7_fill_53178_14 (by rfl) (by rfl) (by decide) (by rfl) rfl ?_
      refine R_goto (q := 5) dJ7_fill_53178_17 (by decide) ?_
      have e : uI (uA w pa (fun j => if j < i then x else w.1 pa j)) pa i x = uA w pa (fun j => if j < i + 1 then x else w.1 pa j) := by
        unfold uI uA
        dsimp only
        congr 1
        funext q
        by_cases hq : q = pa
        · simp only [if_pos hq, if_true]
          funext j
          simp only [upd]
          by_cases hj : j = i
          · rw [if_pos hj, if_pos (by omega)]
          · rw [if_neg hj]
            by_cases h3 : j < i
            · rw [if_pos h3, if_pos (by omega)]
            · rw [if_neg h3, if_neg (by omega)]
        · simp only [if_neg hq]
      rw [e]
      refine R_loc [1, 0, 2, 3] (loc' := [(3, _), (2, _), (0, _), (1, _)]) (by rfl) ?_
      exact ih (i + 1) (by omega) c1
theorem c_fill {n : Nat} {pa : List Nat} {x : Int32} (hn : n < 2 ^ 31) : Ct X r d MJ7_fill_53178 [vR 9 n pa, vI x] w (qV fun w' => w' = uA w pa (fun j => if j < n then x else w.1 pa j)) := by
  refine Ct.of (by decide) rfl (Nat.le_of_ble_eq_true rfl) ?_
  show Wq _ _ _ _ 0 [(0, _), (1, _)] [] _ _
  refine R_iconst (v := nI 0) (q := 1) dJ7_fill_53178_0 (by decide) rfl ?_
  refine R_istore_n (i := 2) (q := 2) (loc' := [(2, _), (0, _), (1, _)]) dJ7_fill_53178_1 rfl (by decide) (by rfl) rfl ?_
  refine R_aload_n (i := 0) (q := 3) dJ7_fill_53178_2 rfl rfl rfl ?_
  refine R_alen (q := 4) dJ7_fill_53178_3 rfl ?_
  refine R_istore_n (i := 3) (q := 5) (loc' := [(3, _), (2, _), (0, _), (1, _)]) dJ7_fill_53178_4 rfl (by decide) (by rfl) rfl ?_
  have e : uA w pa (fun j => if j < 0 then x else w.1 pa j) = w := by
    unfold uA
    have : (fun q => if q = pa then (fun j => if j < 0 then x else w.1 pa j) else w.1 q) = w.1 := by
      funext q
      by_cases hq : q = pa
      · rw [if_pos hq, hq]
        funext j
        simp
      · rw [if_neg hq]
    rw [this]
  have h := l_fill (X := X) (r := r) (d := d) (w := w) (pa := pa) (x := x) hn n 0 (by omega) (by omega)
  rw [e] at h
  exact h
end JD
section ST
variable {X : Cx} {d : Nat} {p : List Nat} {w : Wd}
theorem c_copy {q : List Nat} {S : Pic} (hS : StA w q S) (hn : pN S ≤ 20) (hpq : p ≠ q) (hq : ∀ k, k :: q ≠ p) : Ct X 0 (d + 1) MX5_copy [vR 5 0 p, vR 5 0 q] w (qV fun w' => StA w' p S ∧ Fr [p, 5 :: p, 6 :: p, 7 :: p] w w') := by
  refine Ct.of (by decide) rfl (Nat.le_of_ble_eq_true rfl) ?_
  show Wq _ _ _ _ 0 [(0, _), (1, _)] [] _ _
  refine R_aload_n (i := 0) (q := 1) dX5_copy_0 rfl rfl rfl ?_
  refine R_aload_n (i := 1) (q := 2) dX5_copy_1 rfl rfl rfl ?_
  refine R_getI (q := 5) dX5_copy_2 fl_X5_9 rfl rfl ?_
  refine R_putI (q := 8) dX5_copy_5 fl_X5_9 rfl rfl ?_
  refine R_aload_n (i := 0) (q := 9) dX5_copy_8 rfl rfl rfl ?_
  refine R_aload_n (i := 1) (q := 10) dX5_copy_9 rfl rfl rfl ?_
  refine R_getI (q := 13) dX5_copy_10 fl_X5_15 rfl rfl ?_
  refine R_putI (q := 16) dX5_copy_13 fl_X5_15 rfl rfl ?_
  refine R_aload_n (i := 0) (q := 17) dX5_copy_16 rfl rfl rfl ?_
  refine R_aload_n (i := 1) (q := 18) dX5_copy_17 rfl rfl rfl ?_
  refine R_getI (q := 21) dX5_copy_18 fl_X5_31 rfl rfl ?_
  refine R_putI (q := 24) dX5_copy_21 fl_X5_31 rfl rfl ?_
  refine R_aload_n (i := 0) (q := 25) dX5_copy_24 rfl rfl rfl ?_
  refine R_aload_n (i := 1) (q := 26) dX5_copy_25 rfl rfl rfl ?_
  refine R_getI (q := 29) dX5_copy_26 fl_X5_18 rfl rfl ?_
  refine R_putI (q := 32) dX5_copy_29 fl_X5_18 rfl rfl ?_
  refine R_aload_n (i := 0) (q := 33) dX5_copy_32 rfl rfl rfl ?_
  refine R_aload_n (i := 1) (q := 34) dX5_copy_33 rfl rfl rfl ?_
  refine R_getI (q := 37) dX5_copy_34 fl_X5_34 rfl rfl ?_
  refine R_putI (q := 40) dX5_copy_37 fl_X5_34 rfl rfl ?_
  refine R_aload_n (i := 1) (q := 41) dX5_copy_40 rfl rfl rfl ?_
  refine R_getR (q := 44) dX5_copy_41 fl_X5_21 rfl (by decide) rfl ?_
  refine R_iconst (v := nI 0) (q := 45) dX5_copy_44 (by decide) rfl ?_
  refine R_aload_n (i := 0) (q := 46) dX5_copy_45 rfl rfl rfl ?_
  refine R_getR (q := 49) dX5_copy_46 fl_X5_21 rfl (by decide) rfl ?_
  refine R_iconst (v := nI 0) (q := 50) dX5_copy_49 (by decide) rfl ?_
  refine R_bipush (v := nI 20) (q := 52) dX5_copy_50 (by decide) rfl ?_
  refine R_copy (q := 55) dX5_copy_52 ac_X5_43 acw rfl rfl rfl (by decide) (by decide) (by decide) (Nat.le_of_ble_eq_true rfl) rfl ?_
  refine R_aload_n (i := 1) (q := 56) dX5_copy_55 rfl rfl rfl ?_
  refine R_getR (q := 59) dX5_copy_56 fl_X5_25 rfl (by decide) rfl ?_
  refine R_iconst (v := nI 0) (q := 60) dX5_copy_59 (by decide) rfl ?_
  refine R_aload_n (i := 0) (q := 61) dX5_copy_60 rfl rfl rfl ?_
  refine R_getR (q := 64) dX5_copy_61 fl_X5_25 rfl (by decide) rfl ?_
  refine R_iconst (v := nI 0) (q := 65) dX5_copy_64 (by decide) rfl ?_
  refine R_bipush (v := nI 20) (q := 67) dX5_copy_65 (by decide) rfl ?_
  refine R_copy (q := 70) dX5_copy_67 ac_X5_43 acw rfl rfl rfl (by decide) (by decide) (by decide) (Nat.le_of_ble_eq_true rfl) rfl ?_
  refine R_aload_n (i := 1) (q := 71) dX5_copy_70 rfl rfl rfl ?_
  refine R_getR (q := 74) dX5_copy_71 fl_X5_28 rfl (by decide) rfl ?_
  refine R_iconst (v := nI 0) (q := 75) dX5_copy_74 (by decide) rfl ?_
  refine R_aload_n (i := 0) (q := 76) dX5_copy_75 rfl rfl rfl ?_
  refine R_getR (q := 79) dX5_copy_76 fl_X5_28 rfl (by decide) rfl ?_
  refine R_iconst (v := nI 0) (q := 80) dX5_copy_79 (by decide) rfl ?_
  refine R_bipush (v := nI 16) (q := 82) dX5_copy_80 (by decide) rfl ?_
  refine R_copy (q := 85) dX5_copy_82 ac_X5_43 acw rfl rfl rfl (by decide) (by decide) (by decide) (Nat.le_of_ble_eq_true rfl) rfl ?_
  refine R_rv dX5_copy_85 rfl ?_
  obtain ⟨h0, h1, h2, h3, h4, h5, h6, h7⟩ := hS
  have hqp : ¬ q = p := fun h => hpq h.symm
  refine ⟨⟨?_, ?_, ?_, ?_, ?_, ?_, ?_, ?_⟩, ?_, ?_⟩
  · simp [uI, uA, upd, cns2, hpq, hqp, h0]
  · simp [uI, uA, upd, cns2, hpq, hqp, h1]
  · simp [uI, uA, upd, cns2, hpq, hqp, h2]
  · simp [uI, uA, upd, cns2, hpq, hqp, h3]
  · simp [uI, uA, upd, cns2, hpq, hqp, h4]
  · intro s hs
    have hs2 : s < 20 := by omega
    simp [uI, uA, upd, cns, cns2, hpq, hqp, hq, hs2, h5 s hs]
  · intro s hs
    have hs2 : s < 20 := by omega
    simp [uI, uA, upd, cns, cns2, hpq, hqp, hq, hs2, h6 s hs]
  · intro s hs
    simp [uI, uA, upd, cns, cns2, hpq, hqp, hq, hs, h7 s hs]
  · rfl
  · intro y hy
    simp only [List.mem_cons, List.not_mem_nil, or_false, not_or] at hy
    simp [uI, uA, hy.1, hy.2.1, hy.2.2.1, hy.2.2.2]
theorem c_renew (f g : Nat → Nat) : Ct X 0 (d + 1) MX5_renew [vR 5 0 p] w (qV fun w' => StA w' p (1, 1, 0, 1, 0, f, g, fun _ => 0) ∧ Fr [p, 7 :: p] w w') := by
  refine Ct.of (by decide) rfl (Nat.le_of_ble_eq_true rfl) ?_
  show Wq _ _ _ _ 0 [(0, _)] [] _ _
  refine R_aload_n (i := 0) (q := 1) dX5_renew_0 rfl rfl rfl ?_
  refine R_iconst (v := nI 1) (q := 2) dX5_renew_1 (by decide) rfl ?_
  refine R_putI (q := 5) dX5_renew_2 fl_X5_9 rfl rfl ?_
  refine R_aload_n (i := 0) (q := 6) dX5_renew_5 rfl rfl rfl ?_
  refine R_iconst (v := nI 1) (q := 7) dX5_renew_6 (by decide) rfl ?_
  refine R_putI (q := 10) dX5_renew_7 fl_X5_15 rfl rfl ?_
  refine R_aload_n (i := 0) (q := 11) dX5_renew_10 rfl rfl rfl ?_
  refine R_iconst (v := nI 0) (q := 12) dX5_renew_11 (by decide) rfl ?_
  refine R_putI (q := 15) dX5_renew_12 fl_X5_31 rfl rfl ?_
  refine R_aload_n (i := 0) (q := 16) dX5_renew_15 rfl rfl rfl ?_
  refine R_iconst (v := nI 1) (q := 17) dX5_renew_16 (by decide) rfl ?_
  refine R_putI (q := 20) dX5_renew_17 fl_X5_18 rfl rfl ?_
  refine R_aload_n (i := 0) (q := 21) dX5_renew_20 rfl rfl rfl ?_
  refine R_iconst (v := nI 0) (q := 22) dX5_renew_21 (by decide) rfl ?_
  refine R_putI (q := 25) dX5_renew_22 fl_X5_34 rfl rfl ?_
  refine R_aload_n (i := 0) (q := 26) dX5_renew_25 rfl rfl rfl ?_
  refine R_getR (q := 29) dX5_renew_26 fl_X5_28 rfl (by decide) rfl ?_
  refine R_iconst (v := nI 0) (q := 30) dX5_renew_29 (by decide) rfl ?_
  refine R_cS2v (M' := MJ7_fill_53178) (q := 33) dX5_renew_30 ml_X5_37 mk_J7_fill_53178 (Nat.le_of_ble_eq_true rfl) rfl (c_fill (by decide)) ?_
  rintro w rfl
  refine R_rv dX5_renew_33 rfl ?_
  refine ⟨⟨?_, ?_, ?_, ?_, ?_, ?_, ?_, ?_⟩, ?_, ?_⟩
  · simp [uI, uA, upd, cns2]
  · simp [uI, uA, upd, cns2]
  · simp [uI, uA, upd, cns2]
  · simp [uI, uA, upd, cns2]
  · simp [uI, uA, upd, cns2]
  · intro s hs
    exact absurd hs (Nat.not_lt_zero s)
  · intro s hs
    exact absurd hs (Nat.not_lt_zero s)
  · intro s hs
    simp [uI, uA, upd, hs]
  · rfl
  · intro y hy
    simp only [List.mem_cons, List.not_mem_nil, or_false, not_or] at hy
    simp [uI, uA, hy.1, hy.2]
theorem l_shadesInRow {S : Pic} {r0 : Nat} (hS : StA w p S) (hN : pN S ≤ 20) (hr : r0 < 2 ^ 31) (hb : ∀ s, s < pN S → pro S s < 2 ^ 31) : ∀ (k i : Nat), pN S ≤ i + k → i ≤ pN S → Wq X 0 d MX5_shadesInRow 4 [(3, vI (nI i)), (2, vI (nI (ct (fun s => pro S s == r0) i))), (0, vR 5 0 p), (1, vI (nI r0))] [] w (qI fun x w' => x = nI (ct (fun s => pro S s == r0) (pN S)) ∧ w' = w) := by
  obtain ⟨hR, hC, hn, hs, hl, hro, hco, hdt⟩ := id hS
  intro k
  induction k with
  | zero =>
    intro i h1 h2
    refine R_iload_n (i := 3) (q := 5) dX5_shadesInRow_4 rfl rfl rfl ?_
    refine R_aload_n (i := 0) (q := 6) dX5_shadesInRow_5 rfl rfl rfl ?_
    refine R_getI' (q := 9) dX5_shadesInRow_6 fl_X5_31 rfl (hn) rfl ?_
    refine R_icmp_geN (by omega) (by omega) (tgt := 31) (q := 12) dX5_shadesInRow_9 (by decide) rfl (fun c1 => ?_) (fun c1 => ?_)
    · refine R_iload_n (i := 2) (q := 32) dX5_shadesInRow_31 rfl rfl rfl ?_
      refine R_ri dX5_shadesInRow_32 rfl ?_
      obtain rfl : i = pN S := by omega
      exact ⟨rfl, rfl⟩
    · omega
  | succ k ih =>
    intro i h1 h2
    refine R_iload_n (i := 3) (q := 5) dX5_shadesInRow_4 rfl rfl rfl ?_
    refine R_aload_n (i := 0) (q := 6) dX5_shadesInRow_5 rfl rfl rfl ?_
    refine R_getI' (q := 9) dX5_shadesInRow_6 fl_X5_31 rfl (hn) rfl ?_
    refine R_icmp_geN (by omega) (by omega) (tgt := 31) (q := 12) dX5_shadesInRow_9 (by decide) rfl (fun c1 => ?_) (fun c1 => ?_)
    · refine R_iload_n (i := 2) (q := 32) dX5_shadesInRow_31 rfl rfl rfl ?_
      refine R_ri dX5_shadesInRow_32 rfl ?_
      obtain rfl : i = pN S := by omega
      exact ⟨rfl, rfl⟩
    · have hbi := hb i c1
      have e := ih (i + 1) (by omega) (by omega)
      simp only [ct] at e
      refine R_aload_n (i := 0) (q := 13) dX5_shadesInRow_12 rfl rfl rfl ?_
      refine R_getR (q := 16) dX5_shadesInRow_13 fl_X5_21 rfl (by decide) rfl ?_
      refine R_iload_n (i := 3) (q := 17) dX5_shadesInRow_16 rfl rfl rfl ?_
      refine R_iald' (q := 18) dX5_shadesInRow_17 (rfl) (by omega) (by decide) (hro i c1) rfl ?_
      refine R_iload_n (i := 1) (q := 19) dX5_shadesInRow_18 rfl rfl rfl ?_
      refine R_icmp_neN (by omega) (by omega) (tgt := 25) (q := 22) dX5_shadesInRow_19 (by decide) rfl (fun c2 => ?_) (fun c2 => ?_)
      · first | refine R_iincN (q := 28) (loc' := [(3, _), (2, _), (0, _), (1, _)]) dX5_shadesInRow_25 (by rfl) (by decide) (by rfl) rfl ?_ | refine R_iinc (q := 28) (loc' := [(3, _), (2, _), (0, _), (1, _)]) dX5_shadesInRow_25 (by rfl) (by rfl) (by decide) (by rfl) rfl ?_
        refine R_goto (q := 4) dX5_shadesInRow_28 (by decide) ?_
        rw [if_neg (by simpa using c2)] at e
        exact e
      · first | refine R_iincN (q := 25) (loc' := [(2, _), (3, _), (0, _), (1, _)]) dX5_shadesInRow_22 (by rfl) (by decide) (by rfl) rfl ?_ | refine R_iinc (q := 25) (loc' := [(2, _), (3, _), (0, _), (1, _)]) dX5_shadesInRow_22 (by rfl) (by rfl) (by decide) (by rfl) rfl ?_
        first | refine R_iincN (q := 28) (loc' := [(3, _), (2, _), (0, _), (1, _)]) dX5_shadesInRow_25 (by rfl) (by decide) (by rfl) rfl ?_ | refine R_iinc (q := 28) (loc' := [(3, _), (2, _), (0, _), (1, _)]) dX5_shadesInRow_25 (by rfl) (by rfl) (by decide) (by rfl) rfl ?_
        refine R_goto (q := 4) dX5_shadesInRow_28 (by decide) ?_
        rw [if_pos (by simpa using c2)] at e
        exact e
theorem c_shadesInRow {S : Pic} {r0 : Nat} (hS : StA w p S) (hN : pN S ≤ 20) (hr : r0 < 2 ^ 31) (hb : ∀ s, s < pN S → pro S s < 2 ^ 31) : Ct X 0 d MX5_shadesInRow [vR 5 0 p, vI (nI r0)] w (qI fun x w' => x = nI (ct (fun s => pro S s == r0) (pN S)) ∧ w' = w) := by
  refine Ct.of (by decide) rfl (Nat.le_of_ble_eq_true rfl) ?_
  show Wq _ _ _ _ 0 [(0, _), (1, _)] [] _ _
  refine R_iconst (v := nI 0) (q := 1) dX5_shadesInRow_0 (by decide) rfl ?_
  refine R_istore_n (i := 2) (q := 2) (loc' := [(2, _), (0, _), (1, _)]) dX5_shadesInRow_1 rfl (by decide) (by rfl) rfl ?_
  refine R_iconst (v := nI 0) (q := 3) dX5_shadesInRow_2 (by decide) rfl ?_
  refine R_istore_n (i := 3) (q := 4) (loc' := [(3, _), (2, _), (0, _), (1, _)]) dX5_shadesInRow_3 rfl (by decide) (by rfl) rfl ?_
  exact l_shadesInRow hS hN hr hb (pN S) 0 (by omega) (by omega)
theorem l_timesPainted {S : Pic} {r0 : Nat} (hS : StA w p S) (hr : r0 < 2 ^ 31) (hb : ∀ k, k < 16 → pdt S k < 2 ^ 31) : ∀ (k i : Nat), 16 ≤ i + k → i ≤ 16 → Wq X 0 d MX5_timesPainted 4 [(3, vI (nI i)), (2, vI (nI (ct (fun s => pdt S s == r0) i))), (0, vR 5 0 p), (1, vI (nI r0))] [] w (qI fun x w' => x = nI (ct (fun s => pdt S s == r0) 16) ∧ w' = w) := by
  obtain ⟨hR, hC, hn, hs, hl, hro, hco, hdt⟩ := id hS
  intro k
  induction k with
  | zero =>
    intro i h1 h2
    refine R_iload_n (i := 3) (q := 5) dX5_timesPainted_4 rfl rfl rfl ?_
    refine R_bipush (v := nI 16) (q := 7) dX5_timesPainted_5 (by decide) rfl ?_
    refine R_icmp_geN (by omega) (by omega) (tgt := 29) (q := 10) dX5_timesPainted_7 (by decide) rfl (fun c1 => ?_) (fun c1 => ?_)
    · refine R_iload_n (i := 2) (q := 30) dX5_timesPainted_29 rfl rfl rfl ?_
      refine R_ri dX5_timesPainted_30 rfl ?_
      obtain rfl : i = 16 := by omega
      exact ⟨rfl, rfl⟩
    · omega
  | succ k ih =>
    intro i h1 h2
    refine R_iload_n (i := 3) (q := 5) dX5_timesPainted_4 rfl rfl rfl ?_
    refine R_bipush (v := nI 16) (q := 7) dX5_timesPainted_5 (by decide) rfl ?_
    refine R_icmp_geN (by omega) (by omega) (tgt := 29) (q := 10) dX5_timesPainted_7 (by decide) rfl (fun c1 => ?_) (fun c1 => ?_)
    · refine R_iload_n (i := 2) (q := 30) dX5_timesPainted_29 rfl rfl rfl ?_
      refine R_ri dX5_timesPainted_30 rfl ?_
      obtain rfl : i = 16 := by omega
      exact ⟨rfl, rfl⟩
    · have hbi := hb i c1
      have e := ih (i + 1) (by omega) (by omega)
      simp only [ct] at e
      refine R_aload_n (i := 0) (q := 11) dX5_timesPainted_10 rfl rfl rfl ?_
      refine R_getR (q := 14) dX5_timesPainted_11 fl_X5_28 rfl (by decide) rfl ?_
      refine R_iload_n (i := 3) (q := 15) dX5_timesPainted_14 rfl rfl rfl ?_
      refine R_iald' (q := 16) dX5_timesPainted_15 (rfl) (by omega) (by decide) (hdt i c1) rfl ?_
      refine R_iload_n (i := 1) (q := 17) dX5_timesPainted_16 rfl rfl rfl ?_
      refine R_icmp_neN (by omega) (by omega) (tgt := 23) (q := 20) dX5_timesPainted_17 (by decide) rfl (fun c2 => ?_) (fun c2 => ?_)
      · first | refine R_iincN (q := 26) (loc' := [(3, _), (2, _), (0, _), (1, _)]) dX5_timesPainted_23 (by rfl) (by decide) (by rfl) rfl ?_ | refine R_iinc (q := 26) (loc' := [(3, _), (2, _), (0, _), (1, _)]) dX5_timesPainted_23 (by rfl) (by rfl) (by decide) (by rfl) rfl ?_
        refine R_goto (q := 4) dX5_timesPainted_26 (by decide) ?_
        rw [if_neg (by simpa using c2)] at e
        exact e
      · first | refine R_iincN (q := 23) (loc' := [(2, _), (3, _), (0, _), (1, _)]) dX5_timesPainted_20 (by rfl) (by decide) (by rfl) rfl ?_ | refine R_iinc (q := 23) (loc' := [(2, _), (3, _), (0, _), (1, _)]) dX5_timesPainted_20 (by rfl) (by rfl) (by decide) (by rfl) rfl ?_
        first | refine R_iincN (q := 26) (loc' := [(3, _), (2, _), (0, _), (1, _)]) dX5_timesPainted_23 (by rfl) (by decide) (by rfl) rfl ?_ | refine R_iinc (q := 26) (loc' := [(3, _), (2, _), (0, _), (1, _)]) dX5_timesPainted_23 (by rfl) (by rfl) (by decide) (by rfl) rfl ?_
        refine R_goto (q := 4) dX5_timesPainted_26 (by decide) ?_
        rw [if_pos (by simpa using c2)] at e
        exact e
theorem c_timesPainted {S : Pic} {r0 : Nat} (hS : StA w p S) (hr : r0 < 2 ^ 31) (hb : ∀ k, k < 16 → pdt S k < 2 ^ 31) : Ct X 0 d MX5_timesPainted [vR 5 0 p, vI (nI r0)] w (qI fun x w' => x = nI (ct (fun s => pdt S s == r0) 16) ∧ w' = w) := by
  refine Ct.of (by decide) rfl (Nat.le_of_ble_eq_true rfl) ?_
  show Wq _ _ _ _ 0 [(0, _), (1, _)] [] _ _
  refine R_iconst (v := nI 0) (q := 1) dX5_timesPainted_0 (by decide) rfl ?_
  refine R_istore_n (i := 2) (q := 2) (loc' := [(2, _), (0, _), (1, _)]) dX5_timesPainted_1 rfl (by decide) (by rfl) rfl ?_
  refine R_iconst (v := nI 0) (q := 3) dX5_timesPainted_2 (by decide) rfl ?_
  refine R_istore_n (i := 3) (q := 4) (loc' := [(3, _), (2, _), (0, _), (1, _)]) dX5_timesPainted_3 rfl (by decide) (by rfl) rfl ?_
  exact l_timesPainted hS hr hb 16 0 (by omega) (by omega)
end ST
