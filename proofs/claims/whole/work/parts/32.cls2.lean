/-! the calls, as functions of the state -/
abbrev cl (x : Int32) : Nat := x.toNatClampNeg
theorem cl_nI {k : Nat} (h : k < 2 ^ 31) : cl (nI k) = k := nI_clamp h
def nx (A : Ab) (S : Pic) : Ab := (aN A, aX A, S, aP A :: (aA A).take 13, A.2.2.2.2)
def opWrite (A : Ab) (x : Int32) : Int32 × Ab := if inN x 256 then (if aN A < 70 then (nI (aN A + 1), (aN A + 1, fnU (aX A) (aN A) x, A.2.2)) else (-4, A)) else (-2, A)
def opAbout (A : Ab) (x : Int32) : Int32 := if inN x 15 then abI A (cl x) else -2
def opShade (A : Ab) (x k : Int32) : Int32 := if inN x (pN (aP A)) then (if k = nI 0 then nI (pro (aP A) (cl x)) else if k = nI 1 then nI (pco (aP A) (cl x)) else if k = nI 2 then nI (ct (fun s => pdt (aP A) s == cl x) 16) else -2) else -1
def opGuess (A : Ab) (h x : Int32) : Int32 := if inN h 2 then (if h = 0 then (if inN x (pR (aP A)) then gI (pro (aP A)) (cl x) (pN (aP A)) else -1) else (if inN x (pC (aP A)) then gI (pco (aP A)) (cl x) (pN (aP A)) else -1)) else -2
def opDot (A : Ab) (l j o : Int32) : Int32 := if inN l 4 ∧ inN j 4 then (if o = 0 then nI (pdt (aP A) (cl l * 4 + cl j)) else nI (outN (aP A) (pH (aP A)) (pL (aP A)) (cl l * 4 + cl j))) else -1
def opChange (A : Ab) (x y : Int32) : Int32 × Ab := if inN x (pN (aP A)) ∧ inN y (pN (aP A)) then (if x = y then (-3, A) else (nI (sdB (swP (aP A) (cl x) (cl y))), nx A (swP (aP A) (cl x) (cl y)))) else (-1, A)
def opMove (A : Ab) (x r c : Int32) : Int32 × Ab := if inN x (pN (aP A)) ∧ inN r (pR (aP A)) ∧ inN c (pC (aP A)) then (if ∀ s, s < pN (aP A) → ¬ (pro (aP A) s = cl r ∧ pco (aP A) s = cl c) then (nI (sdB (puP (aP A) (cl x) (cl r) (cl c))), nx A (puP (aP A) (cl x) (cl r) (cl c))) else (-3, A)) else (-1, A)
def layS (S : Pic) (b : Nat) : Pic := layP S (laT (pR S) (pC S) b (pR S + pC S - 1))
def opLay (A : Ab) (b : Int32) : Int32 × Ab := if inN b 6 then (if pN (aP A) ≤ cw (pC (aP A)) (cl b) (pR (aP A)) then (nI (sdB (layS (aP A) (cl b))), nx A (layS (aP A) (cl b))) else (-3, A)) else (-2, A)
def opPaint (A : Ab) (l j x : Int32) : Int32 × Ab := if inN l 4 ∧ inN j 4 ∧ inN x (pN (aP A)) then (nI (pdt (aP A) (cl l * 4 + cl j)), nx A (dtP (aP A) (cl l * 4 + cl j) (cl x))) else (-1, A)
def opShift (A : Ab) (v : Int32) : Int32 × Ab := if inN v 4 then (nI (pH (aP A)), nx A (shP (aP A) (cl v))) else (-2, A)
def opLose (A : Ab) (k : Int32) : Int32 × Ab := if inN k 4 then (nI (bitN (pL (aP A) ^^^ 2 ^ cl k) (cl k)), nx A (loP (aP A) (cl k))) else (-1, A)
def opUndo (A : Ab) : Int32 × Ab := match aA A with
  | [] => (-3, A)
  | S :: L => (nI L.length, (aN A, aX A, S, L, A.2.2.2.2))
def opMiss (A : Ab) (x : Int32) : Int32 := if inN x 16 then nI (msN (aP A) (pH (aP A)) (cl x)) else -2
def opSee (A : Ab) (l j v : Int32) : Int32 × Ab := if inN l 4 ∧ inN j 4 then (if inN v 20 then (if aM A < 6 then (nI (aM A + 1), (aN A, aX A, aP A, aA A, aK A, aM A + 1, fnU (aL A) (aM A) (cl l * 4 + cl j), fnU (aV A) (aM A) (cl v), aZ A)) else (-4, A)) else (-2, A)) else (-1, A)
def opUnsee (A : Ab) : Int32 × Ab := (nI (aM A), (aN A, aX A, aP A, aA A, aK A, 0, aL A, aV A, aZ A))
abbrev soA (A : Ab) (k : Nat) : Prop := ∀ i, i < aM A → outN (aP A) (pH (aP A)) k (aL A i) = aV A i
def whI (A : Ab) : Nat → Int32
  | 0 => nI 0
  | k + 1 => if soA A k then whI A k ||| (nI 1 <<< (nI k &&& 31)) else whI A k
def opKeep (A : Ab) (i : Int32) : Int32 × Ab := if inN i 2 then (nI (pL (aP A)), (aN A, aX A, aP A, aA A, fnU (aK A) (cl i) (some (aP A)), A.2.2.2.2.2)) else (-1, A)
def opAgain (A : Ab) (i : Int32) : Int32 × Ab := if inN i 2 then (match aK A (cl i) with
  | none => (-3, A)
  | some S => (nI (pL S), (aN A, aX A, S, [], A.2.2.2.2))) else (-1, A)
def opSeed (A : Ab) (v : Int64) : Int64 × Ab := (aZ A, (aN A, aX A, aP A, aA A, aK A, aM A, aL A, aV A, v))
theorem ClsR.act {w w1 w2 : Wd} {A : Ab} {S : Pic} {k : Nat} (hR : ClsR w A) (h1 : ActA w1 (aP A :: (aA A).take 13)) (hF1 : Fr (FA k) w w1) (h2 : StA w2 [1] S) (hF2 : Fr [[1], [5, 1], [6, 1], [7, 1]] w1 w2) : ClsR w2 (nx A S) := by
  obtain ⟨q1, q2, q3, q4, q5, q6⟩ := hR
  refine ⟨(q1.fr hF1 (by simp) (by simp)).fr hF2 (by decide) (by decide), h2, h1.fr hF2 (by decide) ?_, (q4.fr hF1 (by simp) ?_).fr hF2 (by decide) ?_, (q5.fr hF1 (by simp) (by simp) (by simp)).fr hF2 (by decide) (by decide) (by decide), by rw [hF2.1, hF1.1]; exact q6⟩
  · intro j _
    refine ⟨?_, ?_, ?_, ?_⟩ <;> simp
  · intro j _
    refine ⟨?_, ?_, ?_, ?_⟩ <;> simp
  · intro j _
    refine ⟨?_, ?_, ?_, ?_⟩ <;> simp
theorem StA.rem {w w1 : Wd} {S : Pic} {k : Nat} (h : StA w [1] S) (hF1 : Fr (FA k) w w1) : StA w1 [1] S := h.fr hF1 (by simp) (by simp) (by simp) (by simp)
theorem OKo.sw {S : Pic} {a b : Nat} (h : OKo S) (ha : a < pN S) (hb : b < pN S) : OKo (swP S a b) := by
  refine ⟨h.1, ?_, h.2.2⟩
  intro s hs
  have hs : s < pN S := hs
  have h1 := h.2.1 a ha
  have h2 := h.2.1 b hb
  have h3 := h.2.1 s hs
  show fnU (fnU (pro S) a (pro S b)) b (pro S a) s < 6 ∧ fnU (fnU (pco S) a (pco S b)) b (pco S a) s < 6
  unfold fnU
  split
  · exact h1
  · split
    · exact h2
    · exact h3
theorem OKo.pu {S : Pic} {s a b : Nat} (h : OKo S) (ha : a < 6) (hb : b < 6) : OKo (puP S s a b) := by
  refine ⟨h.1, ?_, h.2.2⟩
  intro t ht
  have h3 := h.2.1 t ht
  show fnU (pro S) s a t < 6 ∧ fnU (pco S) s b t < 6
  unfold fnU
  split
  · exact ⟨ha, hb⟩
  · exact h3
section TH
variable {X : Cx} {d : Nat} {w : Wd} {A : Ab}
theorem c_isPack {x : Int32} : Ct X 0 d MX7_isPack [vI x] w (qI fun z w' => z = bI (inN x 4) ∧ w' = w) := by
  refine Ct.of (by decide) rfl (Nat.le_of_ble_eq_true rfl) ?_
  show Wq _ _ _ _ 0 [(0, _)] [] _ _
  refine R_iload_n (i := 0) (q := 1) dX7_isPack_0 rfl rfl rfl ?_
  refine R_if_lt (tgt := 13) (q := 4) dX7_isPack_1 (by decide) rfl (fun c1 => ?_) (fun c1 => ?_)
  · refine R_iconst (v := nI 0) (q := 14) dX7_isPack_13 (by decide) rfl ?_
    refine R_rz dX7_isPack_14 rfl (by decide) ?_
    exact ⟨(bI_f (fun h => h.1 c1)).symm, rfl⟩
  · refine R_iload_n (i := 0) (q := 5) dX7_isPack_4 rfl rfl rfl ?_
    refine R_iconst (v := nI 4) (q := 6) dX7_isPack_5 (by decide) rfl ?_
    refine R_icmp_ge (tgt := 13) (q := 9) dX7_isPack_6 (by decide) rfl (fun c2 => ?_) (fun c2 => ?_)
    · refine R_iconst (v := nI 0) (q := 14) dX7_isPack_13 (by decide) rfl ?_
      refine R_rz dX7_isPack_14 rfl (by decide) ?_
      exact ⟨(bI_f (fun h => h.2 c2)).symm, rfl⟩
    · refine R_iconst (v := nI 1) (q := 10) dX7_isPack_9 (by decide) rfl ?_
      refine R_goto (q := 14) dX7_isPack_10 (by decide) ?_
      refine R_rz dX7_isPack_14 rfl (by decide) ?_
      exact ⟨(bI_t ⟨c1, c2⟩).symm, rfl⟩
theorem c_isShift {x : Int32} : Ct X 0 d MX7_isShift [vI x] w (qI fun z w' => z = bI (inN x 4) ∧ w' = w) := by
  refine Ct.of (by decide) rfl (Nat.le_of_ble_eq_true rfl) ?_
  show Wq _ _ _ _ 0 [(0, _)] [] _ _
  refine R_iload_n (i := 0) (q := 1) dX7_isShift_0 rfl rfl rfl ?_
  refine R_if_lt (tgt := 13) (q := 4) dX7_isShift_1 (by decide) rfl (fun c1 => ?_) (fun c1 => ?_)
  · refine R_iconst (v := nI 0) (q := 14) dX7_isShift_13 (by decide) rfl ?_
    refine R_rz dX7_isShift_14 rfl (by decide) ?_
    exact ⟨(bI_f (fun h => h.1 c1)).symm, rfl⟩
  · refine R_iload_n (i := 0) (q := 5) dX7_isShift_4 rfl rfl rfl ?_
    refine R_iconst (v := nI 4) (q := 6) dX7_isShift_5 (by decide) rfl ?_
    refine R_icmp_ge (tgt := 13) (q := 9) dX7_isShift_6 (by decide) rfl (fun c2 => ?_) (fun c2 => ?_)
    · refine R_iconst (v := nI 0) (q := 14) dX7_isShift_13 (by decide) rfl ?_
      refine R_rz dX7_isShift_14 rfl (by decide) ?_
      exact ⟨(bI_f (fun h => h.2 c2)).symm, rfl⟩
    · refine R_iconst (v := nI 1) (q := 10) dX7_isShift_9 (by decide) rfl ?_
      refine R_goto (q := 14) dX7_isShift_10 (by decide) ?_
      refine R_rz dX7_isShift_14 rfl (by decide) ?_
      exact ⟨(bI_t ⟨c1, c2⟩).symm, rfl⟩
theorem c_isSlot {x : Int32} : Ct X 0 d MX7_isSlot [vI x] w (qI fun z w' => z = bI (inN x 2) ∧ w' = w) := by
  refine Ct.of (by decide) rfl (Nat.le_of_ble_eq_true rfl) ?_
  show Wq _ _ _ _ 0 [(0, _)] [] _ _
  refine R_iload_n (i := 0) (q := 1) dX7_isSlot_0 rfl rfl rfl ?_
  refine R_if_lt (tgt := 13) (q := 4) dX7_isSlot_1 (by decide) rfl (fun c1 => ?_) (fun c1 => ?_)
  · refine R_iconst (v := nI 0) (q := 14) dX7_isSlot_13 (by decide) rfl ?_
    refine R_rz dX7_isSlot_14 rfl (by decide) ?_
    exact ⟨(bI_f (fun h => h.1 c1)).symm, rfl⟩
  · refine R_iload_n (i := 0) (q := 5) dX7_isSlot_4 rfl rfl rfl ?_
    refine R_iconst (v := nI 2) (q := 6) dX7_isSlot_5 (by decide) rfl ?_
    refine R_icmp_ge (tgt := 13) (q := 9) dX7_isSlot_6 (by decide) rfl (fun c2 => ?_) (fun c2 => ?_)
    · refine R_iconst (v := nI 0) (q := 14) dX7_isSlot_13 (by decide) rfl ?_
      refine R_rz dX7_isSlot_14 rfl (by decide) ?_
      exact ⟨(bI_f (fun h => h.2 c2)).symm, rfl⟩
    · refine R_iconst (v := nI 1) (q := 10) dX7_isSlot_9 (by decide) rfl ?_
      refine R_goto (q := 14) dX7_isSlot_10 (by decide) ?_
      refine R_rz dX7_isSlot_14 rfl (by decide) ?_
      exact ⟨(bI_t ⟨c1, c2⟩).symm, rfl⟩
theorem tenths {x : Int32} : nI 10 < x ↔ nI 11 ≤ x := by
  rw [Int32.lt_iff_toInt_lt, Int32.le_iff_toInt_le, show (nI 10).toInt = 10 from rfl, show (nI 11).toInt = 11 from rfl]
  omega
theorem c_isTenths {x : Int32} : Ct X 0 d MX7_isTenths [vI x] w (qI fun z w' => z = bI (inN x 11) ∧ w' = w) := by
  refine Ct.of (by decide) rfl (Nat.le_of_ble_eq_true rfl) ?_
  show Wq _ _ _ _ 0 [(0, _)] [] _ _
  refine R_iload_n (i := 0) (q := 1) dX7_isTenths_0 rfl rfl rfl ?_
  refine R_if_lt (tgt := 14) (q := 4) dX7_isTenths_1 (by decide) rfl (fun c1 => ?_) (fun c1 => ?_)
  · refine R_iconst (v := nI 0) (q := 15) dX7_isTenths_14 (by decide) rfl ?_
    refine R_rz dX7_isTenths_15 rfl (by decide) ?_
    exact ⟨(bI_f (fun h => h.1 c1)).symm, rfl⟩
  · refine R_iload_n (i := 0) (q := 5) dX7_isTenths_4 rfl rfl rfl ?_
    refine R_bipush (v := nI 10) (q := 7) dX7_isTenths_5 (by decide) rfl ?_
    refine R_icmp_gt (tgt := 14) (q := 10) dX7_isTenths_7 (by decide) rfl (fun c2 => ?_) (fun c2 => ?_)
    · refine R_iconst (v := nI 0) (q := 15) dX7_isTenths_14 (by decide) rfl ?_
      refine R_rz dX7_isTenths_15 rfl (by decide) ?_
      exact ⟨(bI_f (fun h => h.2 (tenths.mp c2))).symm, rfl⟩
    · refine R_iconst (v := nI 1) (q := 11) dX7_isTenths_10 (by decide) rfl ?_
      refine R_goto (q := 15) dX7_isTenths_11 (by decide) ?_
      refine R_rz dX7_isTenths_15 rfl (by decide) ?_
      exact ⟨(bI_t ⟨c1, fun h => c2 (tenths.mpr h)⟩).symm, rfl⟩
theorem c_isDot {x y : Int32} : Ct X 0 d MX7_isDot [vI x, vI y] w (qI fun z w' => z = bI (inN x 4 ∧ inN y 4) ∧ w' = w) := by
  refine Ct.of (by decide) rfl (Nat.le_of_ble_eq_true rfl) ?_
  show Wq _ _ _ _ 0 [(0, _), (1, _)] [] _ _
  refine R_iload_n (i := 0) (q := 1) dX7_isDot_0 rfl rfl rfl ?_
  refine R_if_lt (tgt := 22) (q := 4) dX7_isDot_1 (by decide) rfl (fun c1 => ?_) (fun c1 => ?_)
  · refine R_iconst (v := nI 0) (q := 23) dX7_isDot_22 (by decide) rfl ?_
    refine R_rz dX7_isDot_23 rfl (by decide) ?_
    exact ⟨(bI_f (fun h => h.1.1 c1)).symm, rfl⟩
  · refine R_iload_n (i := 0) (q := 5) dX7_isDot_4 rfl rfl rfl ?_
    refine R_iconst (v := nI 4) (q := 6) dX7_isDot_5 (by decide) rfl ?_
    refine R_icmp_ge (tgt := 22) (q := 9) dX7_isDot_6 (by decide) rfl (fun c2 => ?_) (fun c2 => ?_)
    · refine R_iconst (v := nI 0) (q := 23) dX7_isDot_22 (by decide) rfl ?_
      refine R_rz dX7_isDot_23 rfl (by decide) ?_
      exact ⟨(bI_f (fun h => h.1.2 c2)).symm, rfl⟩
    · refine R_iload_n (i := 1) (q := 10) dX7_isDot_9 rfl rfl rfl ?_
      refine R_if_lt (tgt := 22) (q := 13) dX7_isDot_10 (by decide) rfl (fun c3 => ?_) (fun c3 => ?_)
      · refine R_iconst (v := nI 0) (q := 23) dX7_isDot_22 (by decide) rfl ?_
        refine R_rz dX7_isDot_23 rfl (by decide) ?_
        exact ⟨(bI_f (fun h => h.2.1 c3)).symm, rfl⟩
      · refine R_iload_n (i := 1) (q := 14) dX7_isDot_13 rfl rfl rfl ?_
        refine R_iconst (v := nI 4) (q := 15) dX7_isDot_14 (by decide) rfl ?_
        refine R_icmp_ge (tgt := 22) (q := 18) dX7_isDot_15 (by decide) rfl (fun c4 => ?_) (fun c4 => ?_)
        · refine R_iconst (v := nI 0) (q := 23) dX7_isDot_22 (by decide) rfl ?_
          refine R_rz dX7_isDot_23 rfl (by decide) ?_
          exact ⟨(bI_f (fun h => h.2.2 c4)).symm, rfl⟩
        · refine R_iconst (v := nI 1) (q := 19) dX7_isDot_18 (by decide) rfl ?_
          refine R_goto (q := 23) dX7_isDot_19 (by decide) ?_
          refine R_rz dX7_isDot_23 rfl (by decide) ?_
          exact ⟨(bI_t ⟨⟨c1, c2⟩, c3, c4⟩).symm, rfl⟩
theorem sw_sw {S : Pic} {a b : Nat} {p : List Nat} (ha : a < pN S) (hb : b < pN S) (h : StA w p (swP (swP S a b) a b)) : StA w p S := by
  refine h.cg rfl rfl rfl rfl rfl ?_ ?_ (fun _ _ => rfl)
  · intro s _
    show pro S s = fnU (fnU (fnU (fnU (pro S) a (pro S b)) b (pro S a)) a (fnU (fnU (pro S) a (pro S b)) b (pro S a) b)) b (fnU (fnU (pro S) a (pro S b)) b (pro S a) a) s
    unfold fnU
    by_cases h1 : s = b
    · subst h1
      simp
      intro h2
      rw [h2]
    · by_cases h2 : s = a
      · subst h2
        simp [h1]
      · simp [h1, h2]
  · intro s _
    show pco S s = fnU (fnU (fnU (fnU (pco S) a (pco S b)) b (pco S a)) a (fnU (fnU (pco S) a (pco S b)) b (pco S a) b)) b (fnU (fnU (pco S) a (pco S b)) b (pco S a) a) s
    unfold fnU
    by_cases h1 : s = b
    · subst h1
      simp
      intro h2
      rw [h2]
    · by_cases h2 : s = a
      · subst h2
        simp [h1]
      · simp [h1, h2]
theorem bcB_bd {S : Pic} {a : Nat} {z : Int32 × Nat} (hz : z.2 ≤ 16000) (hn : pN S ≤ 20) : ∀ k, (bcB S a z k).2 ≤ 16000
  | 0 => hz
  | k + 1 => by
    have h1 := bcB_bd (S := S) (a := a) hz hn k
    simp only [bcB]
    split
    · exact sdB_bd hn
    · exact h1
theorem bcA_bd {S : Pic} (hn : pN S ≤ 20) : ∀ a, (bcA S a).2 ≤ 16000
  | 0 => sdB_bd hn
  | a + 1 => bcB_bd (bcA_bd hn a) hn _
theorem l_bc2 {S : Pic} {w0 : Wd} {a : Nat} {z : Int32 × Nat} (hO : OKo S) (ha : a < pN S) (hz : z.2 ≤ 16000) (Q : Option AV → Wd → Prop) (kk : ∀ w, StA w [2] S → Fr FSc w0 w → Wq X 0 (d + 4) MX7_bestChange 106 [(4, vI (nI (pN S))), (3, vI (nI a)), (2, vI (nI (bcB S a z (pN S - (a + 1))).2)), (1, vI (bcB S a z (pN S - (a + 1))).1), (0, vR 7 0 [])] [] w Q) : ∀ (f k : Nat) (w : Wd), pN S ≤ a + 1 + k + f → a + 1 + k ≤ pN S → StA w [2] S → Fr FSc w0 w → Wq X 0 (d + 4) MX7_bestChange 41 [(4, vI (nI (a + 1 + k))), (3, vI (nI a)), (2, vI (nI (bcB S a z k).2)), (1, vI (bcB S a z k).1), (0, vR 7 0 [])] [] w Q := by
  have hN := hO.1
  intro f
  induction f with
  | zero =>
    intro k w h1 h2 hS hF
    refine R_iload (q := 43) dX7_bestChange_41 rfl rfl ?_
    refine R_aload_n (i := 0) (q := 44) dX7_bestChange_43 rfl rfl rfl ?_
    refine R_getR (q := 47) dX7_bestChange_44 fl_X7_23 rfl (by decide) rfl ?_
    refine R_getI' (q := 50) dX7_bestChange_47 fl_X7_85 rfl (hS.2.2.1) rfl ?_
    refine R_icmp_geN (by omega) (by omega) (tgt := 106) (q := 53) dX7_bestChange_50 (by decide) rfl (fun c1 => ?_) (fun c1 => ?_)
    · have e := kk w hS hF
      rw [show pN S - (a + 1) = k by omega] at e
      rw [show a + 1 + k = pN S by omega]
      exact e
    · omega
  | succ f ih =>
    intro k w h1 h2 hS hF
    refine R_iload (q := 43) dX7_bestChange_41 rfl rfl ?_
    refine R_aload_n (i := 0) (q := 44) dX7_bestChange_43 rfl rfl rfl ?_
    refine R_getR (q := 47) dX7_bestChange_44 fl_X7_23 rfl (by decide) rfl ?_
    refine R_getI' (q := 50) dX7_bestChange_47 fl_X7_85 rfl (hS.2.2.1) rfl ?_
    refine R_icmp_geN (by omega) (by omega) (tgt := 106) (q := 53) dX7_bestChange_50 (by decide) rfl (fun c1 => ?_) (fun c1 => ?_)
    · have e := kk w hS hF
      rw [show pN S - (a + 1) = k by omega] at e
      rw [show a + 1 + k = pN S by omega]
      exact e
    · have e := fun w => ih (k + 1) w (by omega) (by omega)
      simp only [bcB] at e
      have hb1 := bcB_bd (S := S) (a := a) hz hN k
      have hb2 := sdB_bd (S := swP S a (a + 1 + k)) hN
      refine R_aload_n (i := 0) (q := 54) dX7_bestChange_53 rfl rfl rfl ?_
      refine R_getR (q := 57) dX7_bestChange_54 fl_X7_23 rfl (by decide) rfl ?_
      refine R_iload_n (i := 3) (q := 58) dX7_bestChange_57 rfl rfl rfl ?_
      refine R_iload (q := 60) dX7_bestChange_58 rfl rfl ?_
      refine R_cV2v (M' := MX5_swap) (q := 63) dX7_bestChange_60 ml_X7_168 mk_X5_swap (Nat.le_of_ble_eq_true rfl) rfl (c_swap hS hN ha c1) ?_
      rintro w1 ⟨hS1, hF1⟩
      refine R_aload_n (i := 0) (q := 64) dX7_bestChange_63 rfl rfl rfl ?_
      refine R_aload_n (i := 0) (q := 65) dX7_bestChange_64 rfl rfl rfl ?_
      refine R_getR (q := 68) dX7_bestChange_65 fl_X7_23 rfl (by decide) rfl ?_
      refine R_cV1i (M' := MX7_bothSides) (q := 71) dX7_bestChange_68 ml_X7_172 mk_X7_bothSides (Nat.le_of_ble_eq_true rfl) rfl (c_bothSides hS1 (hO.sw ha c1) (Or.inr rfl)) ?_
      rintro _ w2 ⟨rfl, hF2⟩
      have hS2 := hS1.fr hF2 (by decide) (by decide) (by decide) (by decide)
      refine R_istore (q := 73) (loc' := [(5, _), (4, _), (3, _), (2, _), (1, _), (0, _)]) dX7_bestChange_71 (by decide) (by rfl) rfl ?_
      refine R_aload_n (i := 0) (q := 74) dX7_bestChange_73 rfl rfl rfl ?_
      refine R_getR (q := 77) dX7_bestChange_74 fl_X7_23 rfl (by decide) rfl ?_
      refine R_iload_n (i := 3) (q := 78) dX7_bestChange_77 rfl rfl rfl ?_
      refine R_iload (q := 80) dX7_bestChange_78 rfl rfl ?_
      refine R_cV2v (M' := MX5_swap) (q := 83) dX7_bestChange_80 ml_X7_168 mk_X5_swap (Nat.le_of_ble_eq_true rfl) rfl (c_swap hS2 hN (show a < pN (swP S a (a + 1 + k)) from ha) (show a + 1 + k < pN (swP S a (a + 1 + k)) from c1)) ?_
      rintro w3 ⟨hS3, hF3⟩
      have hS4 := sw_sw ha c1 hS3
      have hF4 : Fr FSc w0 w3 := ((hF.tr (hF1.up (by decide))).tr (hF2.up (by decide))).tr (hF3.up (by decide))
      refine R_iload (q := 85) dX7_bestChange_83 rfl rfl ?_
      refine R_iload_n (i := 2) (q := 86) dX7_bestChange_85 rfl rfl rfl ?_
      refine R_icmp_geN (by omega) (by omega) (tgt := 100) (q := 89) dX7_bestChange_86 (by decide) rfl (fun c2 => ?_) (fun c2 => ?_)
      · have e2 := e w3
        rw [if_neg (by omega)] at e2
        first | refine R_iincN (q := 103) (loc' := [(4, _), (5, _), (3, _), (2, _), (1, _), (0, _)]) dX7_bestChange_100 (by rfl) (by decide) (by rfl) rfl ?_ | refine R_iinc (q := 103) (loc' := [(4, _), (5, _), (3, _), (2, _), (1, _), (0, _)]) dX7_bestChange_100 (by rfl) (by rfl) (by decide) (by rfl) rfl ?_
        refine R_goto (q := 41) dX7_bestChange_103 (by decide) ?_
        refine R_loc [0, 2, 3, 4, 5] (loc' := [(4, _), (3, _), (2, _), (1, _), (0, _)]) (by rfl) ?_
        exact e2 hS4 hF4
      · have e2 := e w3
        rw [if_pos c2] at e2
        refine R_iload (q := 91) dX7_bestChange_89 rfl rfl ?_
        refine R_istore_n (i := 2) (q := 92) (loc' := [(2, _), (5, _), (4, _), (3, _), (1, _), (0, _)]) dX7_bestChange_91 rfl (by decide) (by rfl) rfl ?_
        refine R_bipush (v := nI 100) (q := 94) dX7_bestChange_92 (by decide) rfl ?_
        refine R_iload_n (i := 3) (q := 95) dX7_bestChange_94 rfl rfl rfl ?_
        first | refine R_imulN (q := 96) dX7_bestChange_95 rfl ?_ | refine R_imul (q := 96) dX7_bestChange_95 rfl ?_
        refine R_iload (q := 98) dX7_bestChange_96 rfl rfl ?_
        first | refine R_iaddN (q := 99) dX7_bestChange_98 rfl ?_ | refine R_iadd (q := 99) dX7_bestChange_98 rfl ?_
        refine R_istore_n (i := 1) (q := 100) (loc' := [(1, _), (2, _), (5, _), (4, _), (3, _), (0, _)]) dX7_bestChange_99 rfl (by decide) (by rfl) rfl ?_
        first | refine R_iincN (q := 103) (loc' := [(4, _), (1, _), (2, _), (5, _), (3, _), (0, _)]) dX7_bestChange_100 (by rfl) (by decide) (by rfl) rfl ?_ | refine R_iinc (q := 103) (loc' := [(4, _), (1, _), (2, _), (5, _), (3, _), (0, _)]) dX7_bestChange_100 (by rfl) (by rfl) (by decide) (by rfl) rfl ?_
        refine R_goto (q := 41) dX7_bestChange_103 (by decide) ?_
        refine R_loc [0, 4, 2, 1, 5] (loc' := [(4, _), (3, _), (2, _), (1, _), (0, _)]) (by rfl) ?_
        exact e2 hS4 hF4
theorem l_bc1 {S : Pic} {w0 : Wd} (hO : OKo S) : ∀ (f a : Nat) (w : Wd), pN S ≤ a + f → a ≤ pN S → StA w [2] S → Fr FSc w0 w → Wq X 0 (d + 4) MX7_bestChange 25 [(3, vI (nI a)), (2, vI (nI (bcA S a).2)), (1, vI (bcA S a).1), (0, vR 7 0 [])] [] w (qI fun x w' => x = (bcA S (pN S)).1 ∧ Fr FSc w0 w') := by
  have hN := hO.1
  intro f
  induction f with
  | zero =>
    intro a w h1 h2 hS hF
    refine R_iload_n (i := 3) (q := 26) dX7_bestChange_25 rfl rfl rfl ?_
    refine R_aload_n (i := 0) (q := 27) dX7_bestChange_26 rfl rfl rfl ?_
    refine R_getR (q := 30) dX7_bestChange_27 fl_X7_23 rfl (by decide) rfl ?_
    refine R_getI' (q := 33) dX7_bestChange_30 fl_X7_85 rfl (hS.2.2.1) rfl ?_
    refine R_icmp_geN (by omega) (by omega) (tgt := 112) (q := 36) dX7_bestChange_33 (by decide) rfl (fun c1 => ?_) (fun c1 => ?_)
    · obtain rfl : a = pN S := by omega
      refine R_iload_n (i := 1) (q := 113) dX7_bestChange_112 rfl rfl rfl ?_
      refine R_ri dX7_bestChange_113 rfl ?_
      exact ⟨rfl, hF⟩
    · omega
  | succ f ih =>
    intro a w h1 h2 hS hF
    refine R_iload_n (i := 3) (q := 26) dX7_bestChange_25 rfl rfl rfl ?_
    refine R_aload_n (i := 0) (q := 27) dX7_bestChange_26 rfl rfl rfl ?_
    refine R_getR (q := 30) dX7_bestChange_27 fl_X7_23 rfl (by decide) rfl ?_
    refine R_getI' (q := 33) dX7_bestChange_30 fl_X7_85 rfl (hS.2.2.1) rfl ?_
    refine R_icmp_geN (by omega) (by omega) (tgt := 112) (q := 36) dX7_bestChange_33 (by decide) rfl (fun c1 => ?_) (fun c1 => ?_)
    · obtain rfl : a = pN S := by omega
      refine R_iload_n (i := 1) (q := 113) dX7_bestChange_112 rfl rfl rfl ?_
      refine R_ri dX7_bestChange_113 rfl ?_
      exact ⟨rfl, hF⟩
    · refine R_iload_n (i := 3) (q := 37) dX7_bestChange_36 rfl rfl rfl ?_
      refine R_iconst (v := nI 1) (q := 38) dX7_bestChange_37 (by decide) rfl ?_
      first | refine R_iaddN (q := 39) dX7_bestChange_38 rfl ?_ | refine R_iadd (q := 39) dX7_bestChange_38 rfl ?_
      refine R_istore (q := 41) (loc' := [(4, _), (3, _), (2, _), (1, _), (0, _)]) dX7_bestChange_39 (by decide) (by rfl) rfl ?_
      refine l_bc2 (w0 := w0) hO c1 (bcA_bd hN a) _ ?_ (pN S) 0 w (by omega) (by omega) hS hF
      intro w1 hS1 hF1
      first | refine R_iincN (q := 109) (loc' := [(3, _), (4, _), (2, _), (1, _), (0, _)]) dX7_bestChange_106 (by rfl) (by decide) (by rfl) rfl ?_ | refine R_iinc (q := 109) (loc' := [(3, _), (4, _), (2, _), (1, _), (0, _)]) dX7_bestChange_106 (by rfl) (by rfl) (by decide) (by rfl) rfl ?_
      refine R_goto (q := 25) dX7_bestChange_109 (by decide) ?_
      refine R_loc [0, 2, 3, 4] (loc' := [(3, _), (2, _), (1, _), (0, _)]) (by rfl) ?_
      exact ih (a + 1) w1 (by omega) (by omega) hS1 hF1
theorem c_bestChange (hR : ClsR w A) (hA : AOK A) : Ct X 0 (d + 4) MX7_bestChange [vR 7 0 []] w (qI fun z w' => z = abI A 9 ∧ ClsR w' A) := by
  refine Ct.of (by decide) rfl (Nat.le_of_ble_eq_true rfl) ?_
  show Wq _ _ _ _ 0 [(0, _)] [] _ _
  refine R_bipush (v := (-9)) (q := 2) dX7_bestChange_0 (by decide) rfl ?_
  refine R_istore_n (i := 1) (q := 3) (loc' := [(1, _), (0, _)]) dX7_bestChange_2 rfl (by decide) (by rfl) rfl ?_
  refine R_aload_n (i := 0) (q := 4) dX7_bestChange_3 rfl rfl rfl ?_
  refine R_aload_n (i := 0) (q := 5) dX7_bestChange_4 rfl rfl rfl ?_
  refine R_getR (q := 8) dX7_bestChange_5 fl_X7_19 rfl (by decide) rfl ?_
  refine R_cV1i (M' := MX7_bothSides) (q := 11) dX7_bestChange_8 ml_X7_172 mk_X7_bothSides (Nat.le_of_ble_eq_true rfl) rfl (c_bothSides hR.2.1 hA.2.1.o (Or.inl rfl)) ?_
  rintro _ w1 ⟨rfl, hF1⟩
  have hR1 := hR.sc (hF1.up (by decide))
  refine R_istore_n (i := 2) (q := 12) (loc' := [(2, _), (1, _), (0, _)]) dX7_bestChange_11 rfl (by decide) (by rfl) rfl ?_
  refine R_aload_n (i := 0) (q := 13) dX7_bestChange_12 rfl rfl rfl ?_
  refine R_getR (q := 16) dX7_bestChange_13 fl_X7_23 rfl (by decide) rfl ?_
  refine R_aload_n (i := 0) (q := 17) dX7_bestChange_16 rfl rfl rfl ?_
  refine R_getR (q := 20) dX7_bestChange_17 fl_X7_19 rfl (by decide) rfl ?_
  refine R_cV1v (M' := MX5_copy) (q := 23) dX7_bestChange_20 ml_X7_77 mk_X5_copy (Nat.le_of_ble_eq_true rfl) rfl (c_copy (p := [2]) hR1.2.1 hA.2.1.o.1 (by decide) (by simp)) ?_
  rintro w2 ⟨hS2, hF2⟩
  refine R_iconst (v := nI 0) (q := 24) dX7_bestChange_23 (by decide) rfl ?_
  refine R_istore_n (i := 3) (q := 25) (loc' := [(3, _), (2, _), (1, _), (0, _)]) dX7_bestChange_24 rfl (by decide) (by rfl) rfl ?_
  refine Wq_mono (l_bc1 (w0 := w) hA.2.1.o (pN (aP A)) 0 w2 (by omega) (by omega) hS2 ((hF1.up (by decide)).tr (hF2.up (by decide)))) ?_
  rintro z w3 ⟨h1, h2⟩
  exact ⟨h1, hR.sc h2⟩
theorem c_about {x : Int32} (hR : ClsR w A) (hA : AOK A) : Ct X 0 (d + 7) MX7_about [vR 7 0 [], vI x] w (qI fun z w' => z = opAbout A x ∧ ClsR w' A) := by
  obtain ⟨hOK1, hOK2, hOK3, hOK4, hOK5, -⟩ := id hA.2.1
  refine Ct.of (by decide) rfl (Nat.le_of_ble_eq_true rfl) ?_
  show Wq _ _ _ _ 0 [(0, _), (1, _)] [] _ _
  refine R_iload_n (i := 1) (q := 1) dX7_about_0 rfl rfl rfl ?_
  unfold opAbout
  by_cases hin : inN x 15
  · rw [if_pos hin]
    obtain ⟨j, hj, rfl⟩ := inN_ex (by decide) hin
    rw [cl_nI (by omega)]
    rcases (show j = 0 ∨ j = 1 ∨ j = 2 ∨ j = 3 ∨ j = 4 ∨ j = 5 ∨ j = 6 ∨ j = 7 ∨ j = 8 ∨ j = 9 ∨ j = 10 ∨ j = 11 ∨ j = 12 ∨ j = 13 ∨ j = 14 by omega) with rfl | rfl | rfl | rfl | rfl | rfl | rfl | rfl | rfl | rfl | rfl | rfl | rfl | rfl | rfl
    · refine R_tableIn (q := 76) dX7_about_1 (by decide) (by decide) (by rfl) (by decide) ?_
      refine R_aload_n (i := 0) (q := 77) dX7_about_76 rfl rfl rfl ?_
      refine R_getR (q := 80) dX7_about_77 fl_X7_19 rfl (by decide) rfl ?_
      refine R_getI' (q := 83) dX7_about_80 fl_X7_88 rfl (hR.2.1.1) rfl ?_
      refine R_ri dX7_about_83 rfl ?_
      exact ⟨rfl, hR⟩
    · refine R_tableIn (q := 84) dX7_about_1 (by decide) (by decide) (by rfl) (by decide) ?_
      refine R_aload_n (i := 0) (q := 85) dX7_about_84 rfl rfl rfl ?_
      refine R_getR (q := 88) dX7_about_85 fl_X7_19 rfl (by decide) rfl ?_
      refine R_getI' (q := 91) dX7_about_88 fl_X7_91 rfl (hR.2.1.2.1) rfl ?_
      refine R_ri dX7_about_91 rfl ?_
      exact ⟨rfl, hR⟩
    · refine R_tableIn (q := 92) dX7_about_1 (by decide) (by decide) (by rfl) (by decide) ?_
      refine R_aload_n (i := 0) (q := 93) dX7_about_92 rfl rfl rfl ?_
      refine R_getR (q := 96) dX7_about_93 fl_X7_19 rfl (by decide) rfl ?_
      refine R_getI' (q := 99) dX7_about_96 fl_X7_85 rfl (hR.2.1.2.2.1) rfl ?_
      refine R_ri dX7_about_99 rfl ?_
      exact ⟨rfl, hR⟩
    · refine R_tableIn (q := 100) dX7_about_1 (by decide) (by decide) (by rfl) (by decide) ?_
      refine R_aload_n (i := 0) (q := 101) dX7_about_100 rfl rfl rfl ?_
      refine R_getR (q := 104) dX7_about_101 fl_X7_19 rfl (by decide) rfl ?_
      refine R_getI' (q := 107) dX7_about_104 fl_X7_94 rfl (hR.2.1.2.2.2.1) rfl ?_
      refine R_ri dX7_about_107 rfl ?_
      exact ⟨rfl, hR⟩
    · refine R_tableIn (q := 108) dX7_about_1 (by decide) (by decide) (by rfl) (by decide) ?_
      refine R_aload_n (i := 0) (q := 109) dX7_about_108 rfl rfl rfl ?_
      refine R_getR (q := 112) dX7_about_109 fl_X7_19 rfl (by decide) rfl ?_
      refine R_getI' (q := 115) dX7_about_112 fl_X7_97 rfl (hR.2.1.2.2.2.2.1) rfl ?_
      refine R_ri dX7_about_115 rfl ?_
      exact ⟨rfl, hR⟩
    · refine R_tableIn (q := 116) dX7_about_1 (by decide) (by decide) (by rfl) (by decide) ?_
      refine R_aload_n (i := 0) (q := 117) dX7_about_116 rfl rfl rfl ?_
      refine R_cV0i (M' := MX7_blankNow) (q := 120) dX7_about_117 ml_X7_100 mk_X7_blankNow (Nat.le_of_ble_eq_true rfl) rfl (c_blankNow hR hA) ?_
      rintro z w1 ⟨h1, h2⟩
      refine R_ri dX7_about_120 rfl ?_
      exact ⟨h1, h2⟩
    · refine R_tableIn (q := 121) dX7_about_1 (by decide) (by decide) (by rfl) (by decide) ?_
      refine R_aload_n (i := 0) (q := 122) dX7_about_121 rfl rfl rfl ?_
      refine R_getR (q := 125) dX7_about_122 fl_X7_57 rfl (by decide) rfl ?_
      refine R_aload_n (i := 0) (q := 126) dX7_about_125 rfl rfl rfl ?_
      refine R_getR (q := 129) dX7_about_126 fl_X7_19 rfl (by decide) rfl ?_
      refine R_aload_n (i := 0) (q := 130) dX7_about_129 rfl rfl rfl ?_
      refine R_getR (q := 133) dX7_about_130 fl_X7_19 rfl (by decide) rfl ?_
      refine R_getI' (q := 136) dX7_about_133 fl_X7_94 rfl (hR.2.1.2.2.2.1) rfl ?_
      refine R_aload_n (i := 0) (q := 137) dX7_about_136 rfl rfl rfl ?_
      refine R_getR (q := 140) dX7_about_137 fl_X7_19 rfl (by decide) rfl ?_
      refine R_getI' (q := 143) dX7_about_140 fl_X7_97 rfl (hR.2.1.2.2.2.2.1) rfl ?_
      refine R_cV3i (M' := MX2_missBy) (q := 146) dX7_about_143 ml_X7_104 mk_X2_missBy (Nat.le_of_ble_eq_true rfl) rfl (c_missBy hR.2.1 hA.2.1.o (Or.inl rfl) hOK4 hOK5) ?_
      rintro z w1 ⟨h1, h2⟩
      refine R_ri dX7_about_146 rfl ?_
      exact ⟨h1, hR.sc (h2.up (by decide))⟩
    · refine R_tableIn (q := 147) dX7_about_1 (by decide) (by decide) (by rfl) (by decide) ?_
      refine R_aload_n (i := 0) (q := 148) dX7_about_147 rfl rfl rfl ?_
      refine R_iconst (v := nI 0) (q := 149) dX7_about_148 (by decide) rfl ?_
      refine R_cV1i (M' := MX7_sideOf) (q := 152) dX7_about_149 ml_X7_108 mk_X7_sideOf (Nat.le_of_ble_eq_true rfl) rfl (c_sideOf (h := 0) (by decide) hR hA) ?_
      rintro z w1 ⟨h1, h2⟩
      refine R_ri dX7_about_152 rfl ?_
      exact ⟨h1, h2⟩
    · refine R_tableIn (q := 153) dX7_about_1 (by decide) (by decide) (by rfl) (by decide) ?_
      refine R_aload_n (i := 0) (q := 154) dX7_about_153 rfl rfl rfl ?_
      refine R_iconst (v := nI 1) (q := 155) dX7_about_154 (by decide) rfl ?_
      refine R_cV1i (M' := MX7_sideOf) (q := 158) dX7_about_155 ml_X7_108 mk_X7_sideOf (Nat.le_of_ble_eq_true rfl) rfl (c_sideOf (h := 1) (by decide) hR hA) ?_
      rintro z w1 ⟨h1, h2⟩
      refine R_ri dX7_about_158 rfl ?_
      exact ⟨h1, h2⟩
    · refine R_tableIn (q := 159) dX7_about_1 (by decide) (by decide) (by rfl) (by decide) ?_
      refine R_aload_n (i := 0) (q := 160) dX7_about_159 rfl rfl rfl ?_
      refine R_cV0i (M' := MX7_bestChange) (q := 163) dX7_about_160 ml_X7_112 mk_X7_bestChange (Nat.le_of_ble_eq_true rfl) rfl (c_bestChange hR hA) ?_
      rintro z w1 ⟨h1, h2⟩
      refine R_ri dX7_about_163 rfl ?_
      exact ⟨h1, h2⟩
    · refine R_tableIn (q := 164) dX7_about_1 (by decide) (by decide) (by rfl) (by decide) ?_
      refine R_aload_n (i := 0) (q := 165) dX7_about_164 rfl rfl rfl ?_
      refine R_cV0i (M' := MX7_bestShift) (q := 168) dX7_about_165 ml_X7_115 mk_X7_bestShift (Nat.le_of_ble_eq_true rfl) rfl (c_bestShift hR hA) ?_
      rintro z w1 ⟨h1, h2⟩
      refine R_ri dX7_about_168 rfl ?_
      exact ⟨h1, h2⟩
    · refine R_tableIn (q := 169) dX7_about_1 (by decide) (by decide) (by rfl) (by decide) ?_
      refine R_aload_n (i := 0) (q := 170) dX7_about_169 rfl rfl rfl ?_
      refine R_cV0i (M' := MX7_band) (q := 173) dX7_about_170 ml_X7_118 mk_X7_band (Nat.le_of_ble_eq_true rfl) rfl (c_band hR hA) ?_
      rintro z w1 ⟨h1, rfl⟩
      refine R_ri dX7_about_173 rfl ?_
      exact ⟨h1, hR⟩
    · refine R_tableIn (q := 174) dX7_about_1 (by decide) (by decide) (by rfl) (by decide) ?_
      obtain ⟨f, q1, q2, q3, q4⟩ := id hR.2.2.1
      refine R_aload_n (i := 0) (q := 175) dX7_about_174 rfl rfl rfl ?_
      refine R_getR (q := 178) dX7_about_175 fl_X7_29 rfl (by decide) rfl ?_
      refine R_getI' (q := 181) dX7_about_178 fl_X7_121 rfl (q3) rfl ?_
      refine R_ri dX7_about_181 rfl ?_
      exact ⟨rfl, hR⟩
    · refine R_tableIn (q := 182) dX7_about_1 (by decide) (by decide) (by rfl) (by decide) ?_
      refine R_aload_n (i := 0) (q := 183) dX7_about_182 rfl rfl rfl ?_
      refine R_getR (q := 186) dX7_about_183 fl_X7_43 rfl (by decide) rfl ?_
      refine R_getI' (q := 189) dX7_about_186 fl_X7_124 rfl (hR.2.2.2.2.1.1) rfl ?_
      refine R_ri dX7_about_189 rfl ?_
      exact ⟨rfl, hR⟩
    · refine R_tableIn (q := 190) dX7_about_1 (by decide) (by decide) (by rfl) (by decide) ?_
      refine R_aload_n (i := 0) (q := 191) dX7_about_190 rfl rfl rfl ?_
      refine R_getR (q := 194) dX7_about_191 fl_X7_12 rfl (by decide) rfl ?_
      refine R_getI' (q := 197) dX7_about_194 fl_X7_69 rfl (hR.1.1) rfl ?_
      refine R_ri dX7_about_197 rfl ?_
      exact ⟨rfl, hR⟩
  · rw [if_neg hin]
    refine R_tableOut (q := 198) dX7_about_1 ((inN_out (by decide) hin).imp id (fun h => by omega)) (by decide) ?_
    refine R_bipush (v := (-2)) (q := 200) dX7_about_198 (by decide) rfl ?_
    refine R_ri dX7_about_200 rfl ?_
    exact ⟨rfl, hR⟩
theorem c_shade {x k : Int32} (hR : ClsR w A) (hA : AOK A) : Ct X 0 (d + 1) MX7_shade [vR 7 0 [], vI x, vI k] w (qI fun z w' => z = opShade A x k ∧ w' = w) := by
  obtain ⟨hOK1, hOK2, hOK3, hOK4, hOK5, hOK6, hOK7, hOK8⟩ := id hA.2.1
  unfold opShade
  refine Ct.of (by decide) rfl (Nat.le_of_ble_eq_true rfl) ?_
  show Wq _ _ _ _ 0 [(0, _), (1, _), (2, _)] [] _ _
  refine R_aload_n (i := 0) (q := 1) dX7_shade_0 rfl rfl rfl ?_
  refine R_getR (q := 4) dX7_shade_1 fl_X7_19 rfl (by decide) rfl ?_
  refine R_iload_n (i := 1) (q := 5) dX7_shade_4 rfl rfl rfl ?_
  refine R_cV1i (M' := MX5_hasShade) (q := 8) dX7_shade_5 ml_X7_125 mk_X5_hasShade (Nat.le_of_ble_eq_true rfl) rfl (c_hasShade hR.2.1.2.2.1) ?_
  rintro _ w ⟨rfl, rfl⟩
  refine R_if_neB (tgt := 13) (q := 11) dX7_shade_8 (by decide) rfl (fun c1 => ?_) (fun c1 => ?_)
  · rw [if_pos c1]
    obtain ⟨s, hs, rfl⟩ := inN_ex (by omega) c1
    rw [cl_nI (by omega)]
    refine R_iload_n (i := 2) (q := 14) dX7_shade_13 rfl rfl rfl ?_
    by_cases hin : inN k 3
    · obtain ⟨j, hj, rfl⟩ := inN_ex (by decide) hin
      rcases (show j = 0 ∨ j = 1 ∨ j = 2 by omega) with rfl | rfl | rfl
      · refine R_tableIn (q := 40) dX7_shade_14 (by decide) (by decide) (by rfl) (by decide) ?_
        refine R_aload_n (i := 0) (q := 41) dX7_shade_40 rfl rfl rfl ?_
        refine R_getR (q := 44) dX7_shade_41 fl_X7_19 rfl (by decide) rfl ?_
        refine R_getR (q := 47) dX7_shade_44 fl_X7_128 rfl (by decide) rfl ?_
        refine R_iload_n (i := 1) (q := 48) dX7_shade_47 rfl rfl rfl ?_
        refine R_iald' (q := 49) dX7_shade_48 (rfl) (by omega) (by decide) (hR.2.1.2.2.2.2.2.1 s hs) rfl ?_
        refine R_ri dX7_shade_49 rfl ?_
        exact ⟨rfl, rfl⟩
      · refine R_tableIn (q := 50) dX7_shade_14 (by decide) (by decide) (by rfl) (by decide) ?_
        refine R_aload_n (i := 0) (q := 51) dX7_shade_50 rfl rfl rfl ?_
        refine R_getR (q := 54) dX7_shade_51 fl_X7_19 rfl (by decide) rfl ?_
        refine R_getR (q := 57) dX7_shade_54 fl_X7_131 rfl (by decide) rfl ?_
        refine R_iload_n (i := 1) (q := 58) dX7_shade_57 rfl rfl rfl ?_
        refine R_iald' (q := 59) dX7_shade_58 (rfl) (by omega) (by decide) (hR.2.1.2.2.2.2.2.2.1 s hs) rfl ?_
        refine R_ri dX7_shade_59 rfl ?_
        exact ⟨rfl, rfl⟩
      · refine R_tableIn (q := 60) dX7_shade_14 (by decide) (by decide) (by rfl) (by decide) ?_
        refine R_aload_n (i := 0) (q := 61) dX7_shade_60 rfl rfl rfl ?_
        refine R_getR (q := 64) dX7_shade_61 fl_X7_19 rfl (by decide) rfl ?_
        refine R_iload_n (i := 1) (q := 65) dX7_shade_64 rfl rfl rfl ?_
        refine R_cV1i (M' := MX5_timesPainted) (q := 68) dX7_shade_65 ml_X7_134 mk_X5_timesPainted (Nat.le_of_ble_eq_true rfl) rfl (c_timesPainted hR.2.1 (by omega) (fun k hk => by have := hA.2.1.o.2.2 k hk; omega)) ?_
        rintro _ w ⟨rfl, rfl⟩
        refine R_ri dX7_shade_68 rfl ?_
        exact ⟨rfl, rfl⟩
    · refine R_tableOut (q := 69) dX7_shade_14 ((inN_out (by decide) hin).imp id (fun h => by omega)) (by decide) ?_
      refine R_bipush (v := (-2)) (q := 71) dX7_shade_69 (by decide) rfl ?_
      refine R_ri dX7_shade_71 rfl ?_
      refine ⟨?_, rfl⟩
      have hk : ∀ j, j < 3 → k ≠ nI j := fun j hj e => hin (by rw [e]; exact (inN_nI (by omega) (by decide)).mpr hj)
      rw [if_neg (hk 0 (by decide)), if_neg (hk 1 (by decide)), if_neg (hk 2 (by decide))]
  · rw [if_neg c1]
    refine R_iconst (v := (-1)) (q := 12) dX7_shade_11 (by decide) rfl ?_
    refine R_ri dX7_shade_12 rfl ?_
    exact ⟨rfl, rfl⟩
/-- what cell() answers -/
def QCell (A : Ab) (r c z : Int32) : Prop := (inN r (pR (aP A)) ∧ inN c (pC (aP A)) ∧ ShA (aP A) (cl r) (cl c) z) ∨ (¬ (inN r (pR (aP A)) ∧ inN c (pC (aP A))) ∧ z = -1)
theorem c_cell {x y : Int32} (hR : ClsR w A) (hA : AOK A) : Ct X 0 (d + 1) MX7_cell [vR 7 0 [], vI x, vI y] w (qI fun z w' => QCell A x y z ∧ w' = w) := by
  obtain ⟨hOK1, hOK2, hOK3, hOK4, hOK5, hOK6, hOK7, hOK8⟩ := id hA.2.1
  refine Ct.of (by decide) rfl (Nat.le_of_ble_eq_true rfl) ?_
  show Wq _ _ _ _ 0 [(0, _), (1, _), (2, _)] [] _ _
  refine R_aload_n (i := 0) (q := 1) dX7_cell_0 rfl rfl rfl ?_
  refine R_getR (q := 4) dX7_cell_1 fl_X7_19 rfl (by decide) rfl ?_
  refine R_iload_n (i := 1) (q := 5) dX7_cell_4 rfl rfl rfl ?_
  refine R_iload_n (i := 2) (q := 6) dX7_cell_5 rfl rfl rfl ?_
  refine R_cV2i (M' := MX5_hasCell) (q := 9) dX7_cell_6 ml_X7_137 mk_X5_hasCell (Nat.le_of_ble_eq_true rfl) rfl (c_hasCell hR.2.1.1 hR.2.1.2.1) ?_
  rintro _ w ⟨rfl, rfl⟩
  refine R_if_neB (tgt := 14) (q := 12) dX7_cell_9 (by decide) rfl (fun c1 => ?_) (fun c1 => ?_)
  · have c1' := id c1
    obtain ⟨a, ha, rfl⟩ := inN_ex (by omega) c1.1
    obtain ⟨b, hb, rfl⟩ := inN_ex (by omega) c1.2
    refine R_aload_n (i := 0) (q := 15) dX7_cell_14 rfl rfl rfl ?_
    refine R_getR (q := 18) dX7_cell_15 fl_X7_19 rfl (by decide) rfl ?_
    refine R_iload_n (i := 1) (q := 19) dX7_cell_18 rfl rfl rfl ?_
    refine R_iload_n (i := 2) (q := 20) dX7_cell_19 rfl rfl rfl ?_
    refine R_cV2i (M' := MX5_shadeIn) (q := 23) dX7_cell_20 ml_X7_141 mk_X5_shadeIn (Nat.le_of_ble_eq_true rfl) rfl (c_shadeIn hR.2.1 hOK3 (by omega) (by omega) (fun s hs => by have := hOK6 s hs; omega)) ?_
    rintro z w ⟨hz, rfl⟩
    refine R_ri dX7_cell_23 rfl ?_
    exact ⟨Or.inl ⟨c1'.1, c1'.2, by rw [cl_nI (by omega), cl_nI (by omega)]; exact hz⟩, rfl⟩
  · refine R_iconst (v := (-1)) (q := 13) dX7_cell_12 (by decide) rfl ?_
    refine R_ri dX7_cell_13 rfl ?_
    exact ⟨Or.inr ⟨c1, rfl⟩, rfl⟩
theorem lt_in {x : Int32} {n : Nat} (hn : n < 2 ^ 31) : x < nI n ↔ ¬ nI n ≤ x := by
  rw [Int32.lt_iff_toInt_lt, Int32.le_iff_toInt_le]
  omega
theorem c_guess {h x : Int32} (hR : ClsR w A) (hA : AOK A) : Ct X 0 (d + 3) MX7_guess [vR 7 0 [], vI h, vI x] w (qI fun z w' => z = opGuess A h x ∧ ClsR w' A) := by
  obtain ⟨hOK1, hOK2, hOK3, hOK4, hOK5, hOK6, hOK7, hOK8⟩ := id hA.2.1
  unfold opGuess
  refine Ct.of (by decide) rfl (Nat.le_of_ble_eq_true rfl) ?_
  show Wq _ _ _ _ 0 [(0, _), (1, _), (2, _)] [] _ _
  refine R_iload_n (i := 1) (q := 1) dX7_guess_0 rfl rfl rfl ?_
  refine R_if_lt (tgt := 9) (q := 4) dX7_guess_1 (by decide) rfl (fun c1 => ?_) (fun c1 => ?_)
  · refine R_bipush (v := (-2)) (q := 11) dX7_guess_9 (by decide) rfl ?_
    refine R_ri dX7_guess_11 rfl ?_
    exact ⟨(if_neg (fun g => g.1 c1)).symm, hR⟩
  · refine R_iload_n (i := 1) (q := 5) dX7_guess_4 rfl rfl rfl ?_
    refine R_iconst (v := nI 2) (q := 6) dX7_guess_5 (by decide) rfl ?_
    refine R_icmp_lt (tgt := 12) (q := 9) dX7_guess_6 (by decide) rfl (fun c2 => ?_) (fun c2 => ?_)
    · have hin : inN h 2 := ⟨c1, (lt_in (by decide)).mp c2⟩
      rw [if_pos hin]
      obtain ⟨a, ha, rfl⟩ := inN_ex (by decide) hin
      have key : ∀ (n : Nat), n < 7 → (if nI a = 0 then w.1 [1] 0 else w.1 [1] 1) = nI n → (a = 0 → n = pR (aP A)) → (a = 1 → n = pC (aP A)) → Wq X 0 (d + 3) MX7_guess 12 [(0, vR 7 0 []), (1, vI (nI a)), (2, vI x)] [] w (qI fun z w' => z = (if nI a = 0 then (if inN x (pR (aP A)) then gI (pro (aP A)) (cl x) (pN (aP A)) else -1) else (if inN x (pC (aP A)) then gI (pco (aP A)) (cl x) (pN (aP A)) else -1)) ∧ ClsR w' A) := by
        intro n hn en hn0 hn1
        have tail : ¬ inN x n → Wq X 0 (d + 3) MX7_guess 28 [(0, vR 7 0 []), (1, vI (nI a)), (2, vI x)] [] w (qI fun z w' => z = (if nI a = 0 then (if inN x (pR (aP A)) then gI (pro (aP A)) (cl x) (pN (aP A)) else -1) else (if inN x (pC (aP A)) then gI (pco (aP A)) (cl x) (pN (aP A)) else -1)) ∧ ClsR w' A) := by
          intro hno
          refine R_iconst (v := (-1)) (q := 29) dX7_guess_28 (by decide) rfl ?_
          refine R_ri dX7_guess_29 rfl ?_
          refine ⟨?_, hR⟩
          rcases (show a = 0 ∨ a = 1 by omega) with rfl | rfl
          · rw [if_pos (by decide), if_neg (by rw [← hn0 rfl]; exact hno)]
          · rw [if_neg (by decide), if_neg (by rw [← hn1 rfl]; exact hno)]
        refine R_iload_n (i := 2) (q := 13) dX7_guess_12 rfl rfl rfl ?_
        refine R_if_lt (tgt := 28) (q := 16) dX7_guess_13 (by decide) rfl (fun c3 => ?_) (fun c3 => ?_)
        · exact tail (fun g => g.1 c3)
        · refine R_iload_n (i := 2) (q := 17) dX7_guess_16 rfl rfl rfl ?_
          refine R_aload_n (i := 0) (q := 18) dX7_guess_17 rfl rfl rfl ?_
          refine R_getR (q := 21) dX7_guess_18 fl_X7_19 rfl (by decide) rfl ?_
          refine R_iload_n (i := 1) (q := 22) dX7_guess_21 rfl rfl rfl ?_
          refine R_cV1i (M' := MX5_numbersOf) (q := 25) dX7_guess_22 ml_X7_145 mk_X5_numbersOf (Nat.le_of_ble_eq_true rfl) rfl (c_numbersOf) ?_
          rintro _ w9 ⟨rfl, rfl⟩
          rw [en]
          refine R_icmp_lt (tgt := 30) (q := 28) dX7_guess_25 (by decide) rfl (fun c4 => ?_) (fun c4 => ?_)
          · have hxin : inN x n := ⟨c3, (lt_in (by omega)).mp c4⟩
            obtain ⟨b, hb, rfl⟩ := inN_ex (by omega) hxin
            refine R_aload_n (i := 0) (q := 31) dX7_guess_30 rfl rfl rfl ?_
            refine R_getR (q := 34) dX7_guess_31 fl_X7_50 rfl (by decide) rfl ?_
            refine R_aload_n (i := 0) (q := 35) dX7_guess_34 rfl rfl rfl ?_
            refine R_getR (q := 38) dX7_guess_35 fl_X7_19 rfl (by decide) rfl ?_
            refine R_cV1v (M' := MX1_take) (q := 41) dX7_guess_38 ml_X7_148 mk_X1_take (Nat.le_of_ble_eq_true rfl) rfl (c_take (g := [6]) hR.2.1 hA.2.1.o.1 hA.2.1.o.2.1 (by decide) (by decide) (by decide)) ?_
            rintro w1 ⟨hG, hF⟩
            refine R_aload_n (i := 0) (q := 42) dX7_guess_41 rfl rfl rfl ?_
            refine R_getR (q := 45) dX7_guess_42 fl_X7_50 rfl (by decide) rfl ?_
            refine R_iload_n (i := 1) (q := 46) dX7_guess_45 rfl rfl rfl ?_
            refine R_iload_n (i := 2) (q := 47) dX7_guess_46 rfl rfl rfl ?_
            refine R_cV2i (M' := MX1_of) (q := 50) dX7_guess_47 ml_X7_151 mk_X1_of (Nat.le_of_ble_eq_true rfl) rfl (c_of ha (by omega)) ?_
            rintro _ w1 ⟨rfl, rfl⟩
            refine R_ri dX7_guess_50 rfl ?_
            refine ⟨?_, hR.sc (hF.up (by decide))⟩
            rw [cl_nI (by omega)]
            rcases (show a = 0 ∨ a = 1 by omega) with rfl | rfl
            · rw [if_pos (by decide), if_pos (by rw [← hn0 rfl]; exact hxin), Nat.zero_mul, Nat.zero_add]
              exact hG.1 b (by omega)
            · rw [if_neg (by decide), if_pos (by rw [← hn1 rfl]; exact hxin)]
              exact hG.2 b (by omega)
          · exact tail (fun g => c4 ((lt_in (by omega)).mpr g.2))
      rcases (show a = 0 ∨ a = 1 by omega) with rfl | rfl
      · exact key (pR (aP A)) (by omega) (by rw [if_pos (by decide)]; exact hR.2.1.1) (fun _ => rfl) (fun g => absurd g (by decide))
      · exact key (pC (aP A)) (by omega) (by rw [if_neg (by decide)]; exact hR.2.1.2.1) (fun g => absurd g (by decide)) (fun _ => rfl)
    · refine R_bipush (v := (-2)) (q := 11) dX7_guess_9 (by decide) rfl ?_
      refine R_ri dX7_guess_11 rfl ?_
      exact ⟨(if_neg (fun g => c2 ((lt_in (by decide)).mpr g.2))).symm, hR⟩
theorem c_dot {x y o : Int32} (hR : ClsR w A) (hA : AOK A) : Ct X 0 (d + 4) MX7_dot [vR 7 0 [], vI x, vI y, vI o] w (qI fun z w' => z = opDot A x y o ∧ ClsR w' A) := by
  obtain ⟨hOK1, hOK2, hOK3, hOK4, hOK5, hOK6, hOK7, hOK8⟩ := id hA.2.1
  unfold opDot
  refine Ct.of (by decide) rfl (Nat.le_of_ble_eq_true rfl) ?_
  show Wq _ _ _ _ 0 [(0, _), (1, _), (2, _), (3, _)] [] _ _
  refine R_iload_n (i := 1) (q := 1) dX7_dot_0 rfl rfl rfl ?_
  refine R_iload_n (i := 2) (q := 2) dX7_dot_1 rfl rfl rfl ?_
  refine R_cS2i (M' := MX7_isDot) (q := 5) dX7_dot_2 ml_X7_154 mk_X7_isDot (Nat.le_of_ble_eq_true rfl) rfl (c_isDot) ?_
  rintro _ w ⟨rfl, rfl⟩
  refine R_if_neB (tgt := 10) (q := 8) dX7_dot_5 (by decide) rfl (fun c1 => ?_) (fun c1 => ?_)
  · rw [if_pos c1]
    obtain ⟨a, ha, rfl⟩ := inN_ex (by decide) c1.1
    obtain ⟨b, hb, rfl⟩ := inN_ex (by decide) c1.2
    rw [cl_nI (by omega), cl_nI (by omega)]
    refine R_iload_n (i := 3) (q := 11) dX7_dot_10 rfl rfl rfl ?_
    refine R_if_ne (tgt := 28) (q := 14) dX7_dot_11 (by decide) rfl (fun c2 => ?_) (fun c2 => ?_)
    · rw [if_neg c2]
      refine R_aload_n (i := 0) (q := 29) dX7_dot_28 rfl rfl rfl ?_
      refine R_getR (q := 32) dX7_dot_29 fl_X7_57 rfl (by decide) rfl ?_
      refine R_aload_n (i := 0) (q := 33) dX7_dot_32 rfl rfl rfl ?_
      refine R_getR (q := 36) dX7_dot_33 fl_X7_19 rfl (by decide) rfl ?_
      refine R_aload_n (i := 0) (q := 37) dX7_dot_36 rfl rfl rfl ?_
      refine R_getR (q := 40) dX7_dot_37 fl_X7_19 rfl (by decide) rfl ?_
      refine R_getI' (q := 43) dX7_dot_40 fl_X7_94 rfl (hR.2.1.2.2.2.1) rfl ?_
      refine R_aload_n (i := 0) (q := 44) dX7_dot_43 rfl rfl rfl ?_
      refine R_getR (q := 47) dX7_dot_44 fl_X7_19 rfl (by decide) rfl ?_
      refine R_getI' (q := 50) dX7_dot_47 fl_X7_97 rfl (hR.2.1.2.2.2.2.1) rfl ?_
      refine R_cV3v (M' := MX2_send) (q := 53) dX7_dot_50 ml_X7_160 mk_X2_send (Nat.le_of_ble_eq_true rfl) rfl (c_send hR.2.1 hA.2.1.o (Or.inl rfl) hOK4 hOK5) ?_
      rintro w1 ⟨hO, hF⟩
      refine R_aload_n (i := 0) (q := 54) dX7_dot_53 rfl rfl rfl ?_
      refine R_getR (q := 57) dX7_dot_54 fl_X7_57 rfl (by decide) rfl ?_
      refine R_getR (q := 60) dX7_dot_57 fl_X7_164 rfl (by decide) rfl ?_
      refine R_iload_n (i := 1) (q := 61) dX7_dot_60 rfl rfl rfl ?_
      refine R_iconst (v := nI 4) (q := 62) dX7_dot_61 (by decide) rfl ?_
      first | refine R_imulN (q := 63) dX7_dot_62 rfl ?_ | refine R_imul (q := 63) dX7_dot_62 rfl ?_
      refine R_iload_n (i := 2) (q := 64) dX7_dot_63 rfl rfl rfl ?_
      first | refine R_iaddN (q := 65) dX7_dot_64 rfl ?_ | refine R_iadd (q := 65) dX7_dot_64 rfl ?_
      refine R_iald' (q := 66) dX7_dot_65 (rfl) (by omega) (by decide) (hO.2 _ (by omega)) rfl ?_
      refine R_ri dX7_dot_66 rfl ?_
      exact ⟨rfl, hR.sc (hF.up (by decide))⟩
    · rw [if_pos c2]
      refine R_aload_n (i := 0) (q := 15) dX7_dot_14 rfl rfl rfl ?_
      refine R_getR (q := 18) dX7_dot_15 fl_X7_19 rfl (by decide) rfl ?_
      refine R_getR (q := 21) dX7_dot_18 fl_X7_157 rfl (by decide) rfl ?_
      refine R_iload_n (i := 1) (q := 22) dX7_dot_21 rfl rfl rfl ?_
      refine R_iconst (v := nI 4) (q := 23) dX7_dot_22 (by decide) rfl ?_
      first | refine R_imulN (q := 24) dX7_dot_23 rfl ?_ | refine R_imul (q := 24) dX7_dot_23 rfl ?_
      refine R_iload_n (i := 2) (q := 25) dX7_dot_24 rfl rfl rfl ?_
      first | refine R_iaddN (q := 26) dX7_dot_25 rfl ?_ | refine R_iadd (q := 26) dX7_dot_25 rfl ?_
      refine R_iald' (q := 27) dX7_dot_26 (rfl) (by omega) (by decide) (hR.2.1.2.2.2.2.2.2.2 _ (by omega)) rfl ?_
      refine R_ri dX7_dot_27 rfl ?_
      exact ⟨rfl, hR⟩
  · rw [if_neg c1]
    refine R_iconst (v := (-1)) (q := 9) dX7_dot_8 (by decide) rfl ?_
    refine R_ri dX7_dot_9 rfl ?_
    exact ⟨rfl, hR⟩
end TH
