theorem Wq_monoQ {X : Cx} {r d : Nat} {M : Mth} {pc : Nat} {loc : Lo} {stk : List AV} {w : Wd} {Q Q' : Option AV → Wd → Prop} (h : Wq X r d M pc loc stk w Q) (hq : ∀ rv w', Q rv w' → Q' rv w') : Wq X r d M pc loc stk w Q' := by
  intro h1 h2 p e s m args below meth c H locs ls B hP hD hS hl T hT Y
  obtain ⟨t, a1, o, b1, b2, ⟨⟨rv, w', b3, b4, b5⟩, b6⟩, b7⟩ := h h1 h2 p e s m args below meth c H locs ls B hP hD hS hl T hT Y
  exact ⟨t, a1, o, b1, b2, ⟨⟨rv, w', b3, hq rv w' b4, b5⟩, b6⟩, b7⟩
theorem Wq_mono {X : Cx} {r d : Nat} {M : Mth} {pc : Nat} {loc : Lo} {stk : List AV} {w : Wd} {P P' : Int32 → Wd → Prop} (h : Wq X r d M pc loc stk w (qI P)) (hq : ∀ x w', P x w' → P' x w') : Wq X r d M pc loc stk w (qI P') := Wq_monoQ h (fun rv w' h => by obtain ⟨x, e, h⟩ := h; exact ⟨x, e, hq x w' h⟩)
theorem Wq_monoV {X : Cx} {r d : Nat} {M : Mth} {pc : Nat} {loc : Lo} {stk : List AV} {w : Wd} {P P' : Wd → Prop} (h : Wq X r d M pc loc stk w (qV P)) (hq : ∀ w', P w' → P' w') : Wq X r d M pc loc stk w (qV P') := Wq_monoQ h (fun rv w' h => ⟨h.1, hq w' h.2⟩)
/-! acts, slots, what is seen -/
def ActA (w : Wd) (L : List Pic) : Prop := ∃ f, f < 14 ∧ w.1 [3] 1 = nI f ∧ w.1 [3] 2 = nI L.length ∧ L.length ≤ 14 ∧ ∀ j S, L[j]? = some S → StA w [(f + L.length - 1 - j) % 14, 0, 3] S
def SloA (w : Wd) (K : Nat → Option Pic) : Prop := ∃ f, f < 4 ∧ w.1 [4] 1 = nI f ∧ ∀ i, i < 2 → (K i = none ∧ bitN f i = 0) ∨ ∃ S, K i = some S ∧ bitN f i = 1 ∧ StA w [i, 0, 4] S
def SeeA (w : Wd) (n : Nat) (pl vs : Nat → Nat) : Prop := w.1 [5] 2 = nI n ∧ ∀ i, i < n → w.1 [0, 5] i = nI (pl i) ∧ w.1 [1, 5] i = nI (vs i)
def TexA (w : Wd) (n : Nat) (tx : Nat → Int32) : Prop := w.1 [0] 1 = nI n ∧ ∀ i, i < n → w.1 [0, 0] i = tx i
/-- the cells of one of the states that are kept for acts, with their head -/
abbrev FA (k : Nat) : List (List Nat) := [[3], [k, 0, 3], [5, k, 0, 3], [6, k, 0, 3], [7, k, 0, 3]]
abbrev FK (k : Nat) : List (List Nat) := [[4], [k, 0, 4], [5, k, 0, 4], [6, k, 0, 4], [7, k, 0, 4]]
theorem ActA.fr {w w' : Wd} {L : List Pic} {F : List (List Nat)} (h : ActA w L) (hf : Fr F w w') (h3 : [3] ∉ F) (hk : ∀ k, k < 14 → [k, 0, 3] ∉ F ∧ [5, k, 0, 3] ∉ F ∧ [6, k, 0, 3] ∉ F ∧ [7, k, 0, 3] ∉ F) : ActA w' L := by
  obtain ⟨f, h1, h2, h4, h5, h6⟩ := h
  refine ⟨f, h1, by rw [hf.2 _ h3]; exact h2, by rw [hf.2 _ h3]; exact h4, h5, ?_⟩
  intro j S hj
  have hq := hk ((f + L.length - 1 - j) % 14) (Nat.mod_lt _ (by decide))
  exact (h6 j S hj).fr hf hq.1 hq.2.1 hq.2.2.1 hq.2.2.2
theorem SloA.fr {w w' : Wd} {K : Nat → Option Pic} {F : List (List Nat)} (h : SloA w K) (hf : Fr F w w') (h3 : [4] ∉ F) (hk : ∀ k, k < 2 → [k, 0, 4] ∉ F ∧ [5, k, 0, 4] ∉ F ∧ [6, k, 0, 4] ∉ F ∧ [7, k, 0, 4] ∉ F) : SloA w' K := by
  obtain ⟨f, h1, h2, h6⟩ := h
  refine ⟨f, h1, by rw [hf.2 _ h3]; exact h2, ?_⟩
  intro i hi
  have hq := hk i hi
  rcases h6 i hi with h | ⟨S, e1, e2, e3⟩
  · exact Or.inl h
  · exact Or.inr ⟨S, e1, e2, e3.fr hf hq.1 hq.2.1 hq.2.2.1 hq.2.2.2⟩
theorem SeeA.fr {w w' : Wd} {n : Nat} {pl vs : Nat → Nat} {F : List (List Nat)} (h : SeeA w n pl vs) (hf : Fr F w w') (h5 : [5] ∉ F) (h0 : [0, 5] ∉ F) (h1 : [1, 5] ∉ F) : SeeA w' n pl vs := by
  unfold SeeA
  rw [hf.2 _ h5, hf.2 _ h0, hf.2 _ h1]
  exact h
theorem TexA.fr {w w' : Wd} {n : Nat} {tx : Nat → Int32} {F : List (List Nat)} (h : TexA w n tx) (hf : Fr F w w') (h0 : [0] ∉ F) (h00 : [0, 0] ∉ F) : TexA w' n tx := by
  unfold TexA
  rw [hf.2 _ h0, hf.2 _ h00]
  exact h
theorem StA.frA {w w' : Wd} {j k : Nat} {S : Pic} (h : StA w [j, 0, 3] S) (hne : j ≠ k) (hf : Fr (FA k) w w') : StA w' [j, 0, 3] S := h.fr hf (by simp [hne]) (by simp [hne]) (by simp [hne]) (by simp [hne])
section AC
variable {X : Cx} {d : Nat} {w : Wd}
theorem c_aforget : Ct X 0 d MX0_forgetAll [vR 0 0 [3]] w (qV fun w' => w' = uI w [3] 2 (nI 0)) := by
  refine Ct.of (by decide) rfl (Nat.le_of_ble_eq_true rfl) ?_
  show Wq _ _ _ _ 0 [(0, _)] [] _ _
  refine R_aload_n (i := 0) (q := 1) dX0_forgetAll_0 rfl rfl rfl ?_
  refine R_iconst (v := nI 0) (q := 2) dX0_forgetAll_1 (by decide) rfl ?_
  refine R_putI (q := 5) dX0_forgetAll_2 fl_X0_18 rfl rfl ?_
  refine R_rv dX0_forgetAll_5 rfl ?_
  rfl
theorem c_sforget : Ct X 0 d MX4_forgetAll [vR 4 0 [4]] w (qV fun w' => w' = uI w [4] 1 (nI 0)) := by
  refine Ct.of (by decide) rfl (Nat.le_of_ble_eq_true rfl) ?_
  show Wq _ _ _ _ 0 [(0, _)] [] _ _
  refine R_aload_n (i := 0) (q := 1) dX4_forgetAll_0 rfl rfl rfl ?_
  refine R_iconst (v := nI 0) (q := 2) dX4_forgetAll_1 (by decide) rfl ?_
  refine R_putI (q := 5) dX4_forgetAll_2 fl_X4_22 rfl rfl ?_
  refine R_rv dX4_forgetAll_5 rfl ?_
  rfl
theorem c_remember {L : List Pic} {S : Pic} (hA : ActA w L) (hS : StA w [1] S) (hN : pN S ≤ 20) : Ct X 0 (d + 2) MX0_remember [vR 0 0 [3], vR 5 0 [1]] w (qV fun w' => ActA w' (S :: L.take 13) ∧ ∃ k, k < 14 ∧ Fr (FA k) w w') := by
  obtain ⟨f, hf, hfi, hsz, hL, hst⟩ := id hA
  refine Ct.of (by decide) rfl (Nat.le_of_ble_eq_true rfl) ?_
  show Wq _ _ _ _ 0 [(0, _), (1, _)] [] _ _
  refine R_aload_n (i := 0) (q := 1) dX0_remember_0 rfl rfl rfl ?_
  refine R_getI' (q := 4) dX0_remember_1 fl_X0_18 rfl (hsz) rfl ?_
  refine R_bipush (v := nI 14) (q := 6) dX0_remember_4 (by decide) rfl ?_
  refine R_icmp_neN (by omega) (by omega) (tgt := 32) (q := 9) dX0_remember_6 (by decide) rfl (fun c1 => ?_) (fun c1 => ?_)
  · have hk14 : (f + L.length) % 14 < 14 := Nat.mod_lt _ (by decide)
    refine R_aload_n (i := 0) (q := 33) dX0_remember_32 rfl rfl rfl ?_
    refine R_getR (q := 36) dX0_remember_33 fl_X0_11 rfl (by decide) rfl ?_
    refine R_aload_n (i := 0) (q := 37) dX0_remember_36 rfl rfl rfl ?_
    refine R_getI' (q := 40) dX0_remember_37 fl_X0_22 rfl (hfi) rfl ?_
    refine R_aload_n (i := 0) (q := 41) dX0_remember_40 rfl rfl rfl ?_
    refine R_getI' (q := 44) dX0_remember_41 fl_X0_18 rfl (hsz) rfl ?_
    first | refine R_iaddN (q := 45) dX0_remember_44 rfl ?_ | refine R_iadd (q := 45) dX0_remember_44 rfl ?_
    refine R_bipush (v := nI 14) (q := 47) dX0_remember_45 (by decide) rfl ?_
    refine R_iremN (by omega) (by omega) (by omega) (q := 48) dX0_remember_47 rfl ?_
    refine R_aald (q := 49) dX0_remember_48 (rfl) (by omega) (by decide) rfl ?_
    refine R_aload_n (i := 1) (q := 50) dX0_remember_49 rfl rfl rfl ?_
    refine R_cV1v (M' := MX5_copy) (q := 53) dX0_remember_50 ml_X0_25 mk_X5_copy (Nat.le_of_ble_eq_true rfl) rfl (c_copy (p := [(f + L.length) % 14, 0, 3]) hS hN (by simp) (by simp)) ?_
    rintro w1 ⟨hS1, hF1⟩
    have hsz1 : w1.1 [3] 2 = nI L.length := by rw [hF1.2 _ (by simp)]; exact hsz
    refine R_aload_n (i := 0) (q := 54) dX0_remember_53 rfl rfl rfl ?_
    refine R_dup (q := 55) dX0_remember_54 rfl rfl ?_
    refine R_getI' (q := 58) dX0_remember_55 fl_X0_18 rfl (hsz1) rfl ?_
    refine R_iconst (v := nI 1) (q := 59) dX0_remember_58 (by decide) rfl ?_
    first | refine R_iaddN (q := 60) dX0_remember_59 rfl ?_ | refine R_iadd (q := 60) dX0_remember_59 rfl ?_
    refine R_putI (q := 63) dX0_remember_60 fl_X0_18 rfl rfl ?_
    refine R_rv dX0_remember_63 rfl ?_
    have hFk : Fr (FA ((f + L.length) % 14)) w (uI w1 [3] 2 (nI (L.length + 1))) := (hF1.up (by simp)).tr (Fr.i (by simp))
    refine ⟨⟨f, hf, ?_, ?_, by simp; omega, ?_⟩, _, hk14, hFk⟩
    · rw [uI_ne (by decide), hF1.2 _ (by simp)]
      exact hfi
    · rw [uI_same]
      simp [List.length_take]
      congr 1
      omega
    · have htk : (L.take 13) = L := List.take_of_length_le (by omega)
      intro j T hj
      rw [htk] at hj ⊢
      simp only [List.length_cons]
      have hFs : Fr [[3]] w1 (uI w1 [3] 2 (nI (L.length + 1))) := Fr.i (by simp)
      cases j with
      | zero =>
        cases hj
        rw [show (f + (L.length + 1) - 1 - 0) % 14 = (f + L.length) % 14 by congr 1]
        exact hS1.fr hFs (by simp) (by simp) (by simp) (by simp)
      | succ j =>
        rw [List.getElem?_cons_succ] at hj
        have hjl : j < L.length := (List.getElem?_eq_some_iff.mp hj).1
        have h9 := hst j T hj
        rw [show (f + (L.length + 1) - 1 - (j + 1)) % 14 = (f + L.length - 1 - j) % 14 by congr 1; omega]
        have hne : (f + L.length - 1 - j) % 14 ≠ (f + L.length) % 14 := by omega
        exact h9.frA hne hFk
  · have hm14 : (f + 1) % 14 < 14 := Nat.mod_lt _ (by decide)
    rw [c1] at hsz
    refine R_aload_n (i := 0) (q := 10) dX0_remember_9 rfl rfl rfl ?_
    refine R_aload_n (i := 0) (q := 11) dX0_remember_10 rfl rfl rfl ?_
    refine R_getI' (q := 14) dX0_remember_11 fl_X0_22 rfl (hfi) rfl ?_
    refine R_iconst (v := nI 1) (q := 15) dX0_remember_14 (by decide) rfl ?_
    first | refine R_iaddN (q := 16) dX0_remember_15 rfl ?_ | refine R_iadd (q := 16) dX0_remember_15 rfl ?_
    refine R_bipush (v := nI 14) (q := 18) dX0_remember_16 (by decide) rfl ?_
    refine R_iremN (by omega) (by omega) (by omega) (q := 19) dX0_remember_18 rfl ?_
    refine R_putI (q := 22) dX0_remember_19 fl_X0_22 rfl rfl ?_
    refine R_aload_n (i := 0) (q := 23) dX0_remember_22 rfl rfl rfl ?_
    refine R_dup (q := 24) dX0_remember_23 rfl rfl ?_
    refine R_getI' (q := 27) dX0_remember_24 fl_X0_18 rfl ((uI_ne (by decide)).trans hsz) rfl ?_
    refine R_iconst (v := nI 1) (q := 28) dX0_remember_27 (by decide) rfl ?_
    refine R_isubN (by decide) (q := 29) dX0_remember_28 rfl ?_
    refine R_putI (q := 32) dX0_remember_29 fl_X0_18 rfl rfl ?_
    refine R_aload_n (i := 0) (q := 33) dX0_remember_32 rfl rfl rfl ?_
    refine R_getR (q := 36) dX0_remember_33 fl_X0_11 rfl (by decide) rfl ?_
    refine R_aload_n (i := 0) (q := 37) dX0_remember_36 rfl rfl rfl ?_
    refine R_getI' (q := 40) dX0_remember_37 fl_X0_22 rfl ((uI_ne (by decide)).trans (uI_same _ _ _ _)) rfl ?_
    refine R_aload_n (i := 0) (q := 41) dX0_remember_40 rfl rfl rfl ?_
    refine R_getI' (q := 44) dX0_remember_41 fl_X0_18 rfl (uI_same _ _ _ _) rfl ?_
    have hk14 : ((f + 1) % 14 + 13) % 14 < 14 := Nat.mod_lt _ (by decide)
    first | refine R_iaddN (q := 45) dX0_remember_44 rfl ?_ | refine R_iadd (q := 45) dX0_remember_44 rfl ?_
    refine R_bipush (v := nI 14) (q := 47) dX0_remember_45 (by decide) rfl ?_
    refine R_iremN (by omega) (by omega) (by omega) (q := 48) dX0_remember_47 rfl ?_
    refine R_aald (q := 49) dX0_remember_48 (rfl) (by omega) (by decide) rfl ?_
    refine R_aload_n (i := 1) (q := 50) dX0_remember_49 rfl rfl rfl ?_
    have hS0 : StA (uI (uI w [3] 1 (nI ((f + 1) % 14))) [3] 2 (nI (14 - 1))) [1] S := hS.fr (F := [[3]]) ((Fr.i (by simp)).tr (Fr.i (by simp))) (by simp) (by simp) (by simp) (by simp)
    refine R_cV1v (M' := MX5_copy) (q := 53) dX0_remember_50 ml_X0_25 mk_X5_copy (Nat.le_of_ble_eq_true rfl) rfl (c_copy (p := [((f + 1) % 14 + 13) % 14, 0, 3]) hS0 hN (by simp) (by simp)) ?_
    rintro w1 ⟨hS1, hF1⟩
    have hF0 : Fr [[3]] w (uI (uI w [3] 1 (nI ((f + 1) % 14))) [3] 2 (nI (14 - 1))) := (Fr.i (by simp)).tr (Fr.i (by simp))
    have hsz1 : w1.1 [3] 2 = nI 13 := by rw [hF1.2 _ (by simp)]; exact uI_same _ _ _ _
    refine R_aload_n (i := 0) (q := 54) dX0_remember_53 rfl rfl rfl ?_
    refine R_dup (q := 55) dX0_remember_54 rfl rfl ?_
    refine R_getI' (q := 58) dX0_remember_55 fl_X0_18 rfl (hsz1) rfl ?_
    refine R_iconst (v := nI 1) (q := 59) dX0_remember_58 (by decide) rfl ?_
    first | refine R_iaddN (q := 60) dX0_remember_59 rfl ?_ | refine R_iadd (q := 60) dX0_remember_59 rfl ?_
    refine R_putI (q := 63) dX0_remember_60 fl_X0_18 rfl rfl ?_
    refine R_rv dX0_remember_63 rfl ?_
    have hFk : Fr (FA (((f + 1) % 14 + 13) % 14)) w (uI w1 [3] 2 (nI (13 + 1))) := ((hF0.up (by simp)).tr (hF1.up (by simp))).tr (Fr.i (by simp))
    have htl : (L.take 13).length = 13 := by rw [List.length_take]; omega
    refine ⟨⟨(f + 1) % 14, hm14, ?_, ?_, by rw [List.length_cons, htl]; decide, ?_⟩, _, hk14, hFk⟩
    · rw [uI_ne (by decide), hF1.2 _ (by simp)]
      exact (uI_ne (by decide)).trans (uI_same _ _ _ _)
    · rw [uI_same, List.length_cons, htl]
    · intro j T hj
      simp only [List.length_cons, htl]
      have hFs : Fr [[3]] w1 (uI w1 [3] 2 (nI (13 + 1))) := Fr.i (by simp)
      cases j with
      | zero =>
        cases hj
        rw [show ((f + 1) % 14 + (13 + 1) - 1 - 0) % 14 = ((f + 1) % 14 + 13) % 14 by congr 1]
        exact hS1.fr hFs (by simp) (by simp) (by simp) (by simp)
      | succ j =>
        rw [List.getElem?_cons_succ] at hj
        have hjl : j < 13 := by
          have := (List.getElem?_eq_some_iff.mp hj).1
          omega
        rw [List.getElem?_take_of_lt hjl] at hj
        have h9 := hst j T hj
        rw [show ((f + 1) % 14 + (13 + 1) - 1 - (j + 1)) % 14 = (f + L.length - 1 - j) % 14 by rw [c1]; omega]
        have hne : (f + L.length - 1 - j) % 14 ≠ ((f + 1) % 14 + 13) % 14 := by rw [c1]; omega
        exact h9.frA hne hFk
theorem c_takeBack {L : List Pic} (hA : ActA w L) (hOK : ∀ S, S ∈ L → pN S ≤ 20) : Ct X 0 (d + 2) MX0_takeBackInto [vR 0 0 [3], vR 5 0 [1]] w (qI fun z w' => (L = [] ∧ z = 0 ∧ w' = w) ∨ ∃ S L', L = S :: L' ∧ z = 1 ∧ StA w' [1] S ∧ ActA w' L' ∧ Fr [[3], [1], [5, 1], [6, 1], [7, 1]] w w') := by
  obtain ⟨f, hf, hfi, hsz, hL, hst⟩ := id hA
  refine Ct.of (by decide) rfl (Nat.le_of_ble_eq_true rfl) ?_
  show Wq _ _ _ _ 0 [(0, _), (1, _)] [] _ _
  refine R_aload_n (i := 0) (q := 1) dX0_takeBackInto_0 rfl rfl rfl ?_
  refine R_getI' (q := 4) dX0_takeBackInto_1 fl_X0_18 rfl (hsz) rfl ?_
  refine R_if_neN (by omega) (tgt := 9) (q := 7) dX0_takeBackInto_4 (by decide) rfl (fun c1 => ?_) (fun c1 => ?_)
  · cases L with
    | nil => exact absurd rfl c1
    | cons S L' =>
      simp only [List.length_cons] at hsz hL hst c1
      refine R_aload_n (i := 0) (q := 10) dX0_takeBackInto_9 rfl rfl rfl ?_
      refine R_dup (q := 11) dX0_takeBackInto_10 rfl rfl ?_
      refine R_getI' (q := 14) dX0_takeBackInto_11 fl_X0_18 rfl (hsz) rfl ?_
      refine R_iconst (v := nI 1) (q := 15) dX0_takeBackInto_14 (by decide) rfl ?_
      refine R_isubN (by omega) (q := 16) dX0_takeBackInto_15 rfl ?_
      rw [Nat.add_sub_cancel]
      refine R_putI (q := 19) dX0_takeBackInto_16 fl_X0_18 rfl rfl ?_
      refine R_aload_n (i := 1) (q := 20) dX0_takeBackInto_19 rfl rfl rfl ?_
      refine R_aload_n (i := 0) (q := 21) dX0_takeBackInto_20 rfl rfl rfl ?_
      refine R_getR (q := 24) dX0_takeBackInto_21 fl_X0_11 rfl (by decide) rfl ?_
      refine R_aload_n (i := 0) (q := 25) dX0_takeBackInto_24 rfl rfl rfl ?_
      refine R_getI' (q := 28) dX0_takeBackInto_25 fl_X0_22 rfl ((uI_ne (by decide)).trans hfi) rfl ?_
      refine R_aload_n (i := 0) (q := 29) dX0_takeBackInto_28 rfl rfl rfl ?_
      refine R_getI' (q := 32) dX0_takeBackInto_29 fl_X0_18 rfl (uI_same _ _ _ _) rfl ?_
      have hk14 : (f + L'.length) % 14 < 14 := Nat.mod_lt _ (by decide)
      first | refine R_iaddN (q := 33) dX0_takeBackInto_32 rfl ?_ | refine R_iadd (q := 33) dX0_takeBackInto_32 rfl ?_
      refine R_bipush (v := nI 14) (q := 35) dX0_takeBackInto_33 (by decide) rfl ?_
      refine R_iremN (by omega) (by omega) (by omega) (q := 36) dX0_takeBackInto_35 rfl ?_
      refine R_aald (q := 37) dX0_takeBackInto_36 (rfl) (by omega) (by decide) rfl ?_
      have h9 := hst 0 S rfl
      rw [show (f + (L'.length + 1) - 1 - 0) % 14 = (f + L'.length) % 14 by congr 1] at h9
      refine R_cV1v (M' := MX5_copy) (q := 40) dX0_takeBackInto_37 ml_X0_25 mk_X5_copy (Nat.le_of_ble_eq_true rfl) rfl (c_copy (q := [(f + L'.length) % 14, 0, 3]) (h9.fr (F := [[3]]) (Fr.i (by simp)) (by simp) (by simp) (by simp) (by simp)) (hOK S List.mem_cons_self) (by simp) (by simp)) ?_
      rintro w1 ⟨hS1, hF1⟩
      refine R_iconst (v := nI 1) (q := 41) dX0_takeBackInto_40 (by decide) rfl ?_
      refine R_rz dX0_takeBackInto_41 rfl (by decide) ?_
      have hF : Fr [[3], [1], [5, 1], [6, 1], [7, 1]] w w1 := (Fr.i (by simp)).tr (hF1.up (by simp))
      refine Or.inr ⟨S, L', rfl, rfl, hS1, ⟨f, hf, ?_, ?_, by omega, ?_⟩, hF⟩
      · rw [hF1.2 _ (by simp)]
        exact (uI_ne (by decide)).trans hfi
      · rw [hF1.2 _ (by simp)]
        exact uI_same _ _ _ _
      · intro j T hj
        have hjl : j < L'.length := (List.getElem?_eq_some_iff.mp hj).1
        have h8 := hst (j + 1) T (by rw [List.getElem?_cons_succ]; exact hj)
        rw [show (f + (L'.length + 1) - 1 - (j + 1)) % 14 = (f + L'.length - 1 - j) % 14 by congr 1; omega] at h8
        exact h8.fr hF (by simp) (by simp) (by simp) (by simp)
  · refine R_iconst (v := nI 0) (q := 8) dX0_takeBackInto_7 (by decide) rfl ?_
    refine R_rz dX0_takeBackInto_8 rfl (by decide) ?_
    exact Or.inl ⟨List.length_eq_zero_iff.mp c1, rfl, rfl⟩
theorem sl_or : ∀ f, f < 4 → ∀ i, i < 2 → ∃ g, g < 4 ∧ (nI f ||| (nI 1 <<< (nI i &&& 31))) = nI g ∧ bitN g i = 1 ∧ ∀ j, j < 2 → j ≠ i → bitN g j = bitN f j := by
  have h : ∀ f, f < 4 → ∀ i, i < 2 → (nI f ||| (nI 1 <<< (nI i &&& 31))) = nI (f ||| 2 ^ i) ∧ (f ||| 2 ^ i) < 4 ∧ bitN (f ||| 2 ^ i) i = 1 ∧ ∀ j, j < 2 → j ≠ i → bitN (f ||| 2 ^ i) j = bitN f j := by decide
  intro f hf i hi
  have h1 := h f hf i hi
  exact ⟨f ||| 2 ^ i, h1.2.1, h1.1, h1.2.2.1, h1.2.2.2⟩
theorem c_sput {K : Nat → Option Pic} {S : Pic} {i : Nat} (hK : SloA w K) (hS : StA w [1] S) (hN : pN S ≤ 20) (hi : i < 2) : Ct X 0 (d + 2) MX4_put [vR 4 0 [4], vI (nI i), vR 5 0 [1]] w (qV fun w' => SloA w' (fnU K i (some S)) ∧ Fr (FK i) w w') := by
  obtain ⟨f, hf, hfi, hst⟩ := id hK
  refine Ct.of (by decide) rfl (Nat.le_of_ble_eq_true rfl) ?_
  show Wq _ _ _ _ 0 [(0, _), (1, _), (2, _)] [] _ _
  refine R_aload_n (i := 0) (q := 1) dX4_put_0 rfl rfl rfl ?_
  refine R_getR (q := 4) dX4_put_1 fl_X4_11 rfl (by decide) rfl ?_
  refine R_iload_n (i := 1) (q := 5) dX4_put_4 rfl rfl rfl ?_
  refine R_aald (q := 6) dX4_put_5 (rfl) (by omega) (by decide) rfl ?_
  refine R_aload_n (i := 2) (q := 7) dX4_put_6 rfl rfl rfl ?_
  refine R_cV1v (M' := MX5_copy) (q := 10) dX4_put_7 ml_X4_18 mk_X5_copy (Nat.le_of_ble_eq_true rfl) rfl (c_copy (p := [i, 0, 4]) hS hN (by simp) (by simp)) ?_
  rintro w1 ⟨hS1, hF1⟩
  have hfi1 : w1.1 [4] 1 = nI f := by rw [hF1.2 _ (by simp)]; exact hfi
  refine R_aload_n (i := 0) (q := 11) dX4_put_10 rfl rfl rfl ?_
  refine R_dup (q := 12) dX4_put_11 rfl rfl ?_
  refine R_getI' (q := 15) dX4_put_12 fl_X4_22 rfl (hfi1) rfl ?_
  refine R_iconst (v := nI 1) (q := 16) dX4_put_15 (by decide) rfl ?_
  refine R_iload_n (i := 1) (q := 17) dX4_put_16 rfl rfl rfl ?_
  refine R_ishl (q := 18) dX4_put_17 rfl ?_
  refine R_ior (q := 19) dX4_put_18 rfl ?_
  obtain ⟨g, hg, eg, hg1, hg2⟩ := sl_or f hf i hi
  rw [eg]
  refine R_putI (q := 22) dX4_put_19 fl_X4_22 rfl rfl ?_
  refine R_rv dX4_put_22 rfl ?_
  have hF2 : Fr [[4]] w1 (uI w1 [4] 1 (nI g)) := Fr.i (by simp)
  have hF : Fr (FK i) w (uI w1 [4] 1 (nI g)) := (hF1.up (by simp)).tr (hF2.up (by simp))
  refine ⟨⟨g, hg, uI_same _ _ _ _, ?_⟩, hF⟩
  intro j hj
  by_cases h : j = i
  · subst h
    exact Or.inr ⟨S, by simp [fnU], hg1, hS1.fr hF2 (by simp) (by simp) (by simp) (by simp)⟩
  · rw [hg2 j hj h]
    simp only [fnU, if_neg h]
    rcases hst j hj with h1 | ⟨T, e1, e2, e3⟩
    · exact Or.inl h1
    · exact Or.inr ⟨T, e1, e2, e3.fr hF (by simp [h]) (by simp [h]) (by simp [h]) (by simp [h])⟩
theorem sl_shr : ∀ f, f < 4 → ∀ i, i < 2 → (nI f >>> (nI i &&& 31)) &&& nI 1 = nI (bitN f i) := by decide
theorem c_stake {K : Nat → Option Pic} {i : Nat} (hK : SloA w K) (hN : ∀ S, K i = some S → pN S ≤ 20) (hi : i < 2) : Ct X 0 (d + 2) MX4_takeInto [vR 4 0 [4], vI (nI i), vR 5 0 [1]] w (qI fun z w' => (K i = none ∧ z = 0 ∧ w' = w) ∨ ∃ S, K i = some S ∧ z = 1 ∧ StA w' [1] S ∧ Fr [[1], [5, 1], [6, 1], [7, 1]] w w') := by
  obtain ⟨f, hf, hfi, hst⟩ := id hK
  have hb := bitN_lt f i
  refine Ct.of (by decide) rfl (Nat.le_of_ble_eq_true rfl) ?_
  show Wq _ _ _ _ 0 [(0, _), (1, _), (2, _)] [] _ _
  refine R_aload_n (i := 0) (q := 1) dX4_takeInto_0 rfl rfl rfl ?_
  refine R_getI' (q := 4) dX4_takeInto_1 fl_X4_22 rfl (hfi) rfl ?_
  refine R_iload_n (i := 1) (q := 5) dX4_takeInto_4 rfl rfl rfl ?_
  refine R_ishr (q := 6) dX4_takeInto_5 rfl ?_
  refine R_iconst (v := nI 1) (q := 7) dX4_takeInto_6 (by decide) rfl ?_
  refine R_iand (q := 8) dX4_takeInto_7 rfl ?_
  rw [sl_shr f hf i hi]
  refine R_if_neN (by omega) (tgt := 13) (q := 11) dX4_takeInto_8 (by decide) rfl (fun c1 => ?_) (fun c1 => ?_)
  · rcases hst i hi with ⟨_, h1⟩ | ⟨T, e1, e2, e3⟩
    · exact absurd h1 c1
    · refine R_aload_n (i := 2) (q := 14) dX4_takeInto_13 rfl rfl rfl ?_
      refine R_aload_n (i := 0) (q := 15) dX4_takeInto_14 rfl rfl rfl ?_
      refine R_getR (q := 18) dX4_takeInto_15 fl_X4_11 rfl (by decide) rfl ?_
      refine R_iload_n (i := 1) (q := 19) dX4_takeInto_18 rfl rfl rfl ?_
      refine R_aald (q := 20) dX4_takeInto_19 (rfl) (by omega) (by decide) rfl ?_
      refine R_cV1v (M' := MX5_copy) (q := 23) dX4_takeInto_20 ml_X4_18 mk_X5_copy (Nat.le_of_ble_eq_true rfl) rfl (c_copy (q := [i, 0, 4]) e3 (hN T e1) (by simp) (by simp)) ?_
      rintro w1 ⟨hS1, hF1⟩
      refine R_iconst (v := nI 1) (q := 24) dX4_takeInto_23 (by decide) rfl ?_
      refine R_rz dX4_takeInto_24 rfl (by decide) ?_
      exact Or.inr ⟨T, e1, rfl, hS1, hF1⟩
  · rcases hst i hi with ⟨h0, h1⟩ | ⟨T, e1, e2, e3⟩
    · refine R_iconst (v := nI 0) (q := 12) dX4_takeInto_11 (by decide) rfl ?_
      refine R_rz dX4_takeInto_12 rfl (by decide) ?_
      exact Or.inl ⟨h0, rfl, rfl⟩
    · omega
theorem c_sadd {n a b : Nat} {pl vs : Nat → Nat} (hA : SeeA w n pl vs) (hn : n ≤ 6) : Ct X 0 d MX3_add [vR 3 0 [5], vI (nI a), vI (nI b)] w (qI fun z w' => (n = 6 ∧ z = 0 ∧ w' = w) ∨ (n < 6 ∧ z = 1 ∧ SeeA w' (n + 1) (fnU pl n a) (fnU vs n b) ∧ Fr [[5], [0, 5], [1, 5]] w w')) := by
  obtain ⟨hsz, hpv⟩ := id hA
  refine Ct.of (by decide) rfl (Nat.le_of_ble_eq_true rfl) ?_
  show Wq _ _ _ _ 0 [(0, _), (1, _), (2, _)] [] _ _
  refine R_aload_n (i := 0) (q := 1) dX3_add_0 rfl rfl rfl ?_
  refine R_getI' (q := 4) dX3_add_1 fl_X3_18 rfl (hsz) rfl ?_
  refine R_bipush (v := nI 6) (q := 6) dX3_add_4 (by decide) rfl ?_
  refine R_icmp_ltN (by omega) (by omega) (tgt := 11) (q := 9) dX3_add_6 (by decide) rfl (fun c1 => ?_) (fun c1 => ?_)
  · refine R_aload_n (i := 0) (q := 12) dX3_add_11 rfl rfl rfl ?_
    refine R_getR (q := 15) dX3_add_12 fl_X3_9 rfl (by decide) rfl ?_
    refine R_aload_n (i := 0) (q := 16) dX3_add_15 rfl rfl rfl ?_
    refine R_getI' (q := 19) dX3_add_16 fl_X3_18 rfl (hsz) rfl ?_
    refine R_iload_n (i := 1) (q := 20) dX3_add_19 rfl rfl rfl ?_
    refine R_iast (q := 21) dX3_add_20 (rfl) (by omega) (by decide) rfl ?_
    refine R_aload_n (i := 0) (q := 22) dX3_add_21 rfl rfl rfl ?_
    refine R_getR (q := 25) dX3_add_22 fl_X3_15 rfl (by decide) rfl ?_
    refine R_aload_n (i := 0) (q := 26) dX3_add_25 rfl rfl rfl ?_
    refine R_getI' (q := 29) dX3_add_26 fl_X3_18 rfl ((uI_nep (by decide)).trans hsz) rfl ?_
    refine R_iload_n (i := 2) (q := 30) dX3_add_29 rfl rfl rfl ?_
    refine R_iast (q := 31) dX3_add_30 (rfl) (by omega) (by decide) rfl ?_
    refine R_aload_n (i := 0) (q := 32) dX3_add_31 rfl rfl rfl ?_
    refine R_dup (q := 33) dX3_add_32 rfl rfl ?_
    refine R_getI' (q := 36) dX3_add_33 fl_X3_18 rfl ((uI_nep (by decide)).trans ((uI_nep (by decide)).trans hsz)) rfl ?_
    refine R_iconst (v := nI 1) (q := 37) dX3_add_36 (by decide) rfl ?_
    first | refine R_iaddN (q := 38) dX3_add_37 rfl ?_ | refine R_iadd (q := 38) dX3_add_37 rfl ?_
    refine R_putI (q := 41) dX3_add_38 fl_X3_18 rfl rfl ?_
    refine R_iconst (v := nI 1) (q := 42) dX3_add_41 (by decide) rfl ?_
    refine R_rz dX3_add_42 rfl (by decide) ?_
    refine Or.inr ⟨c1, rfl, ⟨uI_same _ _ _ _, ?_⟩, ((Fr.i (by simp)).tr (Fr.i (by simp))).tr (Fr.i (by simp))⟩
    intro i hi
    by_cases h : i = n
    · subst h
      simp [uI, uA, upd, fnU]
    · have h9 := hpv i (by omega)
      simp [uI, uA, upd, fnU, h, h9.1, h9.2]
  · refine R_iconst (v := nI 0) (q := 10) dX3_add_9 (by decide) rfl ?_
    refine R_rz dX3_add_10 rfl (by decide) ?_
    exact Or.inl ⟨by omega, rfl, rfl⟩
theorem l_isSo {n : Nat} {pl vs D : Nat → Nat} (hA : SeeA w n pl vs) (hn : n ≤ 6) (hb : ∀ i, i < n → pl i < 16 ∧ vs i < 20) (hD : ∀ k, k < 16 → w.1 [1, 7] k = nI (D k)) (hD2 : ∀ k, D k ≤ 20) : ∀ (f k : Nat), n ≤ k + f → k ≤ n → (∀ i, i < k → D (pl i) = vs i) → Wq X 0 d MX3_isSo 2 [(2, vI (nI k)), (0, vR 3 0 [5]), (1, vR 2 0 [7])] [] w (qI fun z w' => z = bI (∀ i, i < n → D (pl i) = vs i) ∧ w' = w) := by
  obtain ⟨hsz, hpv⟩ := id hA
  intro f
  induction f with
  | zero =>
    intro k h1 h2 h3
    refine R_iload_n (i := 2) (q := 3) dX3_isSo_2 rfl rfl rfl ?_
    refine R_aload_n (i := 0) (q := 4) dX3_isSo_3 rfl rfl rfl ?_
    refine R_getI' (q := 7) dX3_isSo_4 fl_X3_18 rfl (hsz) rfl ?_
    refine R_icmp_geN (by omega) (by omega) (tgt := 38) (q := 10) dX3_isSo_7 (by decide) rfl (fun c1 => ?_) (fun c1 => ?_)
    · refine R_iconst (v := nI 1) (q := 39) dX3_isSo_38 (by decide) rfl ?_
      refine R_rz dX3_isSo_39 rfl (by decide) ?_
      exact ⟨(bI_t (fun i hi => h3 i (by omega))).symm, rfl⟩
    · omega
  | succ f ih =>
    intro k h1 h2 h3
    refine R_iload_n (i := 2) (q := 3) dX3_isSo_2 rfl rfl rfl ?_
    refine R_aload_n (i := 0) (q := 4) dX3_isSo_3 rfl rfl rfl ?_
    refine R_getI' (q := 7) dX3_isSo_4 fl_X3_18 rfl (hsz) rfl ?_
    refine R_icmp_geN (by omega) (by omega) (tgt := 38) (q := 10) dX3_isSo_7 (by decide) rfl (fun c1 => ?_) (fun c1 => ?_)
    · refine R_iconst (v := nI 1) (q := 39) dX3_isSo_38 (by decide) rfl ?_
      refine R_rz dX3_isSo_39 rfl (by decide) ?_
      exact ⟨(bI_t (fun i hi => h3 i (by omega))).symm, rfl⟩
    · have hbk := hb k c1
      have hdk := hD2 (pl k)
      refine R_aload_n (i := 1) (q := 11) dX3_isSo_10 rfl rfl rfl ?_
      refine R_getR (q := 14) dX3_isSo_11 fl_X3_22 rfl (by decide) rfl ?_
      refine R_aload_n (i := 0) (q := 15) dX3_isSo_14 rfl rfl rfl ?_
      refine R_getR (q := 18) dX3_isSo_15 fl_X3_9 rfl (by decide) rfl ?_
      refine R_iload_n (i := 2) (q := 19) dX3_isSo_18 rfl rfl rfl ?_
      refine R_iald' (q := 20) dX3_isSo_19 (rfl) (by omega) (by decide) ((hpv k c1).1) rfl ?_
      refine R_iald' (q := 21) dX3_isSo_20 (rfl) (by omega) (by decide) (hD (pl k) hbk.1) rfl ?_
      refine R_aload_n (i := 0) (q := 22) dX3_isSo_21 rfl rfl rfl ?_
      refine R_getR (q := 25) dX3_isSo_22 fl_X3_15 rfl (by decide) rfl ?_
      refine R_iload_n (i := 2) (q := 26) dX3_isSo_25 rfl rfl rfl ?_
      refine R_iald' (q := 27) dX3_isSo_26 (rfl) (by omega) (by decide) ((hpv k c1).2) rfl ?_
      refine R_icmp_eqN (by omega) (by omega) (tgt := 32) (q := 30) dX3_isSo_27 (by decide) rfl (fun c2 => ?_) (fun c2 => ?_)
      · first | refine R_iincN (q := 35) (loc' := [(2, _), (0, _), (1, _)]) dX3_isSo_32 (by rfl) (by decide) (by rfl) rfl ?_ | refine R_iinc (q := 35) (loc' := [(2, _), (0, _), (1, _)]) dX3_isSo_32 (by rfl) (by rfl) (by decide) (by rfl) rfl ?_
        refine R_goto (q := 2) dX3_isSo_35 (by decide) ?_
        refine ih (k + 1) (by omega) (by omega) ?_
        intro i hi
        by_cases h : i = k
        · rw [h]; exact c2
        · exact h3 i (by omega)
      · refine R_iconst (v := nI 0) (q := 31) dX3_isSo_30 (by decide) rfl ?_
        refine R_rz dX3_isSo_31 rfl (by decide) ?_
        exact ⟨(bI_f (fun h => c2 (h k c1))).symm, rfl⟩
theorem c_isSo {n : Nat} {pl vs D : Nat → Nat} (hA : SeeA w n pl vs) (hn : n ≤ 6) (hb : ∀ i, i < n → pl i < 16 ∧ vs i < 20) (hD : ∀ k, k < 16 → w.1 [1, 7] k = nI (D k)) (hD2 : ∀ k, D k ≤ 20) : Ct X 0 d MX3_isSo [vR 3 0 [5], vR 2 0 [7]] w (qI fun z w' => z = bI (∀ i, i < n → D (pl i) = vs i) ∧ w' = w) := by
  refine Ct.of (by decide) rfl (Nat.le_of_ble_eq_true rfl) ?_
  show Wq _ _ _ _ 0 [(0, _), (1, _)] [] _ _
  refine R_iconst (v := nI 0) (q := 1) dX3_isSo_0 (by decide) rfl ?_
  refine R_istore_n (i := 2) (q := 2) (loc' := [(2, _), (0, _), (1, _)]) dX3_isSo_1 rfl (by decide) (by rfl) rfl ?_
  exact l_isSo hA hn hb hD hD2 n 0 (by omega) (by omega) (fun i hi => absurd hi (Nat.not_lt_zero i))
end AC
