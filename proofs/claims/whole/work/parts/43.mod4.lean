/-! the reference's whole state -/
def TexM (v : Wd) (n : Nat) (tx : Nat → Int32) : Prop := v.1 [] 1 = nI n ∧ ∀ i, i < n → v.1 [0] i = tx i
def PicM (v : Wd) (S : Pic) : Prop := DimA v S ∧ RowA v [5] S
def DiA (v : Wd) (L : List Pic) : Prop := ∃ n, n < 14 ∧ v.1 [] 8 = nI L.length ∧ v.1 [] 9 = nI n ∧ L.length ≤ 14 ∧ ∀ j S, L[j]? = some S → RowB v [7] (38 * ((n + 13 - j) % 14)) S
def KeM (v : Wd) (K : Nat → Option Pic) : Prop := ∀ i, i < 2 → (K i = none ∧ v.1 [11] i = nI 0) ∨ ∃ S, K i = some S ∧ v.1 [11] i = nI 1 ∧ RowB v [10] (38 * i) S
def SeM (v : Wd) (n : Nat) (pl vs : Nat → Nat) : Prop := v.1 [] 14 = nI n ∧ ∀ i, i < n → v.1 [12] i = nI (pl i) ∧ v.1 [13] i = nI (vs i)
def ModR (v : Wd) (A : Ab) : Prop := TexM v (aN A) (aX A) ∧ PicM v (aP A) ∧ DiA v (aA A) ∧ KeM v (aK A) ∧ SeM v (aM A) (aL A) (aV A) ∧ v.2 [] = aZ A
abbrev FSm : List (List Nat) := [[6], [16], [17], [18], [22]]
section FM
variable {v v' : Wd} {F : List (List Nat)} {K : List Nat}
theorem TexM.fm {n : Nat} {tx : Nat → Int32} (h : TexM v n tx) (hf : Fm F K v v') (h1 : 1 ∉ K) (h2 : [0] ∉ F) : TexM v' n tx := by
  unfold TexM
  rw [hf.2.2 1 h1, hf.2.1 [0] (by decide) h2]
  exact h
theorem RowA.fm {S : Pic} {q : List Nat} (h : RowA v q S) (hf : Fm F K v v') (h0 : q ≠ []) (h2 : q ∉ F) : RowA v' q S := by
  unfold RowA CelA
  rw [hf.2.1 q h0 h2]
  exact h
theorem RowB.fm {S : Pic} {q : List Nat} {o : Nat} (h : RowB v q o S) (hf : Fm F K v v') (h0 : q ≠ []) (h2 : q ∉ F) : RowB v' q o S := by
  unfold RowB
  rw [hf.2.1 q h0 h2]
  exact h
theorem DimA.fm {S : Pic} (h : DimA v S) (hf : Fm F K v v') (h2 : 2 ∉ K) (h3 : 3 ∉ K) (h4 : 4 ∉ K) : DimA v' S := by
  unfold DimA
  rw [hf.2.2 2 h2, hf.2.2 3 h3, hf.2.2 4 h4]
  exact h
theorem PicM.fm {S : Pic} (h : PicM v S) (hf : Fm F K v v') (h2 : 2 ∉ K) (h3 : 3 ∉ K) (h4 : 4 ∉ K) (h5 : [5] ∉ F) : PicM v' S := ⟨h.1.fm hf h2 h3 h4, h.2.fm hf (by decide) h5⟩
theorem DiA.fm {L : List Pic} (h : DiA v L) (hf : Fm F K v v') (h8 : 8 ∉ K) (h9 : 9 ∉ K) (h7 : [7] ∉ F) : DiA v' L := by
  obtain ⟨n, q1, q2, q3, q4, q5⟩ := h
  exact ⟨n, q1, by rw [hf.2.2 8 h8]; exact q2, by rw [hf.2.2 9 h9]; exact q3, q4, fun j S hj => (q5 j S hj).fm hf (by decide) h7⟩
theorem KeM.fm {Kp : Nat → Option Pic} (h : KeM v Kp) (hf : Fm F K v v') (h1 : [10] ∉ F) (h2 : [11] ∉ F) : KeM v' Kp := by
  intro i hi
  rw [hf.2.1 [11] (by decide) h2]
  rcases h i hi with h | ⟨S, e1, e2, e3⟩
  · exact Or.inl h
  · exact Or.inr ⟨S, e1, e2, e3.fm hf (by decide) h1⟩
theorem SeM.fm {n : Nat} {pl vs : Nat → Nat} (h : SeM v n pl vs) (hf : Fm F K v v') (h1 : 14 ∉ K) (h2 : [12] ∉ F) (h3 : [13] ∉ F) : SeM v' n pl vs := by
  unfold SeM
  rw [hf.2.2 14 h1, hf.2.1 [12] (by decide) h2, hf.2.1 [13] (by decide) h3]
  exact h
theorem ModR.sc {A : Ab} (h : ModR v A) (hf : Fm FSm KR v v') : ModR v' A := by
  obtain ⟨h1, h2, h3, h4, h5, h6⟩ := h
  exact ⟨h1.fm hf (by decide) (by decide), h2.fm hf (by decide) (by decide) (by decide) (by decide), h3.fm hf (by decide) (by decide) (by decide), h4.fm hf (by decide) (by decide), h5.fm hf (by decide) (by decide) (by decide), by rw [hf.1]; exact h6⟩
theorem ModR.act {v2 : Wd} {A : Ab} {S : Pic} (h : ModR v A) (h1 : DiA v' (aP A :: (aA A).take 13)) (hf : Fm [[7]] [8, 9] v v') (h2 : RowA v2 [5] S) (hd : dm S (aP A)) (hf2 : Fr [[5]] v' v2) : ModR v2 (nx A S) := by
  obtain ⟨q1, q2, q3, q4, q5, q6⟩ := h
  have hf3 : Fm [[5]] [] v' v2 := hf2.m (by decide) (fun q hq => hq)
  refine ⟨(q1.fm hf (by decide) (by decide)).fm hf3 (by decide) (by decide), ⟨?_, h2⟩, h1.fm hf3 (by decide) (by decide) (by decide), (q4.fm hf (by decide) (by decide)).fm hf3 (by decide) (by decide), (q5.fm hf (by decide) (by decide) (by decide)).fm hf3 (by decide) (by decide) (by decide), by rw [hf2.1, hf.1]; exact q6⟩
  have h9 := (q2.1.fm hf (by decide) (by decide) (by decide)).fm hf3 (by decide) (by decide) (by decide)
  unfold DimA
  rw [show pR (aP (nx A S)) = pR (aP A) from hd.1, show pC (aP (nx A S)) = pC (aP A) from hd.2.1, show pN (aP (nx A S)) = pN (aP A) from hd.2.2]
  exact h9
end FM
theorem RowA.cg {w : Wd} {q : List Nat} {S S' : Pic} (h : RowA w q S) (h3 : pN S' = pN S) (h4 : pH S' = pH S) (h5 : pL S' = pL S) (h6 : ∀ s, s < pN S → pro S' s = pro S s) (h7 : ∀ s, s < pN S → pco S' s = pco S s) (h8 : ∀ k, k < 16 → pdt S' k = pdt S k) : RowA w q S' := by
  obtain ⟨a, b, c, e⟩ := h
  refine ⟨?_, fun k hk => by rw [h8 k hk]; exact b k hk, by rw [h4]; exact c, by rw [h5]; exact e⟩
  intro s hs
  rw [h3] at hs
  rw [h6 s hs, h7 s hs]
  exact a s hs
theorem sw_id (f : Nat → Nat) (a b s : Nat) : f s = fnU (fnU (fnU (fnU f a (f b)) b (f a)) a (fnU (fnU f a (f b)) b (f a) b)) b (fnU (fnU f a (f b)) b (f a) a) s := by
  unfold fnU
  by_cases h1 : s = b
  · subst h1
    simp
    intro h2
    rw [h2]
  · by_cases h2 : s = a
    · subst h2
      simp [h1]
    · simp [h1, h2]
theorem sw_swM {w : Wd} {q : List Nat} {S : Pic} {a b : Nat} (h : RowA w q (swP (swP S a b) a b)) : RowA w q S := h.cg rfl rfl rfl (fun s _ => sw_id (pro S) a b s) (fun s _ => sw_id (pco S) a b s) (fun _ _ => rfl)
theorem RowA_sh {w : Wd} {q : List Nat} {S : Pic} {v : Nat} (hN : pN S ≤ 20) (h : RowA w q S) : RowA (uI w q 36 (nI v)) q (shP S v) := by
  obtain ⟨a, b, c, e⟩ := h
  refine ⟨fun s hs => ?_, fun k hk => ?_, uI_same _ _ _ _, ?_⟩
  · rw [uI_ne (by have : s < pN S := hs; omega)]
    exact a s hs
  · rw [uI_ne (by omega)]
    exact b k hk
  · rw [uI_ne (by decide)]
    exact e
theorem RowA_lo {w : Wd} {q : List Nat} {S : Pic} {v : Nat} (hN : pN S ≤ 20) (h : RowA w q S) : RowA (uI w q 37 (nI (pL S ^^^ 2 ^ v))) q (loP S v) := by
  obtain ⟨a, b, c, e⟩ := h
  refine ⟨fun s hs => ?_, fun k hk => ?_, ?_, uI_same _ _ _ _⟩
  · rw [uI_ne (by have : s < pN S := hs; omega)]
    exact a s hs
  · rw [uI_ne (by omega)]
    exact b k hk
  · rw [uI_ne (by decide)]
    exact c
theorem RowA_dt {w : Wd} {q : List Nat} {S : Pic} {k s : Nat} (hN : pN S ≤ 20) (hk : k < 16) (h : RowA w q S) : RowA (uI w q (20 + k) (nI s)) q (dtP S k s) := by
  obtain ⟨a, b, c, e⟩ := h
  refine ⟨fun t ht => ?_, fun j hj => ?_, ?_, ?_⟩
  · rw [uI_ne (by have : t < pN S := ht; omega)]
    exact a t ht
  · show _ = nI (fnU (pdt S) k s j)
    unfold fnU
    by_cases h2 : j = k
    · rw [if_pos h2, h2]
      exact uI_same _ _ _ _
    · rw [if_neg h2, uI_ne (by omega)]
      exact b j hj
  · rw [uI_ne (by omega)]
    exact c
  · rw [uI_ne (by omega)]
    exact e
theorem RowA_pu {w : Wd} {q : List Nat} {S : Pic} {s x y : Nat} (hN : pN S ≤ 20) (hs : s < pN S) (h : RowA w q S) : RowA (uI w q s (nI (6 * x + y))) q (puP S s x y) := by
  obtain ⟨a, b, c, e⟩ := h
  refine ⟨fun t ht => ?_, fun j hj => ?_, ?_, ?_⟩
  · show _ = nI (6 * fnU (pro S) s x t + fnU (pco S) s y t)
    unfold fnU
    by_cases h2 : t = s
    · rw [if_pos h2, if_pos h2, h2]
      exact uI_same _ _ _ _
    · rw [if_neg h2, if_neg h2, uI_ne h2]
      exact a t ht
  · rw [uI_ne (by omega)]
    exact b j hj
  · rw [uI_ne (by omega)]
    exact c
  · rw [uI_ne (by omega)]
    exact e
section MD
variable {X : Cx} {d : Nat} {w : Wd} {A : Ab}
theorem c_mwrite {x : Int32} (hR : ModR w A) (hA : AOK A) : Ct X 1 (d + 1) MX8_write [vR 8 0 [], vI x] w (qI fun z w' => z = (opWrite A x).1 ∧ ModR w' (opWrite A x).2) := by
  obtain ⟨h1, h2, h3, h4, h5, h6⟩ := id hR
  have h70 := hA.1
  unfold opWrite
  refine Ct.of (by decide) rfl (Nat.le_of_ble_eq_true rfl) ?_
  show Wq _ _ _ _ 0 [(0, _), (1, _)] [] _ _
  refine R_iload_n (i := 1) (q := 1) dX8_write_0 rfl rfl rfl ?_
  refine R_i2l (q := 2) dX8_write_1 rfl ?_
  refine R_lconst (v := 0) (q := 3) dX8_write_2 (by decide) rfl ?_
  refine R_ldc2 (q := 6) dX8_write_3 kc_X8_63 rfl ?_
  refine R_cS3i (M' := MX8_in) (q := 9) dX8_write_6 ml_X8_57 mk_X8_in (Nat.le_of_ble_eq_true rfl) rfl (c_in) ?_
  rintro _ w ⟨rfl, rfl⟩
  rw [bI_iff (in64 (n := 256) (by decide) rfl)]
  refine R_if_neB (tgt := 15) (q := 12) dX8_write_9 (by decide) rfl (fun c1 => ?_) (fun c1 => ?_)
  · rw [if_pos c1]
    refine R_aload_n (i := 0) (q := 16) dX8_write_15 rfl rfl rfl ?_
    refine R_getI' (q := 19) dX8_write_16 fl_X8_65 rfl (h1.1) rfl ?_
    refine R_bipush (v := nI 70) (q := 21) dX8_write_19 (by decide) rfl ?_
    refine R_icmp_neN (by omega) (by omega) (tgt := 27) (q := 24) dX8_write_21 (by decide) rfl (fun c2 => ?_) (fun c2 => ?_)
    · rw [if_pos (by omega)]
      refine R_aload_n (i := 0) (q := 28) dX8_write_27 rfl rfl rfl ?_
      refine R_getR (q := 31) dX8_write_28 fl_X8_7 rfl (by decide) rfl ?_
      refine R_aload_n (i := 0) (q := 32) dX8_write_31 rfl rfl rfl ?_
      refine R_getI' (q := 35) dX8_write_32 fl_X8_65 rfl (h1.1) rfl ?_
      refine R_iload_n (i := 1) (q := 36) dX8_write_35 rfl rfl rfl ?_
      refine R_iast (q := 37) dX8_write_36 (rfl) (by omega) (by decide) rfl ?_
      refine R_aload_n (i := 0) (q := 38) dX8_write_37 rfl rfl rfl ?_
      refine R_dup (q := 39) dX8_write_38 rfl rfl ?_
      refine R_getI' (q := 42) dX8_write_39 fl_X8_65 rfl ((uI_nep (by decide)).trans h1.1) rfl ?_
      refine R_iconst (v := nI 1) (q := 43) dX8_write_42 (by decide) rfl ?_
      first | refine R_iaddN (q := 44) dX8_write_43 rfl ?_ | refine R_iadd (q := 44) dX8_write_43 rfl ?_
      refine R_putI (q := 47) dX8_write_44 fl_X8_65 rfl rfl ?_
      refine R_aload_n (i := 0) (q := 48) dX8_write_47 rfl rfl rfl ?_
      refine R_getI' (q := 51) dX8_write_48 fl_X8_65 rfl (uI_same _ _ _ _) rfl ?_
      refine R_ri dX8_write_51 rfl ?_
      refine ⟨rfl, ?_⟩
      have hF : Fm [[0]] [1] w (uI (uI w [0] (aN A) x) [] 1 (nI (aN A + 1))) := (Fm.i (by decide) (by decide)).tr (Fm.f (by decide))
      refine ⟨⟨uI_same _ _ _ _, ?_⟩, h2.fm hF (by decide) (by decide) (by decide) (by decide), h3.fm hF (by decide) (by decide) (by decide), h4.fm hF (by decide) (by decide), h5.fm hF (by decide) (by decide) (by decide), h6⟩
      intro i hi
      have hi : i < aN A + 1 := hi
      rw [uI_nep (by decide)]
      show _ = fnU (aX A) (aN A) x i
      unfold fnU
      by_cases h : i = aN A
      · rw [if_pos h, h]
        exact uI_same _ _ _ _
      · rw [if_neg h, uI_ne h]
        exact h1.2 i (by omega)
    · rw [if_neg (by omega)]
      refine R_bipush (v := (-4)) (q := 26) dX8_write_24 (by decide) rfl ?_
      refine R_ri dX8_write_26 rfl ?_
      exact ⟨rfl, hR⟩
  · rw [if_neg c1]
    refine R_bipush (v := (-2)) (q := 14) dX8_write_12 (by decide) rfl ?_
    refine R_ri dX8_write_14 rfl ?_
    exact ⟨rfl, hR⟩
theorem c_mwipe (hR : ModR w A) : Ct X 1 d MX8_wipe [vR 8 0 []] w (qI fun z w' => z = nI (aN A) ∧ ModR w' (0, A.2)) := by
  obtain ⟨h1, h2, h3, h4, h5, h6⟩ := id hR
  refine Ct.of (by decide) rfl (Nat.le_of_ble_eq_true rfl) ?_
  show Wq _ _ _ _ 0 [(0, _)] [] _ _
  refine R_aload_n (i := 0) (q := 1) dX8_wipe_0 rfl rfl rfl ?_
  refine R_getI' (q := 4) dX8_wipe_1 fl_X8_65 rfl (h1.1) rfl ?_
  refine R_istore_n (i := 1) (q := 5) (loc' := [(1, _), (0, _)]) dX8_wipe_4 rfl (by decide) (by rfl) rfl ?_
  refine R_aload_n (i := 0) (q := 6) dX8_wipe_5 rfl rfl rfl ?_
  refine R_iconst (v := nI 0) (q := 7) dX8_wipe_6 (by decide) rfl ?_
  refine R_putI (q := 10) dX8_wipe_7 fl_X8_65 rfl rfl ?_
  refine R_iload_n (i := 1) (q := 11) dX8_wipe_10 rfl rfl rfl ?_
  refine R_ri dX8_wipe_11 rfl ?_
  have hF : Fm [] [1] w (uI w [] 1 (nI 0)) := Fm.f (by decide)
  exact ⟨rfl, ⟨uI_same _ _ _ _, fun i hi => absurd hi (Nat.not_lt_zero i)⟩, h2.fm hF (by decide) (by decide) (by decide) (by decide), h3.fm hF (by decide) (by decide) (by decide), h4.fm hF (by decide) (by decide), h5.fm hF (by decide) (by decide) (by decide), h6⟩
theorem RdQ.imp {tx : Nat → Int32} {n : Nat} {z : Int32} {P P' : Pic → Prop} (h : RdQ tx n z P) (hp : ∀ S, P S → P' S) : RdQ tx n z P' := by
  rcases h with h | ⟨st, h1, h2⟩
  · exact Or.inl h
  · exact Or.inr ⟨st, h1, h2.imp (fun h => ⟨h.1, h.2.1, h.2.2.1, hp _ h.2.2.2⟩) id⟩
theorem c_mfault (hR : ModR w A) (hA : AOK A) : Ct X 1 (d + 4) MX8_fault [vR 8 0 []] w (qI fun z w' => RdQ (aX A) (aN A) z (fun _ => True) ∧ ModR w' A) := by
  refine Ct.of (by decide) rfl (Nat.le_of_ble_eq_true rfl) ?_
  show Wq _ _ _ _ 0 [(0, _)] [] _ _
  refine R_aload_n (i := 0) (q := 1) dX8_fault_0 rfl rfl rfl ?_
  refine R_cV0i (M' := MX8_readText) (q := 4) dX8_fault_1 ml_X8_95 mk_X8_readText (Nat.le_of_ble_eq_true rfl) rfl (c_readText hA.1 hR.1.1 hR.1.2) ?_
  rintro z w1 ⟨hQ, hF⟩
  refine R_ri dX8_fault_4 rfl ?_
  exact ⟨hQ.imp (fun _ _ => trivial), hR.sc (hF.up (by decide) (by decide))⟩
theorem l_map1 {w0 : Wd} (Q : Option AV → Wd → Prop) (kk : ∀ w, (∀ j, j < 38 → w.1 [5] j = nI 0) → Fr [[5]] w0 w → Wq X 1 (d + 4) MX8_map 33 [(1, vI (nI 38)), (0, vR 8 0 [])] [] w Q) : ∀ (f k : Nat) (w : Wd), 38 ≤ k + f → k ≤ 38 → (∀ j, j < k → w.1 [5] j = nI 0) → Fr [[5]] w0 w → Wq X 1 (d + 4) MX8_map 14 [(1, vI (nI k)), (0, vR 8 0 [])] [] w Q := by
  intro f
  induction f with
  | zero =>
    intro k w h1 h2 hj hF
    refine R_iload_n (i := 1) (q := 15) dX8_map_14 rfl rfl rfl ?_
    refine R_bipush (v := nI 38) (q := 17) dX8_map_15 (by decide) rfl ?_
    refine R_icmp_geN (by omega) (by omega) (tgt := 33) (q := 20) dX8_map_17 (by decide) rfl (fun c1 => ?_) (fun c1 => ?_)
    · obtain rfl : k = 38 := by omega
      exact kk w hj hF
    · omega
  | succ f ih =>
    intro k w h1 h2 hj hF
    refine R_iload_n (i := 1) (q := 15) dX8_map_14 rfl rfl rfl ?_
    refine R_bipush (v := nI 38) (q := 17) dX8_map_15 (by decide) rfl ?_
    refine R_icmp_geN (by omega) (by omega) (tgt := 33) (q := 20) dX8_map_17 (by decide) rfl (fun c1 => ?_) (fun c1 => ?_)
    · obtain rfl : k = 38 := by omega
      exact kk w hj hF
    · refine R_aload_n (i := 0) (q := 21) dX8_map_20 rfl rfl rfl ?_
      refine R_getR (q := 24) dX8_map_21 fl_X8_13 rfl (by decide) rfl ?_
      refine R_iload_n (i := 1) (q := 25) dX8_map_24 rfl rfl rfl ?_
      refine R_iconst (v := nI 0) (q := 26) dX8_map_25 (by decide) rfl ?_
      refine R_iast (q := 27) dX8_map_26 (rfl) (by omega) (by decide) rfl ?_
      first | refine R_iincN (q := 30) (loc' := [(1, _), (0, _)]) dX8_map_27 (by rfl) (by decide) (by rfl) rfl ?_ | refine R_iinc (q := 30) (loc' := [(1, _), (0, _)]) dX8_map_27 (by rfl) (by rfl) (by decide) (by rfl) rfl ?_
      refine R_goto (q := 14) dX8_map_30 (by decide) ?_
      refine ih (k + 1) _ (by omega) (by omega) ?_ (hF.tr (Fr.i (by simp)))
      intro j hjk
      by_cases h : j = k
      · rw [h]; exact uI_same _ _ _ _
      · rw [uI_ne h]; exact hj j (by omega)
theorem l_map2 {w0 : Wd} {n : Nat} {C : Nat → Nat} (hn : n ≤ 20) (hn0 : w0.1 [] 4 = nI n) (hC : ∀ s, s < n → w0.1 [22] s = nI (C s)) (Q : Option AV → Wd → Prop) (kk : ∀ w, (∀ j, j < n → w.1 [5] j = nI (C j)) → (∀ j, n ≤ j → w.1 [5] j = w0.1 [5] j) → Fr [[5]] w0 w → Wq X 1 (d + 4) MX8_map 85 [(1, vI (nI n)), (0, vR 8 0 [])] [] w Q) : ∀ (f k : Nat) (w : Wd), n ≤ k + f → k ≤ n → (∀ j, j < k → w.1 [5] j = nI (C j)) → (∀ j, k ≤ j → w.1 [5] j = w0.1 [5] j) → Fr [[5]] w0 w → Wq X 1 (d + 4) MX8_map 59 [(1, vI (nI k)), (0, vR 8 0 [])] [] w Q := by
  intro f
  induction f with
  | zero =>
    intro k w h1 h2 hj hj2 hF
    have hs9 : w.1 [] 4 = nI n := by rw [hF.2 _ (by decide)]; exact hn0
    refine R_iload_n (i := 1) (q := 60) dX8_map_59 rfl rfl rfl ?_
    refine R_aload_n (i := 0) (q := 61) dX8_map_60 rfl rfl rfl ?_
    refine R_getI' (q := 64) dX8_map_61 fl_X8_54 rfl (hs9) rfl ?_
    refine R_icmp_geN (by omega) (by omega) (tgt := 85) (q := 67) dX8_map_64 (by decide) rfl (fun c1 => ?_) (fun c1 => ?_)
    · obtain rfl : k = n := by omega
      exact kk w hj hj2 hF
    · omega
  | succ f ih =>
    intro k w h1 h2 hj hj2 hF
    have hs9 : w.1 [] 4 = nI n := by rw [hF.2 _ (by decide)]; exact hn0
    refine R_iload_n (i := 1) (q := 60) dX8_map_59 rfl rfl rfl ?_
    refine R_aload_n (i := 0) (q := 61) dX8_map_60 rfl rfl rfl ?_
    refine R_getI' (q := 64) dX8_map_61 fl_X8_54 rfl (hs9) rfl ?_
    refine R_icmp_geN (by omega) (by omega) (tgt := 85) (q := 67) dX8_map_64 (by decide) rfl (fun c1 => ?_) (fun c1 => ?_)
    · obtain rfl : k = n := by omega
      exact kk w hj hj2 hF
    · have hc9 : w.1 [22] k = nI (C k) := by rw [hF.2 _ (by decide)]; exact hC k c1
      refine R_aload_n (i := 0) (q := 68) dX8_map_67 rfl rfl rfl ?_
      refine R_getR (q := 71) dX8_map_68 fl_X8_13 rfl (by decide) rfl ?_
      refine R_iload_n (i := 1) (q := 72) dX8_map_71 rfl rfl rfl ?_
      refine R_aload_n (i := 0) (q := 73) dX8_map_72 rfl rfl rfl ?_
      refine R_getR (q := 76) dX8_map_73 fl_X8_44 rfl (by decide) rfl ?_
      refine R_iload_n (i := 1) (q := 77) dX8_map_76 rfl rfl rfl ?_
      refine R_iald' (q := 78) dX8_map_77 (rfl) (by omega) (by decide) (hc9) rfl ?_
      refine R_iast (q := 79) dX8_map_78 (rfl) (by omega) (by decide) rfl ?_
      first | refine R_iincN (q := 82) (loc' := [(1, _), (0, _)]) dX8_map_79 (by rfl) (by decide) (by rfl) rfl ?_ | refine R_iinc (q := 82) (loc' := [(1, _), (0, _)]) dX8_map_79 (by rfl) (by rfl) (by decide) (by rfl) rfl ?_
      refine R_goto (q := 59) dX8_map_82 (by decide) ?_
      refine ih (k + 1) _ (by omega) (by omega) ?_ ?_ (hF.tr (Fr.i (by simp)))
      · intro j hjk
        by_cases h : j = k
        · rw [h]; exact uI_same _ _ _ _
        · rw [uI_ne h]; exact hj j (by omega)
      · intro j hjk
        rw [uI_ne (by omega)]
        exact hj2 j (by omega)
theorem c_mmap (hR : ModR w A) (hA : AOK A) : Ct X 1 (d + 4) MX8_map [vR 8 0 []] w (qI fun z w' => (z = -3 ∧ (∃ y, RdQ (aX A) (aN A) y (fun _ => True) ∧ ¬ y = -9) ∧ ModR w' A) ∨ ∃ st, rdL (aX A) (aN A) = some st ∧ (0 < aN A ∧ aN A % 3 = 0) ∧ z = nI st.2.2.1 ∧ ModR w' (aN A, aX A, rsP st, [], (fun _ => none), A.2.2.2.2.2)) := by
  refine Ct.of (by decide) rfl (Nat.le_of_ble_eq_true rfl) ?_
  show Wq _ _ _ _ 0 [(0, _)] [] _ _
  refine R_aload_n (i := 0) (q := 1) dX8_map_0 rfl rfl rfl ?_
  refine R_cV0i (M' := MX8_readText) (q := 4) dX8_map_1 ml_X8_95 mk_X8_readText (Nat.le_of_ble_eq_true rfl) rfl (c_readText hA.1 hR.1.1 hR.1.2) ?_
  rintro z w1 ⟨hQ, hF⟩
  have hR1 := hR.sc (hF.up (by decide) (by decide))
  refine R_bipush (v := (-9)) (q := 6) dX8_map_4 (by decide) rfl ?_
  refine R_icmp_eq (tgt := 12) (q := 9) dX8_map_6 (by decide) rfl (fun c1 => ?_) (fun c1 => ?_)
  · obtain ⟨st, e1, e2, e3, e4⟩ : ∃ st, rdL (aX A) (aN A) = some st ∧ 0 < aN A ∧ aN A % 3 = 0 ∧ ∃ st', rsP st = rsP st' ∧ RdM w1 st' (aN A) := by
      have hno : ∀ k, k ≤ 70 → nI k ≠ -9 := by decide
      rcases hQ with ⟨k, h1, h2, h3, h4⟩ | ⟨st, h1, ⟨h2, h3, h4, h5⟩ | ⟨h2, h3⟩⟩
      · exact absurd (h4.symm.trans c1) (hno k (by have := hA.1; omega))
      · exact ⟨st, h1, h2, h3, h5⟩
      · exact absurd (h3.symm.trans c1) (hno _ hA.1)
    have hI := RI_rd e1
    obtain ⟨st', es, m1, m2, m3, m4, -⟩ := e4
    have s1 : st.1 = st'.1 := congrArg (fun S : Pic => pR S) es
    have s2 : st.2.1 = st'.2.1 := congrArg (fun S : Pic => pC S) es
    have s3 : st.2.2.1 = st'.2.2.1 := congrArg (fun S : Pic => pN S) es
    have s4 : st.2.2.2.1 = st'.2.2.2.1 := congrArg (fun S : Pic => pro S) es
    have s5 : st.2.2.2.2.1 = st'.2.2.2.2.1 := congrArg (fun S : Pic => pco S) es
    rw [← s3] at m1 m2
    rw [← s4, ← s5] at m2
    rw [← s1] at m3
    rw [← s2] at m4
    have hn3 : 3 ≤ aN A := by omega
    have m3 := m3 (by omega)
    have m4 := m4 hn3
    refine R_iconst (v := nI 0) (q := 13) dX8_map_12 (by decide) rfl ?_
    refine R_istore_n (i := 1) (q := 14) (loc' := [(1, _), (0, _)]) dX8_map_13 rfl (by decide) (by rfl) rfl ?_
    refine l_map1 (w0 := w1) _ ?_ 38 0 w1 (by omega) (by omega) (fun j hj => absurd hj (Nat.not_lt_zero j)) Fr.rf
    intro w2 hz2 hF2
    have m1' : w2.1 [] 21 = nI st.2.2.1 := by rw [hF2.2 _ (by decide)]; exact m1
    have m3' : w2.1 [] 19 = nI st.1 := by rw [hF2.2 _ (by decide)]; exact m3
    have m4' : w2.1 [] 20 = nI st.2.1 := by rw [hF2.2 _ (by decide)]; exact m4
    refine R_aload_n (i := 0) (q := 34) dX8_map_33 rfl rfl rfl ?_
    refine R_aload_n (i := 0) (q := 35) dX8_map_34 rfl rfl rfl ?_
    refine R_getI' (q := 38) dX8_map_35 fl_X8_81 rfl (m3') rfl ?_
    refine R_putI (q := 41) dX8_map_38 fl_X8_47 rfl rfl ?_
    refine R_aload_n (i := 0) (q := 42) dX8_map_41 rfl rfl rfl ?_
    refine R_aload_n (i := 0) (q := 43) dX8_map_42 rfl rfl rfl ?_
    refine R_getI' (q := 46) dX8_map_43 fl_X8_71 rfl ((uI_ne (by decide)).trans m4') rfl ?_
    refine R_putI (q := 49) dX8_map_46 fl_X8_51 rfl rfl ?_
    refine R_aload_n (i := 0) (q := 50) dX8_map_49 rfl rfl rfl ?_
    refine R_aload_n (i := 0) (q := 51) dX8_map_50 rfl rfl rfl ?_
    refine R_getI' (q := 54) dX8_map_51 fl_X8_68 rfl ((uI_ne (by decide)).trans ((uI_ne (by decide)).trans m1')) rfl ?_
    refine R_putI (q := 57) dX8_map_54 fl_X8_54 rfl rfl ?_
    refine R_iconst (v := nI 0) (q := 58) dX8_map_57 (by decide) rfl ?_
    refine R_istore_n (i := 1) (q := 59) (loc' := [(1, _), (0, _)]) dX8_map_58 rfl (by decide) (by rfl) rfl ?_
    have hC : ∀ s, s < st.2.2.1 → (uI (uI (uI w2 [] 2 (nI st.1)) [] 3 (nI st.2.1)) [] 4 (nI st.2.2.1)).1 [22] s = nI (6 * st.2.2.2.1 s + st.2.2.2.2.1 s) := by
      intro s hs
      rw [uI_nep (by decide), uI_nep (by decide), uI_nep (by decide), hF2.2 _ (by decide)]
      exact m2 s hs
    refine l_map2 (w0 := uI (uI (uI w2 [] 2 (nI st.1)) [] 3 (nI st.2.1)) [] 4 (nI st.2.2.1)) (n := st.2.2.1) hI.2.2.1 (uI_same _ _ _ _) hC _ ?_ st.2.2.1 0 _ (by omega) (by omega) (fun j hj => absurd hj (Nat.not_lt_zero j)) (fun _ _ => rfl) Fr.rf
    intro w3 hc3 hz3 hF3
    have hz9 : ∀ j, st.2.2.1 ≤ j → j < 38 → w3.1 [5] j = nI 0 := by
      intro j h1 h2
      rw [hz3 j h1, uI_nep (by decide), uI_nep (by decide), uI_nep (by decide)]
      exact hz2 j h2
    have d4 : w3.1 [] 4 = nI st.2.2.1 := by rw [hF3.2 _ (by decide)]; exact uI_same _ _ _ _
    have d3 : w3.1 [] 3 = nI st.2.1 := by rw [hF3.2 _ (by decide)]; exact (uI_ne (by decide)).trans (uI_same _ _ _ _)
    have d2 : w3.1 [] 2 = nI st.1 := by rw [hF3.2 _ (by decide)]; exact (uI_ne (by decide)).trans ((uI_ne (by decide)).trans (uI_same _ _ _ _))
    refine R_aload_n (i := 0) (q := 86) dX8_map_85 rfl rfl rfl ?_
    refine R_getR (q := 89) dX8_map_86 fl_X8_13 rfl (by decide) rfl ?_
    refine R_bipush (v := nI 36) (q := 91) dX8_map_89 (by decide) rfl ?_
    refine R_iconst (v := nI 1) (q := 92) dX8_map_91 (by decide) rfl ?_
    refine R_iast (q := 93) dX8_map_92 (rfl) (by omega) (by decide) rfl ?_
    refine R_aload_n (i := 0) (q := 94) dX8_map_93 rfl rfl rfl ?_
    refine R_iconst (v := nI 0) (q := 95) dX8_map_94 (by decide) rfl ?_
    refine R_putI (q := 98) dX8_map_95 fl_X8_99 rfl rfl ?_
    refine R_aload_n (i := 0) (q := 99) dX8_map_98 rfl rfl rfl ?_
    refine R_getR (q := 102) dX8_map_99 fl_X8_25 rfl (by decide) rfl ?_
    refine R_iconst (v := nI 0) (q := 103) dX8_map_102 (by decide) rfl ?_
    refine R_iconst (v := nI 0) (q := 104) dX8_map_103 (by decide) rfl ?_
    refine R_zast (q := 105) dX8_map_104 (rfl) (by omega) (by decide) (by decide) rfl ?_
    refine R_aload_n (i := 0) (q := 106) dX8_map_105 rfl rfl rfl ?_
    refine R_getR (q := 109) dX8_map_106 fl_X8_25 rfl (by decide) rfl ?_
    refine R_iconst (v := nI 1) (q := 110) dX8_map_109 (by decide) rfl ?_
    refine R_iconst (v := nI 0) (q := 111) dX8_map_110 (by decide) rfl ?_
    refine R_zast (q := 112) dX8_map_111 (rfl) (by omega) (by decide) (by decide) rfl ?_
    refine R_aload_n (i := 0) (q := 113) dX8_map_112 rfl rfl rfl ?_
    refine R_getI' (q := 116) dX8_map_113 fl_X8_54 rfl ((uI_nep (by decide)).trans ((uI_nep (by decide)).trans ((uI_ne (by decide)).trans ((uI_nep (by decide)).trans d4)))) rfl ?_
    refine R_ri dX8_map_116 rfl ?_
    refine Or.inr ⟨st, e1, ⟨e2, e3⟩, rfl, ?_⟩
    have hG : Fm [[5], [11]] [2, 3, 4, 8] w1 (uI (uI (uI (uI w3 [5] 36 (nI 1)) [] 8 (nI 0)) [11] 0 (nI 0)) [11] 1 (nI 0)) := by
      refine ((((((hF2.m (by decide) (by decide)).tr ((Fm.f (by decide)).tr ((Fm.f (by decide)).tr (Fm.f (by decide))))).tr (hF3.m (by decide) (by decide))).tr (Fm.i (by decide) (by decide))).tr (Fm.f (by decide))).tr (Fm.i (by decide) (by decide))).tr (Fm.i (by decide) (by decide))
    obtain ⟨h1, h2, h3, h4, h5, h6⟩ := hR1
    refine ⟨h1.fm hG (by decide) (by decide), ⟨⟨?_, ?_, ?_⟩, ?_, ?_, ?_, ?_⟩, ?_, ?_, h5.fm hG (by decide) (by decide) (by decide), by rw [hG.1]; exact h6⟩
    · rw [uI_nep (by decide), uI_nep (by decide), uI_ne (by decide), uI_nep (by decide)]
      exact d2
    · rw [uI_nep (by decide), uI_nep (by decide), uI_ne (by decide), uI_nep (by decide)]
      exact d3
    · rw [uI_nep (by decide), uI_nep (by decide), uI_ne (by decide), uI_nep (by decide)]
      exact d4
    · intro s hs
      have hs : s < st.2.2.1 := hs
      have hl := hI.2.2.1
      rw [uI_nep (by decide), uI_nep (by decide), uI_nep (by decide), uI_ne (by omega)]
      exact hc3 s hs
    · intro k hk
      have hl := hI.2.2.1
      rw [uI_nep (by decide), uI_nep (by decide), uI_nep (by decide), uI_ne (by omega)]
      exact hz9 _ (by omega) (by omega)
    · rw [uI_nep (by decide), uI_nep (by decide), uI_nep (by decide)]
      exact uI_same _ _ _ _
    · have hl := hI.2.2.1
      rw [uI_nep (by decide), uI_nep (by decide), uI_nep (by decide), uI_ne (by decide)]
      exact hz9 _ (by omega) (by omega)
    · obtain ⟨n, q1, q2, q3, q4, q5⟩ := h3
      refine ⟨n, q1, ?_, ?_, Nat.zero_le _, fun j S hj => by cases hj⟩
      · rw [uI_nep (by decide), uI_nep (by decide)]
        exact uI_same _ _ _ _
      · rw [hG.2.2 9 (by decide)]
        exact q3
    · intro i hi
      refine Or.inl ⟨rfl, ?_⟩
      rcases (show i = 0 ∨ i = 1 by omega) with rfl | rfl
      · exact (uI_ne (by decide)).trans (uI_same _ _ _ _)
      · exact uI_same _ _ _ _
  · refine R_bipush (v := (-3)) (q := 11) dX8_map_9 (by decide) rfl ?_
    refine R_ri dX8_map_11 rfl ?_
    exact Or.inl ⟨rfl, ⟨z, hQ.imp (fun _ _ => trivial), c1⟩, hR1⟩
theorem c_changeOn {q : List Nat} {S : Pic} {a b : Nat} (hN : pN S ≤ 20) (ha : a < pN S) (hb : b < pN S) (hS : RowA w q S) : Ct X 1 d MX8_changeOn [vR 9 38 q, vI (nI a), vI (nI b)] w (qV fun w' => RowA w' q (swP S a b) ∧ Fr [q] w w') := by
  refine Ct.of (by decide) rfl (Nat.le_of_ble_eq_true rfl) ?_
  show Wq _ _ _ _ 0 [(0, _), (1, _), (2, _)] [] _ _
  refine R_aload_n (i := 0) (q := 1) dX8_changeOn_0 rfl rfl rfl ?_
  refine R_iload_n (i := 1) (q := 2) dX8_changeOn_1 rfl rfl rfl ?_
  refine R_iald' (q := 3) dX8_changeOn_2 (rfl) (by omega) (by decide) (hS.1 a ha) rfl ?_
  refine R_istore_n (i := 3) (q := 4) (loc' := [(3, _), (0, _), (1, _), (2, _)]) dX8_changeOn_3 rfl (by decide) (by rfl) rfl ?_
  refine R_aload_n (i := 0) (q := 5) dX8_changeOn_4 rfl rfl rfl ?_
  refine R_iload_n (i := 1) (q := 6) dX8_changeOn_5 rfl rfl rfl ?_
  refine R_aload_n (i := 0) (q := 7) dX8_changeOn_6 rfl rfl rfl ?_
  refine R_iload_n (i := 2) (q := 8) dX8_changeOn_7 rfl rfl rfl ?_
  refine R_iald' (q := 9) dX8_changeOn_8 (rfl) (by omega) (by decide) (hS.1 b hb) rfl ?_
  refine R_iast (q := 10) dX8_changeOn_9 (rfl) (by omega) (by decide) rfl ?_
  refine R_aload_n (i := 0) (q := 11) dX8_changeOn_10 rfl rfl rfl ?_
  refine R_iload_n (i := 2) (q := 12) dX8_changeOn_11 rfl rfl rfl ?_
  refine R_iload_n (i := 3) (q := 13) dX8_changeOn_12 rfl rfl rfl ?_
  refine R_iast (q := 14) dX8_changeOn_13 (rfl) (by omega) (by decide) rfl ?_
  refine R_rv dX8_changeOn_14 rfl ?_
  refine ⟨⟨?_, ?_, ?_, ?_⟩, (Fr.i (by simp)).tr (Fr.i (by simp))⟩
  · intro s hs
    show _ = nI (6 * fnU (fnU (pro S) a (pro S b)) b (pro S a) s + fnU (fnU (pco S) a (pco S b)) b (pco S a) s)
    unfold fnU
    by_cases h1 : s = b
    · rw [if_pos h1, if_pos h1, h1]
      exact uI_same _ _ _ _
    · rw [if_neg h1, if_neg h1, uI_ne h1]
      by_cases h2 : s = a
      · rw [if_pos h2, if_pos h2, h2]
        exact uI_same _ _ _ _
      · rw [if_neg h2, if_neg h2, uI_ne h2]
        exact hS.1 s hs
  · intro k hk
    rw [uI_ne (by omega), uI_ne (by omega)]
    exact hS.2.1 k hk
  · rw [uI_ne (by omega), uI_ne (by omega)]
    exact hS.2.2.1
  · rw [uI_ne (by omega), uI_ne (by omega)]
    exact hS.2.2.2
theorem l_mbc2 {S : Pic} {w0 : Wd} {a : Nat} {z : Int32 × Nat} (hn0 : w0.1 [] 4 = nI (pN S)) (hO : OKo S) (ha : a < pN S) (hz : z.2 ≤ 16000) (Q : Option AV → Wd → Prop) (kk : ∀ w, RowA w [6] S → Fr [[6]] w0 w → Wq X 1 (d + 4) MX8_bestChange 100 [(4, vI (nI (pN S))), (3, vI (nI a)), (2, vI (nI (bcB S a z (pN S - (a + 1))).2)), (1, vI (bcB S a z (pN S - (a + 1))).1), (0, vR 8 0 [])] [] w Q) : ∀ (f k : Nat) (w : Wd), pN S ≤ a + 1 + k + f → a + 1 + k ≤ pN S → RowA w [6] S → Fr [[6]] w0 w → Wq X 1 (d + 4) MX8_bestChange 38 [(4, vI (nI (a + 1 + k))), (3, vI (nI a)), (2, vI (nI (bcB S a z k).2)), (1, vI (bcB S a z k).1), (0, vR 8 0 [])] [] w Q := by
  have hN := hO.1
  intro f
  induction f with
  | zero =>
    intro k w h1 h2 hS hF
    have hn9 : w.1 [] 4 = nI (pN S) := by rw [hF.2 _ (by decide)]; exact hn0
    refine R_iload (q := 40) dX8_bestChange_38 rfl rfl ?_
    refine R_aload_n (i := 0) (q := 41) dX8_bestChange_40 rfl rfl rfl ?_
    refine R_getI' (q := 44) dX8_bestChange_41 fl_X8_54 rfl (hn9) rfl ?_
    refine R_icmp_geN (by omega) (by omega) (tgt := 100) (q := 47) dX8_bestChange_44 (by decide) rfl (fun c1 => ?_) (fun c1 => ?_)
    · have e := kk w hS hF
      rw [show pN S - (a + 1) = k by omega] at e
      rw [show a + 1 + k = pN S by omega]
      exact e
    · omega
  | succ f ih =>
    intro k w h1 h2 hS hF
    have hn9 : w.1 [] 4 = nI (pN S) := by rw [hF.2 _ (by decide)]; exact hn0
    refine R_iload (q := 40) dX8_bestChange_38 rfl rfl ?_
    refine R_aload_n (i := 0) (q := 41) dX8_bestChange_40 rfl rfl rfl ?_
    refine R_getI' (q := 44) dX8_bestChange_41 fl_X8_54 rfl (hn9) rfl ?_
    refine R_icmp_geN (by omega) (by omega) (tgt := 100) (q := 47) dX8_bestChange_44 (by decide) rfl (fun c1 => ?_) (fun c1 => ?_)
    · have e := kk w hS hF
      rw [show pN S - (a + 1) = k by omega] at e
      rw [show a + 1 + k = pN S by omega]
      exact e
    · have e := fun w => ih (k + 1) w (by omega) (by omega)
      simp only [bcB] at e
      have hb1 := bcB_bd (S := S) (a := a) hz hN k
      have hb2 := sdB_bd (S := swP S a (a + 1 + k)) hN
      refine R_aload_n (i := 0) (q := 48) dX8_bestChange_47 rfl rfl rfl ?_
      refine R_getR (q := 51) dX8_bestChange_48 fl_X8_16 rfl (by decide) rfl ?_
      refine R_iload_n (i := 3) (q := 52) dX8_bestChange_51 rfl rfl rfl ?_
      refine R_iload (q := 54) dX8_bestChange_52 rfl rfl ?_
      refine R_cS3v (M' := MX8_changeOn) (q := 57) dX8_bestChange_54 ml_X8_138 mk_X8_changeOn (Nat.le_of_ble_eq_true rfl) rfl (c_changeOn hN ha c1 hS) ?_
      rintro w1 ⟨hS1, hF1⟩
      have hn1 : w1.1 [] 4 = nI (pN (swP S a (a + 1 + k))) := by rw [hF1.2 _ (by decide)]; exact hn9
      refine R_aload_n (i := 0) (q := 58) dX8_bestChange_57 rfl rfl rfl ?_
      refine R_aload_n (i := 0) (q := 59) dX8_bestChange_58 rfl rfl rfl ?_
      refine R_getR (q := 62) dX8_bestChange_59 fl_X8_16 rfl (by decide) rfl ?_
      refine R_cV1i (M' := MX8_sides) (q := 65) dX8_bestChange_62 ml_X8_130 mk_X8_sides (Nat.le_of_ble_eq_true rfl) rfl (c_sides hn1 (hO.sw ha c1) hS1.1) ?_
      rintro _ w1 ⟨rfl, rfl⟩
      refine R_istore (q := 67) (loc' := [(5, _), (4, _), (3, _), (2, _), (1, _), (0, _)]) dX8_bestChange_65 (by decide) (by rfl) rfl ?_
      refine R_iload (q := 69) dX8_bestChange_67 rfl rfl ?_
      refine R_iload_n (i := 2) (q := 70) dX8_bestChange_69 rfl rfl rfl ?_
      refine R_icmp_geN (by omega) (by omega) (tgt := 84) (q := 73) dX8_bestChange_70 (by decide) rfl (fun c2 => ?_) (fun c2 => ?_)
      · have e2 := e
        rw [if_neg (by omega)] at e2
        refine R_aload_n (i := 0) (q := 85) dX8_bestChange_84 rfl rfl rfl ?_
        refine R_getR (q := 88) dX8_bestChange_85 fl_X8_16 rfl (by decide) rfl ?_
        refine R_iload_n (i := 3) (q := 89) dX8_bestChange_88 rfl rfl rfl ?_
        refine R_iload (q := 91) dX8_bestChange_89 rfl rfl ?_
        refine R_cS3v (M' := MX8_changeOn) (q := 94) dX8_bestChange_91 ml_X8_138 mk_X8_changeOn (Nat.le_of_ble_eq_true rfl) rfl (c_changeOn (S := swP S a (a + 1 + k)) hN ha c1 hS1) ?_
        rintro w3 ⟨hS3, hF3⟩
        first | refine R_iincN (q := 97) (loc' := [(4, _), (5, _), (3, _), (2, _), (1, _), (0, _)]) dX8_bestChange_94 (by rfl) (by decide) (by rfl) rfl ?_ | refine R_iinc (q := 97) (loc' := [(4, _), (5, _), (3, _), (2, _), (1, _), (0, _)]) dX8_bestChange_94 (by rfl) (by rfl) (by decide) (by rfl) rfl ?_
        refine R_goto (q := 38) dX8_bestChange_97 (by decide) ?_
        refine R_loc [0, 2, 3, 4, 5] (loc' := [(4, _), (3, _), (2, _), (1, _), (0, _)]) (by rfl) ?_
        exact e2 w3 (sw_swM hS3) ((hF.tr hF1).tr hF3)
      · have e2 := e
        rw [if_pos c2] at e2
        refine R_bipush (v := nI 100) (q := 75) dX8_bestChange_73 (by decide) rfl ?_
        refine R_iload_n (i := 3) (q := 76) dX8_bestChange_75 rfl rfl rfl ?_
        first | refine R_imulN (q := 77) dX8_bestChange_76 rfl ?_ | refine R_imul (q := 77) dX8_bestChange_76 rfl ?_
        refine R_iload (q := 79) dX8_bestChange_77 rfl rfl ?_
        first | refine R_iaddN (q := 80) dX8_bestChange_79 rfl ?_ | refine R_iadd (q := 80) dX8_bestChange_79 rfl ?_
        refine R_istore_n (i := 1) (q := 81) (loc' := [(1, _), (5, _), (4, _), (3, _), (2, _), (0, _)]) dX8_bestChange_80 rfl (by decide) (by rfl) rfl ?_
        refine R_iload (q := 83) dX8_bestChange_81 rfl rfl ?_
        refine R_istore_n (i := 2) (q := 84) (loc' := [(2, _), (1, _), (5, _), (4, _), (3, _), (0, _)]) dX8_bestChange_83 rfl (by decide) (by rfl) rfl ?_
        refine R_aload_n (i := 0) (q := 85) dX8_bestChange_84 rfl rfl rfl ?_
        refine R_getR (q := 88) dX8_bestChange_85 fl_X8_16 rfl (by decide) rfl ?_
        refine R_iload_n (i := 3) (q := 89) dX8_bestChange_88 rfl rfl rfl ?_
        refine R_iload (q := 91) dX8_bestChange_89 rfl rfl ?_
        refine R_cS3v (M' := MX8_changeOn) (q := 94) dX8_bestChange_91 ml_X8_138 mk_X8_changeOn (Nat.le_of_ble_eq_true rfl) rfl (c_changeOn (S := swP S a (a + 1 + k)) hN ha c1 hS1) ?_
        rintro w3 ⟨hS3, hF3⟩
        first | refine R_iincN (q := 97) (loc' := [(4, _), (2, _), (1, _), (5, _), (3, _), (0, _)]) dX8_bestChange_94 (by rfl) (by decide) (by rfl) rfl ?_ | refine R_iinc (q := 97) (loc' := [(4, _), (2, _), (1, _), (5, _), (3, _), (0, _)]) dX8_bestChange_94 (by rfl) (by rfl) (by decide) (by rfl) rfl ?_
        refine R_goto (q := 38) dX8_bestChange_97 (by decide) ?_
        refine R_loc [0, 4, 1, 2, 5] (loc' := [(4, _), (3, _), (2, _), (1, _), (0, _)]) (by rfl) ?_
        exact e2 w3 (sw_swM hS3) ((hF.tr hF1).tr hF3)
theorem l_mbc1 {S : Pic} {w0 : Wd} (hn0 : w0.1 [] 4 = nI (pN S)) (hO : OKo S) : ∀ (f a : Nat) (w : Wd), pN S ≤ a + f → a ≤ pN S → RowA w [6] S → Fr [[6]] w0 w → Wq X 1 (d + 4) MX8_bestChange 25 [(3, vI (nI a)), (2, vI (nI (bcA S a).2)), (1, vI (bcA S a).1), (0, vR 8 0 [])] [] w (qI fun x w' => x = (bcA S (pN S)).1 ∧ Fr [[6]] w0 w') := by
  have hN := hO.1
  intro f
  induction f with
  | zero =>
    intro a w h1 h2 hS hF
    have hn9 : w.1 [] 4 = nI (pN S) := by rw [hF.2 _ (by decide)]; exact hn0
    refine R_iload_n (i := 3) (q := 26) dX8_bestChange_25 rfl rfl rfl ?_
    refine R_aload_n (i := 0) (q := 27) dX8_bestChange_26 rfl rfl rfl ?_
    refine R_getI' (q := 30) dX8_bestChange_27 fl_X8_54 rfl (hn9) rfl ?_
    refine R_icmp_geN (by omega) (by omega) (tgt := 106) (q := 33) dX8_bestChange_30 (by decide) rfl (fun c1 => ?_) (fun c1 => ?_)
    · obtain rfl : a = pN S := by omega
      refine R_iload_n (i := 1) (q := 107) dX8_bestChange_106 rfl rfl rfl ?_
      refine R_ri dX8_bestChange_107 rfl ?_
      exact ⟨rfl, hF⟩
    · omega
  | succ f ih =>
    intro a w h1 h2 hS hF
    have hn9 : w.1 [] 4 = nI (pN S) := by rw [hF.2 _ (by decide)]; exact hn0
    refine R_iload_n (i := 3) (q := 26) dX8_bestChange_25 rfl rfl rfl ?_
    refine R_aload_n (i := 0) (q := 27) dX8_bestChange_26 rfl rfl rfl ?_
    refine R_getI' (q := 30) dX8_bestChange_27 fl_X8_54 rfl (hn9) rfl ?_
    refine R_icmp_geN (by omega) (by omega) (tgt := 106) (q := 33) dX8_bestChange_30 (by decide) rfl (fun c1 => ?_) (fun c1 => ?_)
    · obtain rfl : a = pN S := by omega
      refine R_iload_n (i := 1) (q := 107) dX8_bestChange_106 rfl rfl rfl ?_
      refine R_ri dX8_bestChange_107 rfl ?_
      exact ⟨rfl, hF⟩
    · refine R_iload_n (i := 3) (q := 34) dX8_bestChange_33 rfl rfl rfl ?_
      refine R_iconst (v := nI 1) (q := 35) dX8_bestChange_34 (by decide) rfl ?_
      first | refine R_iaddN (q := 36) dX8_bestChange_35 rfl ?_ | refine R_iadd (q := 36) dX8_bestChange_35 rfl ?_
      refine R_istore (q := 38) (loc' := [(4, _), (3, _), (2, _), (1, _), (0, _)]) dX8_bestChange_36 (by decide) (by rfl) rfl ?_
      refine l_mbc2 (w0 := w0) hn0 hO c1 (bcA_bd hN a) _ ?_ (pN S) 0 w (by omega) (by omega) hS hF
      intro w1 hS1 hF1
      first | refine R_iincN (q := 103) (loc' := [(3, _), (4, _), (2, _), (1, _), (0, _)]) dX8_bestChange_100 (by rfl) (by decide) (by rfl) rfl ?_ | refine R_iinc (q := 103) (loc' := [(3, _), (4, _), (2, _), (1, _), (0, _)]) dX8_bestChange_100 (by rfl) (by rfl) (by decide) (by rfl) rfl ?_
      refine R_goto (q := 25) dX8_bestChange_103 (by decide) ?_
      refine R_loc [0, 2, 3, 4] (loc' := [(3, _), (2, _), (1, _), (0, _)]) (by rfl) ?_
      exact ih (a + 1) w1 (by omega) (by omega) hS1 hF1
theorem c_mbestChange {S : Pic} (hS : PicM w S) (hO : OKo S) : Ct X 1 (d + 4) MX8_bestChange [vR 8 0 []] w (qI fun z w' => z = (bcA S (pN S)).1 ∧ Fr [[6]] w w') := by
  refine Ct.of (by decide) rfl (Nat.le_of_ble_eq_true rfl) ?_
  show Wq _ _ _ _ 0 [(0, _)] [] _ _
  refine R_bipush (v := (-9)) (q := 2) dX8_bestChange_0 (by decide) rfl ?_
  refine R_istore_n (i := 1) (q := 3) (loc' := [(1, _), (0, _)]) dX8_bestChange_2 rfl (by decide) (by rfl) rfl ?_
  refine R_aload_n (i := 0) (q := 4) dX8_bestChange_3 rfl rfl rfl ?_
  refine R_aload_n (i := 0) (q := 5) dX8_bestChange_4 rfl rfl rfl ?_
  refine R_getR (q := 8) dX8_bestChange_5 fl_X8_13 rfl (by decide) rfl ?_
  refine R_cV1i (M' := MX8_sides) (q := 11) dX8_bestChange_8 ml_X8_130 mk_X8_sides (Nat.le_of_ble_eq_true rfl) rfl (c_sides hS.1.2.2 hO hS.2.1) ?_
  rintro _ w ⟨rfl, rfl⟩
  refine R_istore_n (i := 2) (q := 12) (loc' := [(2, _), (1, _), (0, _)]) dX8_bestChange_11 rfl (by decide) (by rfl) rfl ?_
  refine R_aload_n (i := 0) (q := 13) dX8_bestChange_12 rfl rfl rfl ?_
  refine R_getR (q := 16) dX8_bestChange_13 fl_X8_13 rfl (by decide) rfl ?_
  refine R_aload_n (i := 0) (q := 17) dX8_bestChange_16 rfl rfl rfl ?_
  refine R_getR (q := 20) dX8_bestChange_17 fl_X8_16 rfl (by decide) rfl ?_
  refine R_cS2v (M' := MX8_copy) (q := 23) dX8_bestChange_20 ml_X8_134 mk_X8_copy (Nat.le_of_ble_eq_true rfl) rfl (c_mcopy (by decide) hO.1 hS.2) ?_
  rintro w2 ⟨hS2, hF2⟩
  refine R_iconst (v := nI 0) (q := 24) dX8_bestChange_23 (by decide) rfl ?_
  refine R_istore_n (i := 3) (q := 25) (loc' := [(3, _), (2, _), (1, _), (0, _)]) dX8_bestChange_24 rfl (by decide) (by rfl) rfl ?_
  exact l_mbc1 (w0 := w) hS.1.2.2 hO (pN S) 0 w2 (by omega) (by omega) hS2 hF2
end MD
