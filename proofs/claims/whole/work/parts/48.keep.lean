/-! what every call keeps -/
theorem OKS.df {S : Pic} (h : OKS S) {u v : Nat} (hu : u < pN S) (hv : v < pN S) (hne : u ≠ v) : ¬ (pro S u = pro S v ∧ pco S u = pco S v) := by
  rcases Nat.lt_or_ge u v with h1 | h1
  · exact h.2.2.2.2.2.2.1 u v h1 hv
  · intro h2
    exact h.2.2.2.2.2.2.1 v u (by omega) hu ⟨h2.1.symm, h2.2.symm⟩
def pi2 (a b s : Nat) : Nat := if s = b then a else if s = a then b else s
theorem fnU_pi (f : Nat → Nat) (a b s : Nat) : fnU (fnU f a (f b)) b (f a) s = f (pi2 a b s) := by
  unfold fnU pi2
  by_cases h1 : s = b
  · rw [if_pos h1, if_pos h1]
  · rw [if_neg h1, if_neg h1]
    by_cases h2 : s = a
    · rw [if_pos h2, if_pos h2]
    · rw [if_neg h2, if_neg h2]
theorem pi2_lt {a b s n : Nat} (ha : a < n) (hb : b < n) (hs : s < n) : pi2 a b s < n := by
  unfold pi2
  repeat' split
  all_goals omega
theorem pi2_ne {a b s t : Nat} (h : s ≠ t) : pi2 a b s ≠ pi2 a b t := by
  unfold pi2
  repeat' split
  all_goals omega
theorem OKS.sw {S : Pic} (h : OKS S) {a b : Nat} (ha : a < pN S) (hb : b < pN S) : OKS (swP S a b) := by
  obtain ⟨h1, h2, h3, h4, h5, h6, h7, h8⟩ := id h
  refine ⟨h1, h2, h3, h4, h5, ?_, ?_, h8⟩
  · intro s hs
    have hs : s < pN S := hs
    show fnU (fnU (pro S) a (pro S b)) b (pro S a) s < pR S ∧ fnU (fnU (pco S) a (pco S b)) b (pco S a) s < pC S
    rw [fnU_pi, fnU_pi]
    exact h6 _ (pi2_lt ha hb hs)
  · intro s t hst ht
    have ht : t < pN S := ht
    show ¬ (fnU (fnU (pro S) a (pro S b)) b (pro S a) s = fnU (fnU (pro S) a (pro S b)) b (pro S a) t ∧ fnU (fnU (pco S) a (pco S b)) b (pco S a) s = fnU (fnU (pco S) a (pco S b)) b (pco S a) t)
    rw [fnU_pi, fnU_pi, fnU_pi, fnU_pi]
    exact h.df (pi2_lt ha hb (by omega)) (pi2_lt ha hb ht) (pi2_ne (by omega))
theorem OKS.pu {S : Pic} (h : OKS S) {s a b : Nat} (ha : a < pR S) (hb : b < pC S) (hf : ∀ s, s < pN S → ¬ (pro S s = a ∧ pco S s = b)) : OKS (puP S s a b) := by
  obtain ⟨h1, h2, h3, h4, h5, h6, h7, h8⟩ := id h
  refine ⟨h1, h2, h3, h4, h5, ?_, ?_, h8⟩
  · intro t ht
    have ht : t < pN S := ht
    show fnU (pro S) s a t < pR S ∧ fnU (pco S) s b t < pC S
    unfold fnU
    by_cases e : t = s
    · rw [if_pos e, if_pos e]
      exact ⟨ha, hb⟩
    · rw [if_neg e, if_neg e]
      exact h6 t ht
  · intro t u htu hu
    have hu : u < pN S := hu
    show ¬ (fnU (pro S) s a t = fnU (pro S) s a u ∧ fnU (pco S) s b t = fnU (pco S) s b u)
    unfold fnU
    by_cases e : t = s
    · rw [if_pos e, if_pos e, if_neg (by omega), if_neg (by omega)]
      intro g
      exact hf u hu ⟨g.1.symm, g.2.symm⟩
    · rw [if_neg e, if_neg e]
      by_cases e2 : u = s
      · rw [if_pos e2, if_pos e2]
        exact hf t (by omega)
      · rw [if_neg e2, if_neg e2]
        exact h7 t u htu hu
theorem OKS.dt {S : Pic} (h : OKS S) {k s : Nat} (hs : s < pN S) : OKS (dtP S k s) := by
  obtain ⟨h1, h2, h3, h4, h5, h6, h7, h8⟩ := id h
  refine ⟨h1, h2, h3, h4, h5, h6, h7, ?_⟩
  intro j hj
  show fnU (pdt S) k s j < pN S ∨ (fnU (pdt S) k s j = 0 ∧ pN S = 0)
  unfold fnU
  by_cases e : j = k
  · rw [if_pos e]
    exact Or.inl hs
  · rw [if_neg e]
    exact h8 j hj
theorem OKS.sh {S : Pic} (h : OKS S) {v : Nat} (hv : v < 4) : OKS (shP S v) := by
  obtain ⟨h1, h2, h3, h4, h5, h6, h7, h8⟩ := id h
  exact ⟨h1, h2, h3, hv, h5, h6, h7, h8⟩
theorem OKS.lo {S : Pic} (h : OKS S) {v : Nat} (hv : v < 4) : OKS (loP S v) := by
  obtain ⟨h1, h2, h3, h4, h5, h6, h7, h8⟩ := id h
  exact ⟨h1, h2, h3, h4, (xor_fin _ h5 v hv).2, h6, h7, h8⟩
theorem OKS.la {S : Pic} (h : OKS S) {b : Nat} (hb : b < 6) (hc : pN S ≤ cw (pC S) b (pR S)) : OKS (layS S b) := by
  obtain ⟨h1, h2, h3, h4, h5, h6, h7, h8⟩ := id h
  refine ⟨h1, h2, h3, h4, h5, fun s hs => lay_in h1 h2 hb hs hc, ?_, h8⟩
  intro s t hst ht
  have ht : t < pN S := ht
  have hla := la_fin (pR S) (by omega) (pC S) (by omega) b hb h1.1 h2.1
  have hlt : t < (laT (pR S) (pC S) b (pR S + pC S - 1)).length := by rw [hla.1]; omega
  have hls : s < (laT (pR S) (pC S) b (pR S + pC S - 1)).length := by omega
  show ¬ ((if s < (laT (pR S) (pC S) b (pR S + pC S - 1)).length then ((laT (pR S) (pC S) b (pR S + pC S - 1)).getD s (0, 0)).1 else pro S s) = (if t < (laT (pR S) (pC S) b (pR S + pC S - 1)).length then ((laT (pR S) (pC S) b (pR S + pC S - 1)).getD t (0, 0)).1 else pro S t) ∧ (if s < (laT (pR S) (pC S) b (pR S + pC S - 1)).length then ((laT (pR S) (pC S) b (pR S + pC S - 1)).getD s (0, 0)).2 else pco S s) = (if t < (laT (pR S) (pC S) b (pR S + pC S - 1)).length then ((laT (pR S) (pC S) b (pR S + pC S - 1)).getD t (0, 0)).2 else pco S t))
  rw [if_pos hls, if_pos hlt, if_pos hls, if_pos hlt, List.getD_eq_getElem?_getD, List.getD_eq_getElem?_getD, List.getElem?_eq_getElem hls, List.getElem?_eq_getElem hlt]
  rintro ⟨g1, g2⟩
  have g1 : ((laT (pR S) (pC S) b (pR S + pC S - 1))[s]).1 = ((laT (pR S) (pC S) b (pR S + pC S - 1))[t]).1 := g1
  have g2 : ((laT (pR S) (pC S) b (pR S + pC S - 1))[s]).2 = ((laT (pR S) (pC S) b (pR S + pC S - 1))[t]).2 := g2
  have := va_nd_inj _ hla.2.2.2 s t (6 * ((laT (pR S) (pC S) b (pR S + pC S - 1))[s]).1 + ((laT (pR S) (pC S) b (pR S + pC S - 1))[s]).2) (by rw [List.getElem?_map, List.getElem?_eq_getElem hls]; rfl) (by rw [List.getElem?_map, List.getElem?_eq_getElem hlt, g1, g2]; rfl)
  omega
theorem OKS.rs {st : RS} {k : Nat} (h : RI st k) : OKS (rsP st) := by
  obtain ⟨h1, h2, h3, h4, h5, -⟩ := h
  refine ⟨h1, h2, h3, (by decide : 1 < 4), (by decide : 0 < 16), h4, h5, ?_⟩
  intro j hj
  show 0 < st.2.2.1 ∨ (0 = 0 ∧ st.2.2.1 = 0)
  omega
theorem dm.tr {S T U : Pic} (h : dm S T) (h2 : dm T U) : dm S U := ⟨h.1.trans h2.1, h.2.1.trans h2.2.1, h.2.2.trans h2.2.2⟩
theorem dm.sy {S T : Pic} (h : dm S T) : dm T S := ⟨h.1.symm, h.2.1.symm, h.2.2.symm⟩
theorem AOK.nx {A : Ab} {S : Pic} (h : AOK A) (hS : OKS S) (hd : dm S (aP A)) : AOK (nx A S) := by
  obtain ⟨h1, h2, h3, h4, h5, h6, h7⟩ := h
  refine ⟨h1, hS, ?_, ?_, fun i T hT => ⟨(h5 i T hT).1, (h5 i T hT).2.tr hd.sy⟩, h6, h7⟩
  · show (aP A :: (aA A).take 13).length ≤ 14
    rw [List.length_cons, List.length_take]
    omega
  · intro T hT
    have hT : T ∈ aP A :: (aA A).take 13 := hT
    rcases List.mem_cons.mp hT with rfl | hT
    · exact ⟨h2, hd.sy⟩
    · have := h4 T (List.mem_of_mem_take hT)
      exact ⟨this.1, this.2.tr hd.sy⟩
theorem K_write {A : Ab} (h : AOK A) (x : Int32) : AOK (opWrite A x).2 := by
  unfold opWrite
  by_cases c1 : inN x 256
  · rw [if_pos c1]
    by_cases c2 : aN A < 70
    · rw [if_pos c2]
      exact ⟨by show aN A + 1 ≤ 70; omega, h.2⟩
    · rw [if_neg c2]
      exact h
  · rw [if_neg c1]
    exact h
theorem K_wipe {A : Ab} (h : AOK A) : AOK (0, A.2) := ⟨Nat.zero_le _, h.2⟩
theorem K_map {A : Ab} (h : AOK A) {st : RS} (e : rdL (aX A) (aN A) = some st) : AOK (aN A, aX A, rsP st, [], (fun _ => none), A.2.2.2.2.2) := by
  obtain ⟨h1, h2, h3, h4, h5, h6⟩ := h
  exact ⟨h1, OKS.rs (RI_rd e), Nat.zero_le _, fun S hS => (by cases hS), fun i S hS => (by cases hS), h6⟩
theorem K_change {A : Ab} (h : AOK A) (x y : Int32) : AOK (opChange A x y).2 := by
  have hN := h.2.1.2.2.1
  unfold opChange
  by_cases c1 : inN x (pN (aP A)) ∧ inN y (pN (aP A))
  · rw [if_pos c1]
    by_cases c2 : x = y
    · rw [if_pos c2]
      exact h
    · rw [if_neg c2]
      obtain ⟨a, ha, rfl⟩ := inN_ex (by omega) c1.1
      obtain ⟨b, hb, rfl⟩ := inN_ex (by omega) c1.2
      rw [cl_nI (by omega), cl_nI (by omega)]
      exact h.nx (h.2.1.sw ha hb) dm.rf
  · rw [if_neg c1]
    exact h
theorem K_move {A : Ab} (h : AOK A) (x y z : Int32) : AOK (opMove A x y z).2 := by
  obtain ⟨g1, g2, hN, -⟩ := id h.2.1
  unfold opMove
  by_cases c1 : inN x (pN (aP A)) ∧ inN y (pR (aP A)) ∧ inN z (pC (aP A))
  · rw [if_pos c1]
    by_cases c2 : ∀ s, s < pN (aP A) → ¬ (pro (aP A) s = cl y ∧ pco (aP A) s = cl z)
    · rw [if_pos c2]
      obtain ⟨a, ha, rfl⟩ := inN_ex (by omega) c1.2.1
      obtain ⟨b, hb, rfl⟩ := inN_ex (by omega) c1.2.2
      rw [cl_nI (by omega), cl_nI (by omega)] at c2 ⊢
      exact h.nx (h.2.1.pu ha hb c2) dm.rf
    · rw [if_neg c2]
      exact h
  · rw [if_neg c1]
    exact h
theorem K_lay {A : Ab} (h : AOK A) (x : Int32) : AOK (opLay A x).2 := by
  unfold opLay
  by_cases c1 : inN x 6
  · rw [if_pos c1]
    by_cases c2 : pN (aP A) ≤ cw (pC (aP A)) (cl x) (pR (aP A))
    · rw [if_pos c2]
      obtain ⟨a, ha, rfl⟩ := inN_ex (by decide) c1
      rw [cl_nI (by omega)] at c2 ⊢
      exact h.nx (h.2.1.la ha c2) dm.rf
    · rw [if_neg c2]
      exact h
  · rw [if_neg c1]
    exact h
theorem K_paint {A : Ab} (h : AOK A) (x y z : Int32) : AOK (opPaint A x y z).2 := by
  have hN := h.2.1.2.2.1
  unfold opPaint
  by_cases c1 : inN x 4 ∧ inN y 4 ∧ inN z (pN (aP A))
  · rw [if_pos c1]
    obtain ⟨a, ha, rfl⟩ := inN_ex (by omega) c1.2.2
    rw [cl_nI (k := a) (by omega)]
    exact h.nx (h.2.1.dt ha) dm.rf
  · rw [if_neg c1]
    exact h
theorem K_shift {A : Ab} (h : AOK A) (x : Int32) : AOK (opShift A x).2 := by
  unfold opShift
  by_cases c1 : inN x 4
  · rw [if_pos c1]
    obtain ⟨a, ha, rfl⟩ := inN_ex (by decide) c1
    rw [cl_nI (by omega)]
    exact h.nx (h.2.1.sh ha) dm.rf
  · rw [if_neg c1]
    exact h
theorem K_lose {A : Ab} (h : AOK A) (x : Int32) : AOK (opLose A x).2 := by
  unfold opLose
  by_cases c1 : inN x 4
  · rw [if_pos c1]
    obtain ⟨a, ha, rfl⟩ := inN_ex (by decide) c1
    rw [cl_nI (by omega)]
    exact h.nx (h.2.1.lo ha) dm.rf
  · rw [if_neg c1]
    exact h
theorem K_undo {A : Ab} (h : AOK A) : AOK (opUndo A).2 := by
  unfold opUndo
  obtain ⟨h1, h2, h3, h4, h5, h6⟩ := id h
  cases hl : aA A with
  | nil => exact h
  | cons S L =>
    have hS := h4 S (by rw [hl]; exact List.mem_cons_self)
    have hlen : (aA A).length = L.length + 1 := by rw [hl]; rfl
    refine ⟨h1, hS.1, by show L.length ≤ 14; omega, ?_, ?_, h6⟩
    · intro T hT
      have := h4 T (by rw [hl]; exact List.mem_cons_of_mem _ hT)
      exact ⟨this.1, this.2.tr hS.2.sy⟩
    · intro i T hT
      have := h5 i T hT
      exact ⟨this.1, this.2.tr hS.2.sy⟩
theorem K_see {A : Ab} (h : AOK A) (x y z : Int32) : AOK (opSee A x y z).2 := by
  unfold opSee
  by_cases c1 : inN x 4 ∧ inN y 4
  · rw [if_pos c1]
    by_cases c2 : inN z 20
    · rw [if_pos c2]
      by_cases c3 : aM A < 6
      · rw [if_pos c3]
        obtain ⟨a, ha, rfl⟩ := inN_ex (by decide) c1.1
        obtain ⟨b, hb, rfl⟩ := inN_ex (by decide) c1.2
        obtain ⟨v, hv, rfl⟩ := inN_ex (by decide) c2
        rw [cl_nI (k := a) (by omega), cl_nI (k := b) (by omega), cl_nI (k := v) (by omega)]
        obtain ⟨h1, h2, h3, h4, h5, h6, h7⟩ := h
        refine ⟨h1, h2, h3, h4, h5, by show aM A + 1 ≤ 6; omega, ?_⟩
        intro i hi
        have hi : i < aM A + 1 := hi
        show fnU (aL A) (aM A) (a * 4 + b) i < 16 ∧ fnU (aV A) (aM A) v i < 20
        unfold fnU
        by_cases e : i = aM A
        · rw [if_pos e, if_pos e]
          omega
        · rw [if_neg e, if_neg e]
          exact h7 i (by omega)
      · rw [if_neg c3]
        exact h
    · rw [if_neg c2]
      exact h
  · rw [if_neg c1]
    exact h
theorem K_unsee {A : Ab} (h : AOK A) : AOK (opUnsee A).2 := by
  obtain ⟨h1, h2, h3, h4, h5, h6, h7⟩ := h
  exact ⟨h1, h2, h3, h4, h5, Nat.zero_le _, fun i hi => absurd hi (Nat.not_lt_zero i)⟩
theorem K_seed {A : Ab} (h : AOK A) (v : Int64) : AOK (opSeed A v).2 := h
theorem K_drawn {A : Ab} (h : AOK A) (x : Int32) : AOK (opDrawn A x).2 := by
  unfold opDrawn
  split
  · exact h
  · exact h
theorem K_keep {A : Ab} (h : AOK A) (x : Int32) : AOK (opKeep A x).2 := by
  unfold opKeep
  by_cases c1 : inN x 2
  · rw [if_pos c1]
    obtain ⟨h1, h2, h3, h4, h5, h6⟩ := h
    refine ⟨h1, h2, h3, h4, ?_, h6⟩
    intro i S hS
    have hS : fnU (aK A) (cl x) (some (aP A)) i = some S := hS
    unfold fnU at hS
    by_cases e : i = cl x
    · rw [if_pos e] at hS
      cases hS
      exact ⟨h2, dm.rf⟩
    · rw [if_neg e] at hS
      exact h5 i S hS
  · rw [if_neg c1]
    exact h
theorem K_again {A : Ab} (h : AOK A) (x : Int32) : AOK (opAgain A x).2 := by
  unfold opAgain
  by_cases c1 : inN x 2
  · rw [if_pos c1]
    obtain ⟨h1, h2, h3, h4, h5, h6⟩ := id h
    cases e : aK A (cl x) with
    | none => exact h
    | some S =>
      have hS := h5 _ S e
      refine ⟨h1, hS.1, Nat.zero_le _, fun T hT => (by cases hT), ?_, h6⟩
      intro i T hT
      have := h5 i T hT
      exact ⟨this.1, this.2.tr hS.2.sy⟩
  · rw [if_neg c1]
    exact h
/-! the answers are the same -/
theorem rdL_up {tx : Nat → Int32} {k : Nat} (h : rdL tx k = none) : ∀ j, rdL tx (k + j) = none
  | 0 => h
  | j + 1 => by
    show (match rdL tx (k + j) with | none => none | some st => rst st (k + j) (tx (k + j))) = none
    rw [rdL_up h j]
theorem RdQ.det {tx : Nat → Int32} {n : Nat} {z z' : Int32} {P P' : Pic → Prop} (h : RdQ tx n z P) (h' : RdQ tx n z' P') : z = z' := by
  have key : ∀ k m st, rdL tx (k + 1) = none → rdL tx m = some st → m ≤ k := by
    intro k m st a b
    rcases Nat.lt_or_ge k m with c | c
    · have := rdL_up a (m - (k + 1))
      rw [show k + 1 + (m - (k + 1)) = m by omega, b] at this
      cases this
    · exact c
  rcases h with ⟨k, a1, ⟨s1, a2⟩, a3, a4⟩ | ⟨st, a1, a2⟩
  · rcases h' with ⟨k', b1, ⟨s2, b2⟩, b3, b4⟩ | ⟨st', b1, b2⟩
    · have e1 := key k k' s2 a3 b2
      have e2 := key k' k s1 b3 a2
      rw [a4, b4, show k = k' by omega]
    · have e1 := key k n st' a3 b1
      omega
  · rcases h' with ⟨k', b1, ⟨s2, b2⟩, b3, b4⟩ | ⟨st', b1, b2⟩
    · have e1 := key k' n st b3 a1
      omega
    · rcases a2 with ⟨a2, a3, a4, -⟩ | ⟨a2, a3⟩
      · rcases b2 with ⟨b2, b3, b4, -⟩ | ⟨b2, b3⟩
        · rw [a4, b4]
        · exact absurd ⟨a2, a3⟩ b2
      · rcases b2 with ⟨b2, b3, b4, -⟩ | ⟨b2, b3⟩
        · exact absurd ⟨b2, b3⟩ a2
        · rw [a3, b3]
theorem ShA.det {S : Pic} {r c : Nat} {x y : Int32} (hS : OKS S) (h : ShA S r c x) (h' : ShA S r c y) : x = y := by
  rcases h with ⟨s, a1, a2, a3, a4⟩ | ⟨a1, a2⟩
  · rcases h' with ⟨t, b1, b2, b3, b4⟩ | ⟨b1, b2⟩
    · by_cases e : s = t
      · rw [a4, b4, e]
      · exact absurd ⟨a2.trans b2.symm, a3.trans b3.symm⟩ (hS.df a1 b1 e)
    · exact absurd ⟨a2, a3⟩ (b1 s a1)
  · rcases h' with ⟨t, b1, b2, b3, b4⟩ | ⟨b1, b2⟩
    · exact absurd ⟨b2, b3⟩ (a1 t b1)
    · rw [a2, b2]
theorem QCell.det {A : Ab} {r c x y : Int32} (hS : OKS (aP A)) (h : QCell A r c x) (h' : QCell A r c y) : x = y := by
  rcases h with ⟨a1, a2, a3⟩ | ⟨a1, a2⟩
  · rcases h' with ⟨b1, b2, b3⟩ | ⟨b1, b2⟩
    · exact a3.det hS b3
    · exact absurd ⟨a1, a2⟩ b1
  · rcases h' with ⟨b1, b2, b3⟩ | ⟨b1, b2⟩
    · exact absurd ⟨b1, b2⟩ a1
    · rw [a2, b2]
/-- one call of map() on both sides -/
def MapQ (A : Ab) (z : Int32) (A' : Ab) : Prop := (z = -3 ∧ (∃ y, RdQ (aX A) (aN A) y (fun _ => True) ∧ ¬ y = -9) ∧ A' = A) ∨ ∃ st, rdL (aX A) (aN A) = some st ∧ (0 < aN A ∧ aN A % 3 = 0) ∧ z = nI st.2.2.1 ∧ A' = (aN A, aX A, rsP st, [], (fun _ => none), A.2.2.2.2.2)
theorem MapQ.det {A : Ab} {z z' : Int32} {A1 A2 : Ab} (h : MapQ A z A1) (h' : MapQ A z' A2) : z = z' ∧ A1 = A2 := by
  have key : ∀ (st : RS) (y : Int32), rdL (aX A) (aN A) = some st → (0 < aN A ∧ aN A % 3 = 0) → RdQ (aX A) (aN A) y (fun _ => True) → y = -9 := by
    intro st y a b c
    exact c.det (P' := fun _ => True) (Or.inr ⟨st, a, Or.inl ⟨b.1, b.2, rfl, trivial⟩⟩)
  rcases h with ⟨a1, ⟨y, a2, a3⟩, a4⟩ | ⟨st, a1, a2, a3, a4⟩
  · rcases h' with ⟨b1, -, b4⟩ | ⟨st', b1, b2, b3, b4⟩
    · exact ⟨a1.trans b1.symm, a4.trans b4.symm⟩
    · exact absurd (key st' y b1 b2 a2) a3
  · rcases h' with ⟨b1, ⟨y, b2, b3⟩, b4⟩ | ⟨st', b1, b2, b3, b4⟩
    · exact absurd (key st y a1 a2 b2) b3
    · have e : st = st' := by
        rw [a1] at b1
        exact Option.some.inj b1
      rw [a3, a4, b3, b4, e]
      exact ⟨rfl, rfl⟩
theorem K_mapQ {A A' : Ab} {z : Int32} (h : AOK A) (hq : MapQ A z A') : AOK A' := by
  rcases hq with ⟨-, -, rfl⟩ | ⟨st, e, -, -, rfl⟩
  · exact h
  · exact K_map h e
theorem W_cls {w w' : Wd} {A : Ab} {x z : Int32} (h : (¬ inN x 256 ∧ z = -2 ∧ ClsR w' A) ∨ (inN x 256 ∧ aN A = 70 ∧ z = -4 ∧ ClsR w' A) ∨ (inN x 256 ∧ aN A < 70 ∧ z = nI (aN A + 1) ∧ ClsR w' (aN A + 1, fnU (aX A) (aN A) x, A.2.2))) : z = (opWrite A x).1 ∧ ClsR w' (opWrite A x).2 := by
  unfold opWrite
  rcases h with ⟨h1, h2, h3⟩ | ⟨h1, h2, h3, h4⟩ | ⟨h1, h2, h3, h4⟩
  · rw [if_neg h1]
    exact ⟨h2, h3⟩
  · rw [if_pos h1, if_neg (by omega)]
    exact ⟨h3, h4⟩
  · rw [if_pos h1, if_pos h2]
    exact ⟨h3, h4⟩
