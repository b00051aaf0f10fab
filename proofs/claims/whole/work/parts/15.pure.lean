section RT
variable {X : Cx} {r d : Nat} {M : Mth} {pc q : Nat} {loc : Lo} {w : Wd}
theorem R_ri {v : Int32} {P : Int32 → Wd → Prop} (hd : decode M.2.1 pc = .ok (.ireturn, 1)) (hr : M.2.2.2.1 = some .int) (h : P v w) : Wq X r d M pc loc [vI v] w (qI P) := R_iret hd hr ⟨v, rfl, h⟩
theorem R_rz {v : Int32} {P : Int32 → Wd → Prop} (hd : decode M.2.1 pc = .ok (.ireturn, 1)) (hr : M.2.2.2.1 = some .boolean) (hv : v &&& 1 = v) (h : P v w) : Wq X r d M pc loc [vI v] w (qI P) := R_zret hd hr hv ⟨v, rfl, h⟩
theorem R_rl {v : Int64} {P : Int64 → Wd → Prop} (hd : decode M.2.1 pc = .ok (.lreturn, 1)) (hr : M.2.2.2.1 = some .long) (h : P v w) : Wq X r d M pc loc [vL v] w (qL P) := R_lret hd hr ⟨v, rfl, h⟩
theorem R_rv {P : Wd → Prop} (hd : decode M.2.1 pc = .ok (.return_, 1)) (hr : M.2.2.2.1 = none) (h : P w) : Wq X r d M pc loc [] w (qV P) := R_vret hd hr ⟨rfl, h⟩
theorem Ct.monoI {as : List AV} {P P' : Int32 → Wd → Prop} (hy : plainName M.1.cls = true) (ho : M.1.cls = M.2.2.2.2) (h : Ct X r d M as w (qI P)) (hq : ∀ x w', P x w' → P' x w') : Ct X r d M as w (qI P') := h.mono hy ho (fun rv w' h => by obtain ⟨x, e, h⟩ := h; exact ⟨x, e, hq x w' h⟩)
theorem Ct.monoV {as : List AV} {P P' : Wd → Prop} (hy : plainName M.1.cls = true) (ho : M.1.cls = M.2.2.2.2) (h : Ct X r d M as w (qV P)) (hq : ∀ w', P w' → P' w') : Ct X r d M as w (qV P') := h.mono hy ho (fun rv w' h => ⟨h.1, hq w' h.2⟩)
end RT
theorem one7 : ∀ j, (fk 7 j).1 = 101 → j = 9 := by
  intro j h
  match j, h with
  | 9, _ => rfl
  | 0, h => exact absurd h (by decide)
  | 1, h => exact absurd h (by decide)
  | 2, h => exact absurd h (by decide)
  | 3, h => exact absurd h (by decide)
  | 4, h => exact absurd h (by decide)
  | 5, h => exact absurd h (by decide)
  | 6, h => exact absurd h (by decide)
  | 7, h => exact absurd h (by decide)
  | 8, h => exact absurd h (by decide)
  | n + 10, h => exact absurd h (by simp [fk])
theorem one8 : ∀ j, (fk 8 j).1 = 101 → j = 15 := by
  intro j h
  rcases Nat.lt_or_ge j 25 with hj | hj
  · have h2 : ∀ j, j < 25 → (fk 8 j).1 = 101 → j = 15 := by decide
    exact h2 j hj h
  · obtain ⟨n, rfl⟩ := Nat.exists_eq_add_of_le hj
    rw [Nat.add_comm] at h
    exact absurd h (by simp [fk])
/-! numbers of the machine that are numbers in a range -/
abbrev inN (x : Int32) (n : Nat) : Prop := ¬ x < 0 ∧ ¬ nI n ≤ x
theorem inN_ex {x : Int32} {n : Nat} (hn : n < 2 ^ 31) (h : inN x n) : ∃ j : Nat, j < n ∧ x = nI j := by
  obtain ⟨j, h1, h2, -⟩ := pk_mu h.1 h.2 hn
  exact ⟨j, h1, h2⟩
theorem inN_nI {j n : Nat} (hj : j < 2 ^ 31) (hn : n < 2 ^ 31) : inN (nI j) n ↔ j < n := by
  constructor
  · intro h
    exact Nat.not_le.mp fun h2 => h.2 (nI_le h2 hj)
  · intro h
    exact ⟨nI_pos hj, nI_ge h hn⟩
def fnU {α : Type} (f : Nat → α) (k : Nat) (v : α) : Nat → α := fun j => if j = k then v else f j
/-! a state's picture: rows, columns, shades, shift, lost, the rows of shades, their columns, dots -/
abbrev Pic : Type := Nat × Nat × Nat × Nat × Nat × (Nat → Nat) × (Nat → Nat) × (Nat → Nat)
abbrev pR (S : Pic) : Nat := S.1
abbrev pC (S : Pic) : Nat := S.2.1
abbrev pN (S : Pic) : Nat := S.2.2.1
abbrev pH (S : Pic) : Nat := S.2.2.2.1
abbrev pL (S : Pic) : Nat := S.2.2.2.2.1
abbrev pro (S : Pic) : Nat → Nat := S.2.2.2.2.2.1
abbrev pco (S : Pic) : Nat → Nat := S.2.2.2.2.2.2.1
abbrev pdt (S : Pic) : Nat → Nat := S.2.2.2.2.2.2.2
def StA (w : Wd) (p : List Nat) (S : Pic) : Prop := w.1 p 0 = nI (pR S) ∧ w.1 p 1 = nI (pC S) ∧ w.1 p 2 = nI (pN S) ∧ w.1 p 3 = nI (pH S) ∧ w.1 p 4 = nI (pL S) ∧ (∀ s, s < pN S → w.1 (5 :: p) s = nI (pro S s)) ∧ (∀ s, s < pN S → w.1 (6 :: p) s = nI (pco S s)) ∧ (∀ k, k < 16 → w.1 (7 :: p) k = nI (pdt S k))
/-- what holds of every state that is kept -/
def OKS (S : Pic) : Prop := (1 ≤ pR S ∧ pR S ≤ 6) ∧ (1 ≤ pC S ∧ pC S ≤ 6) ∧ pN S ≤ 20 ∧ pH S < 4 ∧ pL S < 16 ∧ (∀ s, s < pN S → pro S s < pR S ∧ pco S s < pC S) ∧ (∀ s t, s < t → t < pN S → ¬ (pro S s = pro S t ∧ pco S s = pco S t)) ∧ (∀ k, k < 16 → pdt S k < pN S ∨ (pdt S k = 0 ∧ pN S = 0))
/-- nothing has changed but the cells at F -/
def Fr (F : List (List Nat)) (w w' : Wd) : Prop := w'.2 = w.2 ∧ ∀ q, q ∉ F → w'.1 q = w.1 q
theorem Fr.rf {F : List (List Nat)} {w : Wd} : Fr F w w := ⟨rfl, fun _ _ => rfl⟩
theorem Fr.tr {F : List (List Nat)} {w w1 w2 : Wd} (h : Fr F w w1) (h2 : Fr F w1 w2) : Fr F w w2 := ⟨h2.1.trans h.1, fun q hq => (h2.2 q hq).trans (h.2 q hq)⟩
theorem Fr.up {F G : List (List Nat)} {w w1 : Wd} (h : Fr F w w1) (hs : ∀ q, q ∈ F → q ∈ G) : Fr G w w1 := ⟨h.1, fun q hq => h.2 q (fun h3 => hq (hs q h3))⟩
theorem Fr.i {F : List (List Nat)} {w : Wd} {p : List Nat} {k : Nat} {v : Int32} (h : p ∈ F) : Fr F w (uI w p k v) := ⟨rfl, fun _ hq => uA_ne (fun e => hq (e ▸ h))⟩
theorem Fr.a {F : List (List Nat)} {w : Wd} {p : List Nat} {f : Nat → Int32} (h : p ∈ F) : Fr F w (uA w p f) := ⟨rfl, fun _ hq => uA_ne (fun e => hq (e ▸ h))⟩
theorem StA.fr {F : List (List Nat)} {w w' : Wd} {p : List Nat} {S : Pic} (h : StA w p S) (hf : Fr F w w') (h0 : p ∉ F) (h5 : (5 :: p) ∉ F) (h6 : (6 :: p) ∉ F) (h7 : (7 :: p) ∉ F) : StA w' p S := by
  unfold StA
  rw [hf.2 _ h0, hf.2 _ h5, hf.2 _ h6, hf.2 _ h7]
  exact h
theorem cns {k : Nat} {p : List Nat} : (k :: p) ≠ p := fun h => by
  have := congrArg List.length h
  simp at this
theorem cns2 {k : Nat} {p : List Nat} : p ≠ (k :: p) := fun h => cns h.symm
