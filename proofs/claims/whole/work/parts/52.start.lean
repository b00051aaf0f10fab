/-! the two worlds as they are made -/
def isSt (p : List Nat) : Bool := p == [1] || p == [2] || p.drop 1 == [0, 3] || p.drop 1 == [0, 4]
def w0 : Wd := (fun p => if isSt p = true then (fun k => if k = 0 ∨ k = 1 ∨ k = 3 then 1 else 0) else fun _ => 0, fun _ => 0)
def v0 : Wd := (fun p => if p = [] then (fun k => if k = 2 ∨ k = 3 then 1 else 0) else if p = [5] then upd (fun _ => 0) 36 1 else fun _ => 0, fun _ => 0)
abbrev Xm (X : Cx) (β : List Nat → Nat) : Cx := (X.1, X.2.1, X.2.2.1, β, X.2.2.2.2)
set_option maxRecDepth 100000 in
theorem raw8_eq (X : Cx) (α : List Nat → Nat) : raw8 X α = wld (Xm X α) 1 v0 := by
  unfold wld PT PT1
  rfl
def S0 : Pic := (1, 1, 0, 1, 0, (fun _ => 0), (fun _ => 0), fun _ => 0)
def A0 : Ab := (0, (fun _ => 0), S0, [], (fun _ => none), 0, (fun _ => 0), (fun _ => 0), 0)
theorem AOK_0 : AOK A0 := by
  refine ⟨Nat.zero_le _, ⟨⟨by decide, by decide⟩, ⟨by decide, by decide⟩, by decide, by decide, by decide, ?_, ?_, ?_⟩, Nat.zero_le _, fun S hS => (by cases hS), fun i S hS => (by cases hS), Nat.zero_le _, fun i hi => absurd hi (Nat.not_lt_zero i)⟩
  · intro s hs
    exact absurd hs (Nat.not_lt_zero s)
  · intro s t _ ht
    exact absurd ht (Nat.not_lt_zero t)
  · intro k _
    exact Or.inr ⟨rfl, rfl⟩
theorem ModR_0 : ModR v0 A0 := by
  refine ⟨⟨rfl, fun i hi => absurd hi (Nat.not_lt_zero i)⟩, ⟨⟨rfl, rfl, rfl⟩, ?_, ?_, rfl, rfl⟩, ⟨0, by decide, rfl, rfl, Nat.zero_le _, fun j S hj => (by cases hj)⟩, ?_, ⟨rfl, fun i hi => absurd hi (Nat.not_lt_zero i)⟩, rfl⟩
  · intro s hs
    exact absurd hs (Nat.not_lt_zero s)
  · intro k hk
    show upd (fun _ => (0 : Int32)) 36 1 (20 + k) = nI 0
    unfold upd
    rw [if_neg (by omega)]
    rfl
  · intro i _
    exact Or.inl ⟨rfl, rfl⟩
theorem ClsR_0 : ClsR w0 A0 := by
  refine ⟨⟨rfl, fun i hi => absurd hi (Nat.not_lt_zero i)⟩, ⟨rfl, rfl, rfl, rfl, rfl, ?_, ?_, ?_⟩, ⟨0, by decide, rfl, rfl, Nat.zero_le _, fun j S hj => (by cases hj)⟩, ⟨0, by decide, rfl, ?_⟩, ⟨rfl, fun i hi => absurd hi (Nat.not_lt_zero i)⟩, rfl⟩
  · intro s hs
    exact absurd hs (Nat.not_lt_zero s)
  · intro s hs
    exact absurd hs (Nat.not_lt_zero s)
  · intro k _
    rfl
  · intro i hi
    refine Or.inl ⟨rfl, ?_⟩
    rcases (show i = 0 ∨ i = 1 by omega) with rfl | rfl <;> rfl
theorem g_5 (X : Cx) (p : List Nat) (w : Wd) (h0 : w.1 p 0 = 1) (h1 : w.1 p 1 = 1) (h2 : w.1 p 2 = 0) (h3 : w.1 p 3 = 1) (h4 : w.1 p 4 = 0) (h5 : w.1 (5 :: p) = fun _ => 0) (h6 : w.1 (6 :: p) = fun _ => 0) (h7 : w.1 (7 :: p) = fun _ => 0) : (cells5 p).map (cellE X w) = st4 X (X.2.2.2.1 p) (X.2.2.2.1 (5 :: p)) (X.2.2.2.1 (6 :: p)) (X.2.2.2.1 (7 :: p)) := by
  show [cellE X w (p, 5, 0), cellE X w (5 :: p, 9, 20), cellE X w (6 :: p, 9, 20), cellE X w (7 :: p, 9, 16)] = _
  have e1 : cellE X w (p, 5, 0) = (X.2.2.2.1 p, .inr (5, [.int (w.1 p 0), .int (w.1 p 1), .int (w.1 p 2), .int (w.1 p 3), .int (w.1 p 4), .ref (X.2.2.2.1 (5 :: p)), .ref (X.2.2.2.1 (6 :: p)), .ref (X.2.2.2.1 (7 :: p))])) := rfl
  have e2 : cellE X w (5 :: p, 9, 20) = (X.2.2.2.1 (5 :: p), .inl (X.2.2.1 0, 20, .inl (w.1 (5 :: p)))) := rfl
  have e3 : cellE X w (6 :: p, 9, 20) = (X.2.2.2.1 (6 :: p), .inl (X.2.2.1 0, 20, .inl (w.1 (6 :: p)))) := rfl
  have e4 : cellE X w (7 :: p, 9, 16) = (X.2.2.2.1 (7 :: p), .inl (X.2.2.1 0, 16, .inl (w.1 (7 :: p)))) := rfl
  rw [e1, e2, e3, e4, h0, h1, h2, h3, h4, h5, h6, h7]
  rfl
theorem g5_0 (X : Cx) (i j : Nat) (hj : j = 3 ∨ j = 4) (hi : i < 14) : (cells5 [i, 0, j]).map (cellE X w0) = st4 X (X.2.2.2.1 [i, 0, j]) (X.2.2.2.1 [5, i, 0, j]) (X.2.2.2.1 [6, i, 0, j]) (X.2.2.2.1 [7, i, 0, j]) := by
  have hs : isSt [i, 0, j] = true := by rcases hj with rfl | rfl <;> simp [isSt]
  have hn : ∀ k, isSt [k, i, 0, j] = false := by
    intro k
    simp [isSt]
  have ew : w0.1 [i, 0, j] = fun k => if k = 0 ∨ k = 1 ∨ k = 3 then 1 else 0 := if_pos hs
  have en : ∀ k, w0.1 [k, i, 0, j] = fun _ => 0 := fun k => if_neg (by rw [hn k]; decide)
  refine g_5 X [i, 0, j] w0 ?_ ?_ ?_ ?_ ?_ (en 5) (en 6) (en 7)
  all_goals rw [ew]; rfl
theorem ce_0 (X : Cx) (α : List Nat → Nat) : cellE (Xm X α) w0 ([], 7, 0) = (α [], .inr (7, [.ref (α [0]), .ref (α [1]), .ref (α [2]), .ref (α [3]), .ref (α [4]), .ref (α [5]), .ref (α [6]), .ref (α [7]), .ref (α [8]), .long 0])) := rfl
theorem ce_1 (X : Cx) (α : List Nat → Nat) : cellE (Xm X α) w0 ([0], 6, 0) = (α [0], .inr (6, [.ref (α [0, 0]), .int 0])) := rfl
theorem ce_2 (X : Cx) (α : List Nat → Nat) : cellE (Xm X α) w0 ([0, 0], 9, 70) = rw0 X (α [0, 0]) 70 := rfl
theorem ce_3 (X : Cx) (α : List Nat → Nat) : cellE (Xm X α) w0 ([3], 0, 0) = (α [3], .inr (0, [.ref (α [0, 3]), .int 0, .int 0])) := rfl
theorem ce_4 (X : Cx) (α : List Nat → Nat) : cellE (Xm X α) w0 ([0, 3], 11, 14) = (α [0, 3], .inl (X.2.2.1 2, 14, .inr (.inr (.inr (.inr (fun i => some (α [i, 0, 3]))))))) := rfl
theorem ce_5 (X : Cx) (α : List Nat → Nat) : cellE (Xm X α) w0 ([4], 4, 0) = (α [4], .inr (4, [.ref (α [0, 4]), .int 0])) := rfl
theorem ce_6 (X : Cx) (α : List Nat → Nat) : cellE (Xm X α) w0 ([0, 4], 11, 2) = (α [0, 4], .inl (X.2.2.1 2, 2, .inr (.inr (.inr (.inr (fun i => some (α [i, 0, 4]))))))) := rfl
theorem ce_7 (X : Cx) (α : List Nat → Nat) : cellE (Xm X α) w0 ([5], 3, 0) = (α [5], .inr (3, [.ref (α [0, 5]), .ref (α [1, 5]), .int 0])) := rfl
theorem ce_8 (X : Cx) (α : List Nat → Nat) : cellE (Xm X α) w0 ([0, 5], 9, 6) = rw0 X (α [0, 5]) 6 := rfl
theorem ce_9 (X : Cx) (α : List Nat → Nat) : cellE (Xm X α) w0 ([1, 5], 9, 6) = rw0 X (α [1, 5]) 6 := rfl
theorem ce_10 (X : Cx) (α : List Nat → Nat) : cellE (Xm X α) w0 ([6], 1, 0) = (α [6], .inr (1, [.ref (α [0, 6]), .ref (α [1, 6]), .ref (α [2, 6])])) := rfl
theorem ce_11 (X : Cx) (α : List Nat → Nat) : cellE (Xm X α) w0 ([0, 6], 9, 12) = rw0 X (α [0, 6]) 12 := rfl
theorem ce_12 (X : Cx) (α : List Nat → Nat) : cellE (Xm X α) w0 ([1, 6], 9, 12) = rw0 X (α [1, 6]) 12 := rfl
theorem ce_13 (X : Cx) (α : List Nat → Nat) : cellE (Xm X α) w0 ([2, 6], 9, 12) = rw0 X (α [2, 6]) 12 := rfl
theorem ce_14 (X : Cx) (α : List Nat → Nat) : cellE (Xm X α) w0 ([7], 2, 0) = (α [7], .inr (2, [.ref (α [0, 7]), .ref (α [1, 7]), .int 0])) := rfl
theorem ce_15 (X : Cx) (α : List Nat → Nat) : cellE (Xm X α) w0 ([0, 7], 1, 0) = (α [0, 7], .inr (1, [.ref (α [0, 0, 7]), .ref (α [1, 0, 7]), .ref (α [2, 0, 7])])) := rfl
theorem ce_16 (X : Cx) (α : List Nat → Nat) : cellE (Xm X α) w0 ([0, 0, 7], 9, 12) = rw0 X (α [0, 0, 7]) 12 := rfl
theorem ce_17 (X : Cx) (α : List Nat → Nat) : cellE (Xm X α) w0 ([1, 0, 7], 9, 12) = rw0 X (α [1, 0, 7]) 12 := rfl
theorem ce_18 (X : Cx) (α : List Nat → Nat) : cellE (Xm X α) w0 ([2, 0, 7], 9, 12) = rw0 X (α [2, 0, 7]) 12 := rfl
theorem ce_19 (X : Cx) (α : List Nat → Nat) : cellE (Xm X α) w0 ([1, 7], 9, 16) = rw0 X (α [1, 7]) 16 := rfl
theorem ce_20 (X : Cx) (α : List Nat → Nat) : cellE (Xm X α) w0 ([8], 9, 16) = rw0 X (α [8]) 16 := rfl
theorem raw7_eq (X : Cx) (α : List Nat → Nat) : raw7 X α = wld (Xm X α) 0 w0 := by
  have h1 : (cells5 [1]).map (cellE (Xm X α) w0) = st4 (Xm X α) (α [1]) (α [5, 1]) (α [6, 1]) (α [7, 1]) := g_5 (Xm X α) [1] w0 rfl rfl rfl rfl rfl rfl rfl rfl
  have h2 : (cells5 [2]).map (cellE (Xm X α) w0) = st4 (Xm X α) (α [2]) (α [5, 2]) (α [6, 2]) (α [7, 2]) := g_5 (Xm X α) [2] w0 rfl rfl rfl rfl rfl rfl rfl rfl
  have h3 : ∀ i, i < 14 → (cells5 [i, 0, 3]).map (cellE (Xm X α) w0) = st4 X (α [i, 0, 3]) (α [5, i, 0, 3]) (α [6, i, 0, 3]) (α [7, i, 0, 3]) := fun i hi => g5_0 (Xm X α) i 3 (Or.inl rfl) hi
  have h4 : ∀ i, i < 14 → (cells5 [i, 0, 4]).map (cellE (Xm X α) w0) = st4 X (α [i, 0, 4]) (α [5, i, 0, 4]) (α [6, i, 0, 4]) (α [7, i, 0, 4]) := fun i hi => g5_0 (Xm X α) i 4 (Or.inr rfl) hi
  show _ = PT0.map (cellE (Xm X α) w0)
  unfold PT0
  simp only [List.map_append]
  rw [h1, h2, h3 0 (by decide), h3 1 (by decide), h3 2 (by decide), h3 3 (by decide), h3 4 (by decide), h3 5 (by decide), h3 6 (by decide), h3 7 (by decide), h3 8 (by decide), h3 9 (by decide), h3 10 (by decide), h3 11 (by decide), h3 12 (by decide), h3 13 (by decide), h4 0 (by decide), h4 1 (by decide)]
  simp only [List.map_cons, List.map_nil]
  rw [ce_0 X α, ce_1 X α, ce_2 X α, ce_3 X α, ce_4 X α, ce_5 X α, ce_6 X α, ce_7 X α, ce_8 X α, ce_9 X α, ce_10 X α, ce_11 X α, ce_12 X α, ce_13 X α, ce_14 X α, ce_15 X α, ce_16 X α, ce_17 X α, ce_18 X α, ce_19 X α, ce_20 X α]
  simp only [raw7, tx2, acF, slF, se3, gu4, ou6, stS, List.cons_append, List.nil_append, List.append_assoc]
  rfl
