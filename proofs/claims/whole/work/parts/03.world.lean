/-! THE WORLD. After the two constructors no cell is made: the heap is a tree of final references. A cell is named by its path (field or element numbers, the innermost first). -/
abbrev AV : Type := Int32 ⊕ (Int64 ⊕ (Nat × Nat × List Nat))
abbrev vI (x : Int32) : AV := Sum.inl x
abbrev vL (x : Int64) : AV := Sum.inr (Sum.inl x)
/-- a cell: its kind (0 .. 8 objects by vwCl, 9 int[], 10 boolean[], 11 State[], 13, 14 static arrays), its length, its path -/
abbrev vR (k n : Nat) (p : List Nat) : AV := Sum.inr (Sum.inr (k, n, p))
abbrev Wd : Type := (List Nat → Nat → Int32) × (List Nat → Int64)
/-- launch, class numbers, array classes, addresses, static arrays -/
abbrev Cx : Type := Launch × va_G × (Nat → ClassId) × (List Nat → Nat) × (Nat → Nat)
def adr (X : Cx) (k : Nat) (p : List Nat) : Nat := if k = 13 then X.2.2.2.2 0 else if k = 14 then X.2.2.2.2 1 else X.2.2.2.1 p
def con (X : Cx) : AV → Value
  | .inl x => .int x
  | .inr (.inl x) => .long x
  | .inr (.inr q) => .ref (adr X q.1 q.2.2)
def cat : AV → Nat
  | .inl _ => 1
  | .inr (.inl _) => 2
  | .inr (.inr _) => 1
theorem con_cat (X : Cx) (v : AV) : (con X v).category = cat v := by
  rcases v with x | x | ⟨k, n, p⟩ <;> rfl
theorem con_sum (X : Cx) : ∀ l : List AV, ((l.map (con X)).map fun v => v.category).sum = (l.map cat).sum
  | [] => rfl
  | v :: l => by
    simp only [List.map_cons, List.sum_cons, con_cat]
    rw [con_sum X l]
abbrev cells5 (p : List Nat) : List (List Nat × Nat × Nat) := [(p, 5, 0), (5 :: p, 9, 20), (6 :: p, 9, 20), (7 :: p, 9, 16)]
abbrev cells1 (p : List Nat) : List (List Nat × Nat × Nat) := [(p, 1, 0), (0 :: p, 9, 12), (1 :: p, 9, 12), (2 :: p, 9, 12)]
def PT0 : List (List Nat × Nat × Nat) := [([], 7, 0), ([0], 6, 0), ([0, 0], 9, 70)] ++ cells5 [1] ++ cells5 [2] ++ [([3], 0, 0), ([0, 3], 11, 14)]
  ++ cells5 [0, 0, 3] ++ cells5 [1, 0, 3] ++ cells5 [2, 0, 3] ++ cells5 [3, 0, 3] ++ cells5 [4, 0, 3] ++ cells5 [5, 0, 3] ++ cells5 [6, 0, 3] ++ cells5 [7, 0, 3] ++ cells5 [8, 0, 3] ++ cells5 [9, 0, 3] ++ cells5 [10, 0, 3] ++ cells5 [11, 0, 3] ++ cells5 [12, 0, 3] ++ cells5 [13, 0, 3]
  ++ [([4], 4, 0), ([0, 4], 11, 2)] ++ cells5 [0, 0, 4] ++ cells5 [1, 0, 4] ++ [([5], 3, 0), ([0, 5], 9, 6), ([1, 5], 9, 6)] ++ cells1 [6] ++ [([7], 2, 0)] ++ cells1 [0, 7] ++ [([1, 7], 9, 16), ([8], 9, 16)]
def PT1 : List (List Nat × Nat × Nat) := [([], 8, 0), ([0], 9, 70), ([5], 9, 38), ([6], 9, 38), ([7], 9, 532), ([10], 9, 76), ([11], 10, 2), ([12], 9, 6), ([13], 9, 6), ([16], 9, 16), ([17], 10, 4), ([18], 9, 16), ([22], 9, 20)]
/-- the cells of a root: 0 the class, 1 the reference -/
def PT (r : Nat) : List (List Nat × Nat × Nat) := match r with
  | 0 => PT0
  | 1 => PT1
  | _ => []
/-- of a class' field: 100 an int, 101 a long, else the kind and the length of the cell that it holds -/
def fk (c k : Nat) : Nat × Nat := match c, k with
  | 0, 0 => (11, 14)
  | 1, 0 => (9, 12)
  | 1, 1 => (9, 12)
  | 1, 2 => (9, 12)
  | 2, 0 => (1, 0)
  | 2, 1 => (9, 16)
  | 3, 0 => (9, 6)
  | 3, 1 => (9, 6)
  | 4, 0 => (11, 2)
  | 5, 5 => (9, 20)
  | 5, 6 => (9, 20)
  | 5, 7 => (9, 16)
  | 6, 0 => (9, 70)
  | 7, 0 => (6, 0)
  | 7, 1 => (5, 0)
  | 7, 2 => (5, 0)
  | 7, 3 => (0, 0)
  | 7, 4 => (4, 0)
  | 7, 5 => (3, 0)
  | 7, 6 => (1, 0)
  | 7, 7 => (2, 0)
  | 7, 8 => (9, 16)
  | 7, 9 => (101, 0)
  | 8, 0 => (9, 70)
  | 8, 5 => (9, 38)
  | 8, 6 => (9, 38)
  | 8, 7 => (9, 532)
  | 8, 10 => (9, 76)
  | 8, 11 => (10, 2)
  | 8, 12 => (9, 6)
  | 8, 13 => (9, 6)
  | 8, 15 => (101, 0)
  | 8, 16 => (9, 16)
  | 8, 17 => (10, 4)
  | 8, 18 => (9, 16)
  | 8, 22 => (9, 20)
  | _, _ => (100, 0)
/-- how many fields -/
def nf (c : Nat) : Nat := match c with
  | 0 => 3
  | 1 => 3
  | 2 => 3
  | 3 => 3
  | 4 => 2
  | 5 => 8
  | 6 => 2
  | 7 => 10
  | 8 => 25
  | _ => 0
def fv (X : Cx) (w : Wd) (p : List Nat) (c k : Nat) : Value := if (fk c k).1 = 100 then .int (w.1 p k) else if (fk c k).1 = 101 then .long (w.2 p) else .ref (X.2.2.2.1 (k :: p))
def cellE (X : Cx) (w : Wd) (e : List Nat × Nat × Nat) : Nat × va_E := (X.2.2.2.1 e.1, if e.2.1 < 9 then .inr (e.2.1, (List.range (nf e.2.1)).map (fv X w e.1 e.2.1)) else if e.2.1 = 11 then .inl (X.2.2.1 2, e.2.2, .inr (.inr (.inr (.inr (fun i => some (X.2.2.2.1 (i :: e.1))))))) else .inl (X.2.2.1 (e.2.1 - 9), e.2.2, .inl (w.1 e.1)))
def wld (X : Cx) (r : Nat) (w : Wd) : va_W := (PT r).map (cellE X w)
def tysX (X : Cx) : List (ClassId × FieldType) := [(X.2.2.1 0, .int), (X.2.2.1 1, .boolean), (X.2.2.1 2, .object "TwoHalves$State")]
def Ar (X : Cx) (r : Nat) : Nat → Prop := fun q => ∃ e ∈ PT r, X.2.2.2.1 e.1 = q
/-- a cell's contents set anew -/
def uA (w : Wd) (p : List Nat) (f : Nat → Int32) : Wd := (fun q => if q = p then f else w.1 q, w.2)
def uI (w : Wd) (p : List Nat) (k : Nat) (v : Int32) : Wd := uA w p (upd (w.1 p) k v)
def uL (w : Wd) (p : List Nat) (v : Int64) : Wd := (w.1, fun q => if q = p then v else w.2 q)
theorem uA_same (w : Wd) (p : List Nat) (f : Nat → Int32) : (uA w p f).1 p = f := by simp [uA]
theorem uA_ne {w : Wd} {p q : List Nat} {f : Nat → Int32} (h : q ≠ p) : (uA w p f).1 q = w.1 q := by simp [uA, h]
theorem PT_nd : ∀ r, va_nd ((PT r).map (fun e => e.1.foldl (fun a b => 100 * a + b + 1) 0)) = true := by
  intro r
  match r with
  | 0 => decide +kernel
  | 1 => decide +kernel
  | _ + 2 => rfl
theorem PT_inj {r i j : Nat} {a b : List Nat × Nat × Nat} (hi : (PT r)[i]? = some a) (hj : (PT r)[j]? = some b) (h : a.1 = b.1) : i = j := by
  refine va_nd_inj _ (PT_nd r) i j (a.1.foldl (fun a b => 100 * a + b + 1) 0) ?_ ?_
  · rw [List.getElem?_map, hi]; rfl
  · rw [List.getElem?_map, hj, h]; rfl
theorem wld_at {X : Cx} {r : Nat} {w : Wd} {e : List Nat × Nat × Nat} (h : e ∈ PT r) : ∃ i : Nat, (PT r)[i]? = some e ∧ (wld X r w)[i]? = some (cellE X w e) := by
  obtain ⟨i, hi⟩ := List.mem_iff_getElem?.mp h
  exact ⟨i, hi, by rw [wld, List.getElem?_map, hi]; rfl⟩
theorem cellE_cg {X : Cx} {w w' : Wd} {e : List Nat × Nat × Nat} (h1 : w'.1 e.1 = w.1 e.1) (h2 : w'.2 e.1 = w.2 e.1) : cellE X w' e = cellE X w e := by
  have h3 : fv X w' e.1 e.2.1 = fv X w e.1 e.2.1 := by
    funext k
    unfold fv
    rw [h1, h2]
  unfold cellE
  rw [h1, h3]
theorem wld_set {X : Cx} {r i : Nat} {w w' : Wd} {e : List Nat × Nat × Nat} (hi : (PT r)[i]? = some e) (h : ∀ q, q ≠ e.1 → w'.1 q = w.1 q ∧ w'.2 q = w.2 q) : (wld X r w).set i (cellE X w' e) = wld X r w' := by
  apply List.ext_getElem?
  intro j
  by_cases hj : i = j
  · subst hj
    rw [List.getElem?_set_self' ]
    simp only [wld, List.getElem?_map, hi, Option.map_some]
    rfl
  · rw [List.getElem?_set_ne hj]
    simp only [wld, List.getElem?_map]
    cases hq : (PT r)[j]? with
    | none => rfl
    | some a =>
      simp only [Option.map_some]
      have hne : a.1 ≠ e.1 := fun h2 => hj (PT_inj hi hq h2.symm)
      rw [cellE_cg (h a.1 hne).1 (h a.1 hne).2]
/-! words -/
def nestW : Cond → Bool
  | .fieldLinkNest .. => true
  | .methodLinkNest .. => true
  | _ => false
def tbG : List Cond := lw_tbl.filter goodWord
def tbN : List Cond := lw_tbl.filter nestW
theorem tbG_good : GoodIn tbG tbG := fun _ h => ⟨h, good_of_word (List.mem_filter.mp h).2⟩
theorem tg {w : Cond} (i : Nat) (h : tables_1[i]? = some w) (g : goodWord w = true) : w ∈ tbG := List.mem_filter.mpr ⟨List.mem_append_right _ (List.mem_of_getElem? h), g⟩
theorem tn {w : Cond} (i : Nat) (h : tables_1[i]? = some w) (g : nestW w = true) : w ∈ tbN := List.mem_filter.mpr ⟨List.mem_append_right _ (List.mem_of_getElem? h), g⟩
theorem tsl {q : MethodName × Nat} (i : Nat) (h : lw_privs[i]? = some q) : Cond.selects q.1.cls q.1 q.1 ∈ tbG :=
  List.mem_filter.mpr ⟨List.mem_append_left _ (List.mem_map.mpr ⟨q, List.mem_of_getElem? h, rfl⟩), rfl⟩
abbrev mW (M : Mth) : List Cond := Cond.code M.1 M.2.1 M.2.2.1 M.2.2.2.1 :: tbG
def Ns (U : State) : Prop := ∀ w ∈ tbN, va_Nw w U
theorem Ns.warm {s U : State} (hW : s.WarmedH U.vm) (h : Ns s) : Ns U := fun w hw => by
  have h1 := h w hw
  have h2 := (List.mem_filter.mp hw).2
  cases w <;> first | exact va_Nw.warmF hW h1 | exact va_Nw.warmM hW h1 | (simp [nestW] at h2)
theorem Ns.same {u U : State} (hv : u.vm = U.vm) (h : Ns u) : Ns U := fun w hw => by
  have h1 := h w hw
  have h2 := (List.mem_filter.mp hw).2
  cases w <;> first | exact va_Nw.same rfl hv h1 | (simp [nestW] at h2)
/-! the two static arrays -/
def dE : Nat → Value := fun k => match k with
  | 0 => .long 1
  | 1 => .long 1000
  | 2 => .long 1000000
  | 3 => .long 1000000000
  | _ => .long 1000000000000
def oB : Nat → Value := fun k => match k with
  | 0 => .int 0
  | 1 => .int 6
  | 2 => .int 2
  | 3 => .int 2
  | _ => .int 6
def Sx (X : Cx) (r : Nat) (U : State) (H : Heap) : Prop := va_Z "TwoHalves" "DOINGS_END" "[J" (.ref (X.2.2.2.2 0)) (Ar X r) U H ∧ va_T .long (X.2.2.2.2 0) 5 dE (Ar X r) U H ∧ va_Z "TwoHalves" "ORDERS_BY_LOST" "[I" (.ref (X.2.2.2.2 1)) (Ar X r) U H ∧ va_T .int (X.2.2.2.2 1) 5 oB (Ar X r) U H
theorem Sx.go {X : Cx} {r : Nat} {u U : State} {H H1 : Heap} (h : Sx X r u H) (hvm : u.vm.Alike U.vm) (hq : ∀ a : Nat, a < H.size → ¬ Ar X r a → H1[a]? = H[a]?) : Sx X r U H1 :=
  ⟨(h.1.moved hvm).kept hq, (h.2.1.moved hvm).kept hq, (h.2.2.1.moved hvm).kept hq, (h.2.2.2.moved hvm).kept hq⟩
def okv (r : Nat) : AV → Prop
  | .inl _ => True
  | .inr (.inl _) => True
  | .inr (.inr q) => (q.1 = 13 ∧ q.2.1 = 5) ∨ (q.1 = 14 ∧ q.2.1 = 5) ∨ (q.1 < 13 ∧ (q.2.2, q.1, q.2.1) ∈ PT r)
def okl (r : Nat) (l : List AV) : Prop := ∀ v ∈ l, okv r v
theorem okl.hd {r : Nat} {v : AV} {l : List AV} (h : okl r (v :: l)) : okv r v := h v List.mem_cons_self
theorem okl.tl {r : Nat} {v : AV} {l : List AV} (h : okl r (v :: l)) : okl r l := fun x hx => h x (List.mem_cons_of_mem _ hx)
theorem okl.cons {r : Nat} {v : AV} {l : List AV} (hv : okv r v) (h : okl r l) : okl r (v :: l) := fun x hx => by
  rcases List.mem_cons.mp hx with rfl | hx
  · exact hv
  · exact h x hx
theorem okl.i {r : Nat} {x : Int32} {l : List AV} (h : okl r l) : okl r (vI x :: l) := okl.cons trivial h
theorem okl.l {r : Nat} {x : Int64} {l : List AV} (h : okl r l) : okl r (vL x :: l) := okl.cons trivial h
theorem okl.nil {r : Nat} : okl r [] := fun x hx => by cases hx
/-! locals -/
abbrev Lo : Type := List (Nat × AV)
def okL (r : Nat) (l : Lo) : Prop := ∀ q ∈ l, okv r q.2
def cnL (X : Cx) (l : Lo) : List (Nat × Value) := l.map (fun q => (q.1, con X q.2))
def lgt (l : Lo) (k : Nat) : Option AV := (l.find? (fun q => q.1 == k)).map (fun q => q.2)
/-- a local of one word set anew -/
def st1 (l : Lo) (i : Nat) (v : AV) : Lo := (i, v) :: l.filter (fun q => !(q.1 == i) && !(q.1 + 1 == i && cat q.2 == 2))
def st2 (l : Lo) (i : Nat) (v : AV) : Lo := (i, v) :: l.filter (fun q => !(q.1 == i) && (!(q.1 == i + 1) && !(q.1 + 1 == i && cat q.2 == 2)))
theorem lgt_mem {l : Lo} {k : Nat} {v : AV} (h : lgt l k = some v) : (k, v) ∈ l := by
  unfold lgt at h
  cases hf : l.find? (fun q => q.1 == k) with
  | none => rw [hf] at h; cases h
  | some q =>
    rw [hf] at h
    have h1 := List.mem_of_find?_eq_some hf
    have h2 := List.find?_some hf
    simp at h2 h
    subst h2; subst h
    exact h1
theorem lgt_at {X : Cx} {l : Lo} {k n : Nat} {v : AV} {ls : Array Slot} (h : lgt l k = some v) (hl : lv_has ls n (cnL X l)) : ls[k]? = some (.val (con X v)) :=
  hl.2.2 (k, con X v) (List.mem_map.mpr ⟨(k, v), lgt_mem h, rfl⟩)
theorem lgt_ok {r : Nat} {l : Lo} {k : Nat} {v : AV} (h : lgt l k = some v) (hl : okL r l) : okv r v := hl _ (lgt_mem h)
theorem cnL_filter (X : Cx) (f : Nat → Nat → Bool) : ∀ l : Lo, (cnL X l).filter (fun q => f q.1 q.2.category) = cnL X (l.filter (fun q => f q.1 (cat q.2)))
  | [] => rfl
  | q :: l => by
    have ih := cnL_filter X f l
    simp only [cnL, List.map_cons, List.filter_cons, con_cat] at ih ⊢
    split
    · rw [List.map_cons, ih]
    · exact ih
theorem cnL_st1 (X : Cx) (l : Lo) (i : Nat) (v : AV) : (i, con X v) :: (cnL X l).filter (fun q => !(q.1 == i) && !(q.1 + 1 == i && q.2.category == 2)) = cnL X (st1 l i v) := by
  rw [cnL_filter X (fun a b => !(a == i) && !(a + 1 == i && b == 2)) l]
  rfl
theorem cnL_st2 (X : Cx) (l : Lo) (i : Nat) (v : AV) : (i, con X v) :: (cnL X l).filter (fun q => !(q.1 == i) && (!(q.1 == i + 1) && !(q.1 + 1 == i && q.2.category == 2))) = cnL X (st2 l i v) := by
  rw [cnL_filter X (fun a b => !(a == i) && (!(a == i + 1) && !(a + 1 == i && b == 2))) l]
  rfl
theorem okL_st1 {r : Nat} {l : Lo} {i : Nat} {v : AV} (hv : okv r v) (h : okL r l) : okL r (st1 l i v) := fun q hq => by
  rcases List.mem_cons.mp hq with rfl | hq
  · exact hv
  · exact h q (List.mem_filter.mp hq).1
theorem okL_st2 {r : Nat} {l : Lo} {i : Nat} {v : AV} (hv : okv r v) (h : okL r l) : okL r (st2 l i v) := fun q hq => by
  rcases List.mem_cons.mp hq with rfl | hq
  · exact hv
  · exact h q (List.mem_filter.mp hq).1
/-! the judgements -/
def rmD (d : Nat) : Room := { frames := d, cells := 0, slots := 0, locals := 40 * d }
def Bd (X : Cx) (r : Nat) (M : Mth) (p : Program) (s : State) (m : MethodId) (args : Array Value) (meth : Method) (c : Code) : Prop :=
  p.tables.exec = Jvm.exec ∧ c.code = M.2.1 ∧ c.maxLocals = M.2.2.1 ∧ meth.sig.returnType = M.2.2.2.1 ∧ meth.locks = false ∧ s.vm.findClass M.2.2.2.2 = some m.cls ∧ (∀ w ∈ tbG, w.before args s = true) ∧ va_K X.2.1 vwCl (tysX X) s ∧ Ns s ∧ Sx X r s s.heap
def Wl (X : Cx) (r : Nat) (w : Wd) (U : State) : Prop := va_P X.2.1 vwCl (wld X r w) U.heap ∧ va_D (Ar X r) (wld X r w) ∧ va_K X.2.1 vwCl (tysX X) U ∧ Ns U ∧ Sx X r U U.heap
def Qres (X : Cx) (r : Nat) (Q : Option AV → Wd → Prop) : Array Value → State → Outcome → State → Prop := fun _ st oc t => (∃ (rv : Option AV) (w' : Wd), oc = .returned (rv.map (con X)) ∧ Q rv w' ∧ okl r rv.toList ∧ va_P X.2.1 vwCl (wld X r w') t.heap ∧ va_D (Ar X r) (wld X r w')) ∧ va_F (Ar X r) st t
/-- from pc, with these locals, this stack and this world, the method ends with Q -/
def Wq (X : Cx) (r d : Nat) (M : Mth) (pc : Nat) (loc : Lo) (stk : List AV) (w : Wd) (Q : Option AV → Wd → Prop) : Prop :=
  okL r loc → okl r stk → ∀ (p : Program) (e : Env) (s : State) (m : MethodId) (args : Array Value) (below : List Frame) (meth : Method) (c : Code) (H : Heap) (locs : List Loc) (ls : Array Slot),
    Bd X r M p s m args meth c → va_P X.2.1 vwCl (wld X r w) H → va_D (Ar X r) (wld X r w) → va_S (Ar X r) s.heap H locs → lv_has ls M.2.2.1 (cnL X loc) →
    W p X.1 e (rmD d) s m args below meth c H locs 0 0 (MQ below (Qres X r Q) args s 0 0 (Ar X r)) (F0 m pc ls (stk.map (con X)))
/-- a contract: with these arguments in this world the method ends with Q -/
def Ct (X : Cx) (r d : Nat) (M : Mth) (as : List AV) (w : Wd) (Q : Option AV → Wd → Prop) : Prop :=
  okl r as → Met X.1 M.1 (mW M) (rmD d) (va_Pc (as.map (con X)) (Wl X r w)) (Qres X r Q) 0 0 (Ar X r)
def argl : Nat → List AV → Lo
  | _, [] => []
  | i, v :: vs => (i, v) :: argl (if cat v = 2 then i + 2 else i + 1) vs
theorem argl_ok {r : Nat} : ∀ (vs : List AV) (i : Nat), okl r vs → okL r (argl i vs)
  | [], _, _ => fun q hq => by cases hq
  | v :: vs, i, h => fun q hq => by
    rcases List.mem_cons.mp hq with rfl | hq
    · exact h.hd
    · exact argl_ok vs _ h.tl q hq
theorem argl_cn (X : Cx) : ∀ (vs : List AV) (i : Nat), lv_args i (vs.map (con X)) = cnL X (argl i vs)
  | [], _ => rfl
  | v :: vs, i => by
    show (i, con X v) :: lv_args _ (vs.map (con X)) = (i, con X v) :: cnL X (argl _ vs)
    rw [con_cat, argl_cn X vs]
theorem lg_sl_len (X : Cx) : ∀ (vs : List AV), (lg_sl (vs.map (con X))).length = (vs.map cat).sum
  | [] => rfl
  | v :: vs => by
    have ih := lg_sl_len X vs
    have h1 : lg_sl ((v :: vs).map (con X)) = (if (con X v).category = 2 then [Slot.val (con X v), Slot.second] else [Slot.val (con X v)]) ++ lg_sl (vs.map (con X)) := by
      simp [lg_sl]
    rw [h1, List.length_append, ih, con_cat, List.map_cons, List.sum_cons]
    rcases v with x | x | q <;> rfl
theorem Ct.of {X : Cx} {r d : Nat} {M : Mth} {as : List AV} {w : Wd} {Q : Option AV → Wd → Prop} (hy : plainName M.1.cls = true) (ho : M.1.cls = M.2.2.2.2) (hn : (as.map cat).sum ≤ M.2.2.1) (k : Wq X r d M 0 (argl 0 as) [] w Q) : Ct X r d M as w Q := by
  intro hok
  refine Met.ofW (cc := M.2.1) (maxL := M.2.2.1) (ret := M.2.2.2.1) hy rfl ?_
  intro p e s m args below meth c s₁ B hml hv
  obtain ⟨rfl, hP, hD, hK, hN, hX⟩ := hv
  have hts := atoms_spec (ws := mW M) B.pre
  have hown : s.vm.findClass M.1.cls = some m.cls := findClass_of_methodNamed B.named
  have hl := lv_entry (as.map (con X)) (n := M.2.2.1) (by rw [lg_sl_len]; exact hn)
  rw [lg_entry_eq]
  rw [argl_cn] at hl
  exact k (argl_ok as 0 hok) okl.nil p e s m _ below meth c s.heap [] _ ⟨B.exec, B.bytes, hml, B.returns, B.notSynchronized, ho ▸ hown, fun w hw => hts w (List.mem_cons_of_mem _ hw), hK, hN, hX⟩ hP hD va_S.rf hl
