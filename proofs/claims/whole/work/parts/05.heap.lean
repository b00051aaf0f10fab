/-! fields -/
def clsOK (a : Nat) (C : String) (T : u_T) (N : Nat) (ty : Nat → FieldType) : Prop := vwCl[a]? = some (C, T, N) ∧ N = nf a ∧ a < 9 ∧ (∀ w ∈ u_ws C T N, w ∈ tbG) ∧ (∀ k, k < N → parseFieldDescriptor (T k).2.2.1 = some (ty k)) ∧ (∀ x, x < N → ∀ y, y < N → x ≠ y → (T x).2.1 ≠ (T y).2.1)
/-- a field's link: of the class of number a, the slot k; f: it is final; t: its type -/
def FL (own : String) (i a k : Nat) (f : Bool) (t : FieldType) : Prop := ∃ (C : String) (T : u_T) (N : Nat) (ty : Nat → FieldType), clsOK a C T N ty ∧ k < N ∧ (T k).1 = C ∧ (T k).2.2.2 = f ∧ ty k = t ∧ (Cond.fieldLink own i C (T k).2.1 (T k).2.2.1 ∈ tbG ∨ ∃ h, Cond.fieldLinkNest own i C (T k).2.1 (T k).2.2.1 h ∈ tbN)
theorem cellE_obj {X : Cx} {w : Wd} {pa : List Nat} {a n : Nat} (ha : a < 9) : cellE X w (pa, a, n) = (adr X a pa, .inr (a, (List.range (nf a)).map (fv X w pa a))) := by
  have h1 : adr X a pa = X.2.2.2.1 pa := by
    unfold adr
    rw [if_neg (by omega), if_neg (by omega)]
  rw [h1]
  simp only [cellE, if_pos ha]
theorem cellE_int {X : Cx} {w : Wd} {pa : List Nat} {n : Nat} : cellE X w (pa, 9, n) = (adr X 9 pa, .inl (X.2.2.1 0, n, .inl (w.1 pa))) := rfl
theorem cellE_bool {X : Cx} {w : Wd} {pa : List Nat} {n : Nat} : cellE X w (pa, 10, n) = (adr X 10 pa, .inl (X.2.2.1 1, n, .inl (w.1 pa))) := rfl
theorem cellE_arr {X : Cx} {w : Wd} {pa : List Nat} {n : Nat} : cellE X w (pa, 11, n) = (adr X 11 pa, .inl (X.2.2.1 2, n, .inr (.inr (.inr (.inr (fun i => some (X.2.2.2.1 (i :: pa)))))))) := rfl
theorem okv_obj {r a n : Nat} {pa : List Nat} (ha : a < 13) (h : okv r (vR a n pa)) : (pa, a, n) ∈ PT r := by
  rcases h with ⟨h, -⟩ | ⟨h, -⟩ | ⟨-, h⟩
  · dsimp only at h; omega
  · dsimp only at h; omega
  · exact h
def ptc (r : Nat) : Bool := (PT r).all fun e => (List.range (nf e.2.1)).all fun k => !(decide ((fk e.2.1 k).1 < 100)) || (decide ((fk e.2.1 k).1 < 13) && decide ((k :: e.1, fk e.2.1 k) ∈ PT r))
def pte (r : Nat) : Bool := (PT r).all fun e => !(decide (e.2.1 = 11)) || (List.range e.2.2).all fun k => decide ((k :: e.1, 5, 0) ∈ PT r)
theorem ptc_t (r : Nat) : ptc r = true := by
  match r with
  | 0 => decide +kernel
  | 1 => decide +kernel
  | _ + 2 => rfl
theorem pte_t (r : Nat) : pte r = true := by
  match r with
  | 0 => decide +kernel
  | 1 => decide +kernel
  | _ + 2 => rfl
theorem PT_ref : ∀ r, ∀ e ∈ PT r, ∀ k, k < nf e.2.1 → (fk e.2.1 k).1 < 100 → (fk e.2.1 k).1 < 13 ∧ (k :: e.1, fk e.2.1 k) ∈ PT r := by
  intro r e he k hk h1
  have h := List.all_eq_true.mp (List.all_eq_true.mp (ptc_t r) e he) k (List.mem_range.mpr hk)
  simp only [Bool.or_eq_true, Bool.not_eq_true', decide_eq_false_iff_not, Bool.and_eq_true, decide_eq_true_eq] at h
  rcases h with h | h
  · exact absurd h1 h
  · exact h
theorem PT_elm : ∀ r, ∀ e ∈ PT r, e.2.1 = 11 → ∀ k, k < e.2.2 → (k :: e.1, 5, 0) ∈ PT r := by
  intro r e he h1 k hk
  have h := List.all_eq_true.mp (pte_t r) e he
  simp only [Bool.or_eq_true, Bool.not_eq_true', decide_eq_false_iff_not] at h
  rcases h with h | h
  · exact absurd h1 h
  · have h2 := List.all_eq_true.mp h k (List.mem_range.mpr hk)
    simpa using h2
theorem va_get2 {p : Program} {l : Launch} {e : Env} {R : Room} {s : State} {m : MethodId} {args : Array Value} {below : List Frame} {meth : Method} {c : Code} {H : Heap} {locs : List Loc} {cells slots : Nat} {Q : State → Prop} {cc : ByteArray} {pc : Nat} {ls : Array Slot} {rest : List Value} {D : va_G} {cl : List vw_C} {aa : Nat} {tys : List (ClassId × FieldType)} {ws : va_W}
    (hexec : p.tables.exec = Jvm.exec) (hb : c.code = cc) {own C : String} {T : u_T} {N ci index : Nat} (hts : ∀ w ∈ tbG, w.before args s = true) (hn : Ns s) (hin : ∀ w ∈ u_ws C T N, w ∈ tbG) (hown : s.vm.findClass own = some m.cls) (hK : va_K D cl tys s) (hP : va_P D cl ws H) (q0 : Nat) {fs : List Value} (he : ws[q0]? = some (aa, .inr (ci, fs))) (hc : cl[ci]? = some (C, T, N)) (k : Nat) (hk : k < N) (ht : (T k).1 = C)
    (hl : Cond.fieldLink own index C (T k).2.1 (T k).2.2.1 ∈ tbG ∨ ∃ h, Cond.fieldLinkNest own index C (T k).2.1 (T k).2.2.1 h ∈ tbN) {v : Value} (hv : fs[k]? = some v) (hdg : decode cc pc = .ok (.getfield index, 3))
    (kk : W p l e R s m args below meth c H locs cells slots Q (F0 m (pc + 3) ls (v :: rest))) : W p l e R s m args below meth c H locs cells slots Q (F0 m pc ls (.ref aa :: rest)) := by
  rcases hl with hl | ⟨h, hl⟩
  · exact va_get hexec hb hts hin hown hK hP q0 he hc k hk (hts _ hl) (fun x hx => by rw [← ht]; exact hx) hv hdg kk
  · exact va_getN hexec hb hts hin hown hK hP q0 he hc k hk (va_Nw.use rfl (hn _ hl)) (fun x hx => by rw [← ht]; exact hx) hv hdg kk
section RH
variable {X : Cx} {r d : Nat} {M : Mth} {pc q : Nat} {loc : Lo} {stk : List AV} {w : Wd} {Q : Option AV → Wd → Prop}
theorem R_getI {i a n k : Nat} {pa : List Nat} {f : Bool} {t : FieldType} (hd : decode M.2.1 pc = .ok (.getfield i, 3)) (hf : FL M.2.2.2.2 i a k f t) (hk : (fk a k).1 = 100) (hq : pc + 3 = q) (kk : Wq X r d M q loc (vI (w.1 pa k) :: stk) w Q) : Wq X r d M pc loc (vR a n pa :: stk) w Q := by
  subst hq
  intro h1 h2 p e s m args below meth c H locs ls B hP hD hS hl
  obtain ⟨C, T, N, ty, ⟨hc, hN, ha, hin, hty, hnm⟩, hkN, hT, -, -, hlk⟩ := hf
  obtain ⟨j, -, hj⟩ := wld_at (X := X) (w := w) (okv_obj (by omega) h2.hd)
  rw [cellE_obj ha] at hj
  refine va_get2 (v := .int (w.1 pa k)) (rest := stk.map (con X)) B.1 B.2.1 B.2.2.2.2.2.2.1 B.2.2.2.2.2.2.2.2.1 hin B.2.2.2.2.2.1 B.2.2.2.2.2.2.2.1 hP j hj hc k hkN hT hlk ?_ hd (kk h1 h2.tl.i p e s m args below meth c H locs ls B hP hD hS hl)
  rw [List.getElem?_map, List.getElem?_range (by rw [← hN]; exact hkN)]
  simp only [Option.map_some, fv, hk, if_true]
theorem R_getL {i a n k : Nat} {pa : List Nat} {f : Bool} {t : FieldType} (hd : decode M.2.1 pc = .ok (.getfield i, 3)) (hf : FL M.2.2.2.2 i a k f t) (hk : (fk a k).1 = 101) (hq : pc + 3 = q) (kk : Wq X r d M q loc (vL (w.2 pa) :: stk) w Q) : Wq X r d M pc loc (vR a n pa :: stk) w Q := by
  subst hq
  intro h1 h2 p e s m args below meth c H locs ls B hP hD hS hl
  obtain ⟨C, T, N, ty, ⟨hc, hN, ha, hin, hty, hnm⟩, hkN, hT, -, -, hlk⟩ := hf
  obtain ⟨j, -, hj⟩ := wld_at (X := X) (w := w) (okv_obj (by omega) h2.hd)
  rw [cellE_obj ha] at hj
  refine va_get2 (v := .long (w.2 pa)) (rest := stk.map (con X)) B.1 B.2.1 B.2.2.2.2.2.2.1 B.2.2.2.2.2.2.2.2.1 hin B.2.2.2.2.2.1 B.2.2.2.2.2.2.2.1 hP j hj hc k hkN hT hlk ?_ hd (kk h1 h2.tl.l p e s m args below meth c H locs ls B hP hD hS hl)
  rw [List.getElem?_map, List.getElem?_range (by rw [← hN]; exact hkN)]
  simp only [Option.map_some, fv, hk]
  rfl
theorem R_getR {i a n k b nb : Nat} {pa : List Nat} {f : Bool} {t : FieldType} (hd : decode M.2.1 pc = .ok (.getfield i, 3)) (hf : FL M.2.2.2.2 i a k f t) (hk : fk a k = (b, nb)) (hb : b < 100) (hq : pc + 3 = q) (kk : Wq X r d M q loc (vR b nb (k :: pa) :: stk) w Q) : Wq X r d M pc loc (vR a n pa :: stk) w Q := by
  subst hq
  intro h1 h2 p e s m args below meth c H locs ls B hP hD hS hl
  obtain ⟨C, T, N, ty, ⟨hc, hN, ha, hin, hty, hnm⟩, hkN, hT, -, -, hlk⟩ := hf
  have hm := okv_obj (by omega) h2.hd
  obtain ⟨j, -, hj⟩ := wld_at (X := X) (w := w) hm
  have hr := PT_ref r _ hm k (by rw [← hN]; exact hkN) (by dsimp only; rw [hk]; exact hb)
  dsimp only at hr
  rw [hk] at hr
  rw [cellE_obj ha] at hj
  have hadr : adr X b (k :: pa) = X.2.2.2.1 (k :: pa) := by
    unfold adr
    have := hr.1
    dsimp only at this
    rw [if_neg (by omega), if_neg (by omega)]
  refine va_get2 (v := .ref (adr X b (k :: pa))) (rest := stk.map (con X)) B.1 B.2.1 B.2.2.2.2.2.2.1 B.2.2.2.2.2.2.2.2.1 hin B.2.2.2.2.2.1 B.2.2.2.2.2.2.2.1 hP j hj hc k hkN hT hlk ?_ hd (kk h1 (okl.cons (Or.inr (Or.inr hr)) h2.tl) p e s m args below meth c H locs ls B hP hD hS hl)
  rw [List.getElem?_map, List.getElem?_range (by rw [← hN]; exact hkN), hadr]
  simp only [Option.map_some, fv, hk]
  rw [if_neg (by omega), if_neg (by omega)]
theorem fv_set {X : Cx} {w w' : Wd} {pa : List Nat} {a k : Nat} {v : Value} (hk : k < nf a) (hv : fv X w' pa a k = v) (ho : ∀ j, j ≠ k → fv X w' pa a j = fv X w pa a j) : ((List.range (nf a)).map (fv X w pa a)).set k v = (List.range (nf a)).map (fv X w' pa a) := by
  apply List.ext_getElem?
  intro j
  by_cases hj : k = j
  · subst hj
    rw [List.getElem?_set_self (by simp [hk]), List.getElem?_map, List.getElem?_range hk, Option.map_some, hv]
  · rw [List.getElem?_set_ne hj, List.getElem?_map, List.getElem?_map]
    by_cases hlt : j < nf a
    · rw [List.getElem?_range hlt, Option.map_some, Option.map_some, ho j (fun h => hj h.symm)]
    · rw [List.getElem?_eq_none (by simpa using hlt)]
      rfl
theorem R_putI {i a n k : Nat} {pa : List Nat} {x : Int32} (hd : decode M.2.1 pc = .ok (.putfield i, 3)) (hf : FL M.2.2.2.2 i a k false .int) (hk : (fk a k).1 = 100) (hq : pc + 3 = q) (kk : Wq X r d M q loc stk (uI w pa k x) Q) : Wq X r d M pc loc (vI x :: vR a n pa :: stk) w Q := by
  subst hq
  intro h1 h2 p e s m args below meth c H locs ls B hP hD hS hl
  obtain ⟨C, T, N, ty, ⟨hc, hN, ha, hin, hty, hnm⟩, hkN, hT, hfin, htk, hlk⟩ := hf
  have hm := okv_obj (by omega) h2.tl.hd
  obtain ⟨j, hj0, hj⟩ := wld_at (X := X) (w := w) hm
  rw [cellE_obj ha] at hj
  have hfv : ((List.range (nf a)).map (fv X w pa a)).set k (.int x) = (List.range (nf a)).map (fv X (uI w pa k x) pa a) := by
    refine fv_set (by rw [← hN]; exact hkN) ?_ ?_
    · simp only [fv, hk, if_true, uI, uA_same, upd]
    · intro y hy
      unfold fv
      simp only [uI, uA_same, upd, if_neg hy]
      rfl
  have hset : (wld X r w).set j (adr X a pa, .inr (a, ((List.range (nf a)).map (fv X w pa a)).set k (.int x))) = wld X r (uI w pa k x) := by
    rw [hfv, ← cellE_obj (n := n) ha]
    exact wld_set hj0 (fun y hy => ⟨uA_ne hy, rfl⟩)
  have hlen : k < ((List.range (nf a)).map (fv X w pa a)).length := by simp only [List.length_map, List.length_range]; rw [← hN]; exact hkN
  have kk2 : ∀ (H1 : Heap) (locs1 : List Loc), va_P X.2.1 vwCl ((wld X r w).set j (adr X a pa, .inr (a, ((List.range (nf a)).map (fv X w pa a)).set k (.int x)))) H1 → va_D (Ar X r) ((wld X r w).set j (adr X a pa, .inr (a, ((List.range (nf a)).map (fv X w pa a)).set k (.int x)))) → va_S (Ar X r) s.heap H1 locs1 → W p X.1 e (rmD d) s m args below meth c H1 locs1 0 0 (MQ below (Qres X r Q) args s 0 0 (Ar X r)) (F0 m (pc + 3) ls (stk.map (con X))) := by
    intro H1 locs1 hP1 hD1 hS1
    rw [hset] at hP1 hD1
    exact kk h1 h2.tl.tl p e s m args below meth c H1 locs1 ls B hP1 hD1 hS1 hl
  rcases hlk with hlk | ⟨hh, hlk⟩
  · exact va_put (v := .int x) (ty := .int) (rest := stk.map (con X)) B.1 B.2.1 B.2.2.2.2.2.2.1 hin ty hty hnm B.2.2.2.2.2.1 B.2.2.2.2.2.2.2.1 hP hD hS j hj hc k hkN (B.2.2.2.2.2.2.1 _ hlk) (fun x hx => by rw [← hT]; exact hx) hfin (by rw [hty k hkN, htk]) rfl rfl hlen hd kk2
  · exact va_putN (v := .int x) (ty := .int) (rest := stk.map (con X)) B.1 B.2.1 B.2.2.2.2.2.2.1 hin ty hty hnm B.2.2.2.2.2.1 B.2.2.2.2.2.2.2.1 hP hD hS j hj hc k hkN (va_Nw.use rfl (B.2.2.2.2.2.2.2.2.1 _ hlk)) (fun x hx => by rw [← hT]; exact hx) hfin (by rw [hty k hkN, htk]) rfl rfl hlen hd kk2
theorem R_putL {i a n k : Nat} {pa : List Nat} {x : Int64} (hd : decode M.2.1 pc = .ok (.putfield i, 3)) (hf : FL M.2.2.2.2 i a k false .long) (hk : (fk a k).1 = 101) (h1l : ∀ j, (fk a j).1 = 101 → j = k) (hq : pc + 3 = q) (kk : Wq X r d M q loc stk (uL w pa x) Q) : Wq X r d M pc loc (vL x :: vR a n pa :: stk) w Q := by
  subst hq
  intro h1 h2 p e s m args below meth c H locs ls B hP hD hS hl
  obtain ⟨C, T, N, ty, ⟨hc, hN, ha, hin, hty, hnm⟩, hkN, hT, hfin, htk, hlk⟩ := hf
  have hm := okv_obj (by omega) h2.tl.hd
  obtain ⟨j, hj0, hj⟩ := wld_at (X := X) (w := w) hm
  rw [cellE_obj ha] at hj
  have hfv : ((List.range (nf a)).map (fv X w pa a)).set k (.long x) = (List.range (nf a)).map (fv X (uL w pa x) pa a) := by
    refine fv_set (by rw [← hN]; exact hkN) ?_ ?_
    · simp [fv, hk, uL]
    · intro y hy
      have h3 : ¬ (fk a y).1 = 101 := fun h => hy (h1l y h)
      unfold fv
      rw [if_neg h3, if_neg h3]
      rfl
  have hset : (wld X r w).set j (adr X a pa, .inr (a, ((List.range (nf a)).map (fv X w pa a)).set k (.long x))) = wld X r (uL w pa x) := by
    rw [hfv, ← cellE_obj (n := n) ha]
    exact wld_set hj0 (fun y hy => ⟨rfl, by simp only [uL]; rw [if_neg hy]⟩)
  have hlen : k < ((List.range (nf a)).map (fv X w pa a)).length := by simp only [List.length_map, List.length_range]; rw [← hN]; exact hkN
  have kk2 : ∀ (H1 : Heap) (locs1 : List Loc), va_P X.2.1 vwCl ((wld X r w).set j (adr X a pa, .inr (a, ((List.range (nf a)).map (fv X w pa a)).set k (.long x)))) H1 → va_D (Ar X r) ((wld X r w).set j (adr X a pa, .inr (a, ((List.range (nf a)).map (fv X w pa a)).set k (.long x)))) → va_S (Ar X r) s.heap H1 locs1 → W p X.1 e (rmD d) s m args below meth c H1 locs1 0 0 (MQ below (Qres X r Q) args s 0 0 (Ar X r)) (F0 m (pc + 3) ls (stk.map (con X))) := by
    intro H1 locs1 hP1 hD1 hS1
    rw [hset] at hP1 hD1
    exact kk h1 h2.tl.tl p e s m args below meth c H1 locs1 ls B hP1 hD1 hS1 hl
  rcases hlk with hlk | ⟨hh, hlk⟩
  · exact va_put (v := .long x) (ty := .long) (rest := stk.map (con X)) B.1 B.2.1 B.2.2.2.2.2.2.1 hin ty hty hnm B.2.2.2.2.2.1 B.2.2.2.2.2.2.2.1 hP hD hS j hj hc k hkN (B.2.2.2.2.2.2.1 _ hlk) (fun x hx => by rw [← hT]; exact hx) hfin (by rw [hty k hkN, htk]) rfl rfl hlen hd kk2
  · exact va_putN (v := .long x) (ty := .long) (rest := stk.map (con X)) B.1 B.2.1 B.2.2.2.2.2.2.1 hin ty hty hnm B.2.2.2.2.2.1 B.2.2.2.2.2.2.2.1 hP hD hS j hj hc k hkN (va_Nw.use rfl (B.2.2.2.2.2.2.2.2.1 _ hlk)) (fun x hx => by rw [← hT]; exact hx) hfin (by rw [hty k hkN, htk]) rfl rfl hlen hd kk2
/-! arrays -/
theorem R_iald {n b : Nat} {i : Int32} {pa : List Nat} (hd : decode M.2.1 pc = .ok (.iaload, 1)) (hi : i = nI b) (hb : b < n) (hn : n < 2 ^ 31) (hq : pc + 1 = q) (kk : Wq X r d M q loc (vI (w.1 pa b) :: stk) w Q) : Wq X r d M pc loc (vI i :: vR 9 n pa :: stk) w Q := by
  subst hq; subst hi
  intro h1 h2 p e s m args below meth c H locs ls B hP hD hS hl
  obtain ⟨j, -, hj⟩ := wld_at (X := X) (w := w) (okv_obj (by omega) h2.tl.hd)
  rw [cellE_int] at hj
  refine va_iald (rest := stk.map (con X)) B.1 B.2.1 B.2.2.2.2.2.2.2.1 hP j 0 hj rfl (vp_in_nI hb hn) hd ?_
  rw [nI_clamp (by omega)]
  exact kk h1 h2.tl.tl.i p e s m args below meth c H locs ls B hP hD hS hl
theorem R_zald {n b : Nat} {i : Int32} {pa : List Nat} (hd : decode M.2.1 pc = .ok (.baload, 1)) (hi : i = nI b) (hb : b < n) (hn : n < 2 ^ 31) (hq : pc + 1 = q) (kk : Wq X r d M q loc (vI (w.1 pa b) :: stk) w Q) : Wq X r d M pc loc (vI i :: vR 10 n pa :: stk) w Q := by
  subst hq; subst hi
  intro h1 h2 p e s m args below meth c H locs ls B hP hD hS hl
  obtain ⟨j, -, hj⟩ := wld_at (X := X) (w := w) (okv_obj (by omega) h2.tl.hd)
  rw [cellE_bool] at hj
  refine va_zald (rest := stk.map (con X)) B.1 B.2.1 B.2.2.2.2.2.2.2.1 hP j 1 hj rfl (vp_in_nI hb hn) hd ?_
  rw [nI_clamp (by omega)]
  exact kk h1 h2.tl.tl.i p e s m args below meth c H locs ls B hP hD hS hl
theorem R_aald {n b : Nat} {i : Int32} {pa : List Nat} (hd : decode M.2.1 pc = .ok (.aaload, 1)) (hi : i = nI b) (hb : b < n) (hn : n < 2 ^ 31) (hq : pc + 1 = q) (kk : Wq X r d M q loc (vR 5 0 (b :: pa) :: stk) w Q) : Wq X r d M pc loc (vI i :: vR 11 n pa :: stk) w Q := by
  subst hq; subst hi
  intro h1 h2 p e s m args below meth c H locs ls B hP hD hS hl
  have hm := okv_obj (by omega) h2.tl.hd
  obtain ⟨j, -, hj⟩ := wld_at (X := X) (w := w) hm
  rw [cellE_arr] at hj
  refine va_aldq (rest := stk.map (con X)) B.1 B.2.1 B.2.2.2.2.2.2.2.1 hP j 2 hj rfl (vp_in_nI hb hn) hd ?_
  rw [nI_clamp (by omega)]
  exact kk h1 (okl.cons (Or.inr (Or.inr ⟨Nat.le_of_ble_eq_true rfl, PT_elm r _ hm rfl b hb⟩)) h2.tl.tl) p e s m args below meth c H locs ls B hP hD hS hl
theorem R_alen {n : Nat} {pa : List Nat} (hd : decode M.2.1 pc = .ok (.arraylength, 1)) (hq : pc + 1 = q) (kk : Wq X r d M q loc (vI (nI n) :: stk) w Q) : Wq X r d M pc loc (vR 9 n pa :: stk) w Q := by
  subst hq
  intro h1 h2 p e s m args below meth c H locs ls B hP hD hS hl
  obtain ⟨j, -, hj⟩ := wld_at (X := X) (w := w) (okv_obj (by omega) h2.hd)
  rw [cellE_int] at hj
  exact va_alen (v := nI n) (rest := stk.map (con X)) B.1 B.2.1 B.2.2.2.2.2.2.2.1 hP j 0 hj rfl rfl hd (kk h1 h2.tl.i p e s m args below meth c H locs ls B hP hD hS hl)
theorem R_iast {n b : Nat} {i x : Int32} {pa : List Nat} (hd : decode M.2.1 pc = .ok (.iastore, 1)) (hi : i = nI b) (hb : b < n) (hn : n < 2 ^ 31) (hq : pc + 1 = q) (kk : Wq X r d M q loc stk (uI w pa b x) Q) : Wq X r d M pc loc (vI x :: vI i :: vR 9 n pa :: stk) w Q := by
  subst hq; subst hi
  intro h1 h2 p e s m args below meth c H locs ls B hP hD hS hl
  obtain ⟨j, hj0, hj⟩ := wld_at (X := X) (w := w) (okv_obj (by omega) h2.tl.tl.hd)
  rw [cellE_int] at hj
  refine va_iast (rest := stk.map (con X)) B.1 B.2.1 B.2.2.2.2.2.2.2.1 hP hD hS j 0 hj rfl (vp_in_nI hb hn) hd ?_
  intro H1 locs1 hP1 hD1 hS1
  rw [nI_clamp (by omega)] at hP1 hD1
  have hset : (wld X r w).set j (adr X 9 pa, .inl (X.2.2.1 0, n, .inl (upd (w.1 pa) b x))) = wld X r (uI w pa b x) := by
    rw [← wld_set (w := w) (w' := uI w pa b x) hj0 (fun y hy => ⟨uA_ne hy, rfl⟩), cellE_int, uI, uA_same]
  rw [hset] at hP1 hD1
  exact kk h1 h2.tl.tl.tl p e s m args below meth c H1 locs1 ls B hP1 hD1 hS1 hl
theorem R_zast {n b : Nat} {i x : Int32} {pa : List Nat} (hd : decode M.2.1 pc = .ok (.bastore, 1)) (hi : i = nI b) (hb : b < n) (hn : n < 2 ^ 31) (hx : x &&& 1 = x) (hq : pc + 1 = q) (kk : Wq X r d M q loc stk (uI w pa b x) Q) : Wq X r d M pc loc (vI x :: vI i :: vR 10 n pa :: stk) w Q := by
  subst hq; subst hi
  intro h1 h2 p e s m args below meth c H locs ls B hP hD hS hl
  obtain ⟨j, hj0, hj⟩ := wld_at (X := X) (w := w) (okv_obj (by omega) h2.tl.tl.hd)
  rw [cellE_bool] at hj
  refine va_zast (rest := stk.map (con X)) B.1 B.2.1 B.2.2.2.2.2.2.2.1 hP hD hS j 1 hj rfl (vp_in_nI hb hn) hd ?_
  intro H1 locs1 hP1 hD1 hS1
  rw [nI_clamp (by omega), show vp_nar .boolean x = x from hx] at hP1 hD1
  have hset : (wld X r w).set j (adr X 10 pa, .inl (X.2.2.1 1, n, .inl (upd (w.1 pa) b x))) = wld X r (uI w pa b x) := by
    rw [← wld_set (w := w) (w' := uI w pa b x) hj0 (fun y hy => ⟨uA_ne hy, rfl⟩), cellE_bool, uI, uA_same]
  rw [hset] at hP1 hD1
  exact kk h1 h2.tl.tl.tl p e s m args below meth c H1 locs1 ls B hP1 hD1 hS1 hl
def dEl (k : Nat) : Int64 := match k with
  | 0 => 1
  | 1 => 1000
  | 2 => 1000000
  | 3 => 1000000000
  | _ => 1000000000000
def oBi (k : Nat) : Int32 := match k with
  | 0 => 0
  | 1 => 6
  | 2 => 2
  | 3 => 2
  | _ => 6
theorem dE_l (k : Nat) : dE k = .long (dEl k) := match k with
  | 0 => rfl
  | 1 => rfl
  | 2 => rfl
  | 3 => rfl
  | _ + 4 => rfl
theorem oB_i (k : Nat) : oB k = .int (oBi k) := match k with
  | 0 => rfl
  | 1 => rfl
  | 2 => rfl
  | 3 => rfl
  | _ + 4 => rfl
theorem R_gets13 {i : Nat} (hd : decode M.2.1 pc = .ok (.getstatic i, 3)) (hl0 : Cond.fieldLink M.2.2.2.2 i "TwoHalves" "DOINGS_END" "[J" ∈ tbG) (hq : pc + 3 = q) (kk : Wq X r d M q loc (vR 13 5 [] :: stk) w Q) : Wq X r d M pc loc stk w Q := by
  subst hq
  intro h1 h2 p e s m args below meth c H locs ls B hP hD hS hl
  exact va_gets (rest := stk.map (con X)) B.1 B.2.1 B.2.2.2.2.2.2.2.2.2.1 hS B.2.2.2.2.2.1 (B.2.2.2.2.2.2.1 _ hl0) (fun _ h => h) hd (kk h1 (okl.cons (Or.inl ⟨rfl, rfl⟩) h2) p e s m args below meth c H locs ls B hP hD hS hl)
theorem R_gets14 {i : Nat} (hd : decode M.2.1 pc = .ok (.getstatic i, 3)) (hl0 : Cond.fieldLink M.2.2.2.2 i "TwoHalves" "ORDERS_BY_LOST" "[I" ∈ tbG) (hq : pc + 3 = q) (kk : Wq X r d M q loc (vR 14 5 [] :: stk) w Q) : Wq X r d M pc loc stk w Q := by
  subst hq
  intro h1 h2 p e s m args below meth c H locs ls B hP hD hS hl
  exact va_gets (rest := stk.map (con X)) B.1 B.2.1 B.2.2.2.2.2.2.2.2.2.2.2.1 hS B.2.2.2.2.2.1 (B.2.2.2.2.2.2.1 _ hl0) (fun _ h => h) hd (kk h1 (okl.cons (Or.inr (Or.inl ⟨rfl, rfl⟩)) h2) p e s m args below meth c H locs ls B hP hD hS hl)
theorem R_lald13 {n b : Nat} {i : Int32} {pa : List Nat} (hd : decode M.2.1 pc = .ok (.laload, 1)) (hi : i = nI b) (hb : b < 5) (hq : pc + 1 = q) (kk : Wq X r d M q loc (vL (dEl b) :: stk) w Q) : Wq X r d M pc loc (vI i :: vR 13 n pa :: stk) w Q := by
  subst hq; subst hi
  intro h1 h2 p e s m args below meth c H locs ls B hP hD hS hl
  exact va_tl (v := .long (dEl b)) (rest := stk.map (con X)) B.1 B.2.1 B.2.2.2.2.2.2.2.2.2.2.1 hS (vp_in_nI hb (by decide)) (by rw [nI_clamp (by omega), dE_l]) hd (kk h1 h2.tl.tl.l p e s m args below meth c H locs ls B hP hD hS hl)
theorem R_iald14 {n b : Nat} {i : Int32} {pa : List Nat} (hd : decode M.2.1 pc = .ok (.iaload, 1)) (hi : i = nI b) (hb : b < 5) (hq : pc + 1 = q) (kk : Wq X r d M q loc (vI (oBi b) :: stk) w Q) : Wq X r d M pc loc (vI i :: vR 14 n pa :: stk) w Q := by
  subst hq; subst hi
  intro h1 h2 p e s m args below meth c H locs ls B hP hD hS hl
  exact va_ti (v := .int (oBi b)) (rest := stk.map (con X)) B.1 B.2.1 B.2.2.2.2.2.2.2.2.2.2.2.2 hS (vp_in_nI hb (by decide)) (by rw [nI_clamp (by omega), oB_i]) hd (kk h1 h2.tl.tl.i p e s m args below meth c H locs ls B hP hD hS hl)
/-- System.arraycopy of the first places -/
theorem R_copy {i n0 n1 b : Nat} {sp dp nn : Int32} {p0 p1 : List Nat} (hd : decode M.2.1 pc = .ok (.invokestatic i, 3)) (hl0 : Cond.methodLink M.2.2.2.2 i arraycopyName ∈ tbG) (hw : Cond.native arraycopyName ∈ tbG ∧ Cond.static arraycopyName ∈ tbG ∧ Cond.initialized "java/lang/System" ∈ tbG) (hsp : sp = nI 0) (hdp : dp = nI 0) (hnn : nn = nI b) (hb0 : b ≤ n0) (hb1 : b ≤ n1) (hbb : b < 2 ^ 31) (hc : (stk.map cat).sum ≤ 8) (hq : pc + 3 = q) (kk : Wq X r (d + 1) M q loc stk (uA w p1 (fun k => if k < b then w.1 p0 k else w.1 p1 k)) Q) : Wq X r (d + 1) M pc loc (vI nn :: vI dp :: vR 9 n1 p1 :: vI sp :: vR 9 n0 p0 :: stk) w Q := by
  subst hq; subst hsp; subst hdp; subst hnn
  intro h1 h2 p e s m args below meth c H locs ls B hP hD hS hl
  obtain ⟨j1, hj10, hj1⟩ := wld_at (X := X) (w := w) (okv_obj (by omega) h2.tl.tl.hd)
  obtain ⟨j0, hj00, hj0⟩ := wld_at (X := X) (w := w) (okv_obj (by omega) h2.tl.tl.tl.tl.hd)
  rw [cellE_int] at hj1 hj0
  refine va_copyi (ty := .int) (rest := stk.map (con X)) B.1 B.2.1 (B.2.2.1.trans hl.1.symm) B.2.2.2.2.2.1 (B.2.2.2.2.2.2.1 _ hl0) (B.2.2.2.2.2.2.1 _ hw.1) (B.2.2.2.2.2.2.1 _ hw.2.1) (B.2.2.2.2.2.2.1 _ hw.2.2) B.2.2.2.2.2.2.2.1 hP hD hS j0 j1 0 0 hj0 hj1 rfl rfl rfl (nI_pos (by decide)) (nI_pos (by decide)) (nI_pos hbb) (by rw [nI_clamp (by decide), nI_clamp hbb]; omega) (by rw [nI_clamp (by decide), nI_clamp hbb]; omega) (fun _ _ => rfl) (Nat.le_add_left 1 d) ?_ hd ?_
  · rw [con_sum]
    have h5 : nativeFrameWords "java/lang/System" "arraycopy" 5 + 11 ≤ 32 := by decide
    show _ ≤ 40 * (d + 1)
    omega
  · intro H1 locs1 hP1 hD1 hS1
    rw [nI_clamp (by decide), nI_clamp hbb] at hP1 hD1
    have hset : (wld X r w).set j1 (adr X 9 p1, .inl (X.2.2.1 0, n1, .inl (va_cpy (w.1 p0) (w.1 p1) 0 0 b))) = wld X r (uA w p1 (fun k => if k < b then w.1 p0 k else w.1 p1 k)) := by
      rw [← wld_set (w := w) (w' := uA w p1 (fun k => if k < b then w.1 p0 k else w.1 p1 k)) hj10 (fun y hy => ⟨uA_ne hy, rfl⟩), cellE_int, uA_same]
      have hf : va_cpy (w.1 p0) (w.1 p1) 0 0 b = fun k => if k < b then w.1 p0 k else w.1 p1 k := by
        funext k
        simp [va_cpy]
      rw [hf]
    rw [hset] at hP1 hD1
    exact kk h1 h2.tl.tl.tl.tl.tl p e s m args below meth c H1 locs1 ls B hP1 hD1 hS1 hl
/-! ends -/
theorem R_iret {v : Int32} (hd : decode M.2.1 pc = .ok (.ireturn, 1)) (hr : M.2.2.2.1 = some .int) (hQ : Q (some (vI v)) w) : Wq X r d M pc loc [vI v] w Q := by
  intro h1 h2 p e s m args below meth c H locs ls B hP hD hS hl
  exact W.iret (v := v) B.1 B.2.1 (B.2.2.2.1.trans hr) (fun t ht hW => ⟨⟨some (vI v), w, rfl, hQ, okl.nil.i, by rw [ht]; exact hP, hD⟩, hS.F ht⟩) hS.2.2 hd B.2.2.2.2.1
theorem R_zret {v : Int32} (hd : decode M.2.1 pc = .ok (.ireturn, 1)) (hr : M.2.2.2.1 = some .boolean) (hv : v &&& 1 = v) (hQ : Q (some (vI v)) w) : Wq X r d M pc loc [vI v] w Q := by
  intro h1 h2 p e s m args below meth c H locs ls B hP hD hS hl
  exact W.zret (v := v) (ty := .boolean) B.1 B.2.1 (B.2.2.2.1.trans hr) (congrArg Value.int hv) (fun t ht hW => ⟨⟨some (vI v), w, rfl, hQ, okl.nil.i, by rw [ht]; exact hP, hD⟩, hS.F ht⟩) hS.2.2 hd B.2.2.2.2.1
theorem R_lret {v : Int64} (hd : decode M.2.1 pc = .ok (.lreturn, 1)) (hr : M.2.2.2.1 = some .long) (hQ : Q (some (vL v)) w) : Wq X r d M pc loc [vL v] w Q := by
  intro h1 h2 p e s m args below meth c H locs ls B hP hD hS hl
  exact W.lret (v := v) B.1 B.2.1 (B.2.2.2.1.trans hr) (fun t ht hW => ⟨⟨some (vL v), w, rfl, hQ, okl.nil.l, by rw [ht]; exact hP, hD⟩, hS.F ht⟩) hS.2.2 hd B.2.2.2.2.1
theorem R_vret (hd : decode M.2.1 pc = .ok (.return_, 1)) (hr : M.2.2.2.1 = none) (hQ : Q none w) : Wq X r d M pc loc [] w Q := by
  intro h1 h2 p e s m args below meth c H locs ls B hP hD hS hl
  exact W.vret B.1 B.2.1 (B.2.2.2.1.trans hr) (fun t ht hW => ⟨⟨none, w, rfl, hQ, okl.nil, by rw [ht]; exact hP, hD⟩, hS.F ht⟩) hS.2.2 hd B.2.2.2.2.1
end RH
