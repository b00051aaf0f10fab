section RU
variable {X : Cx} {r d : Nat} {M : Mth} {pc q : Nat} {loc : Lo} {stk : List AV} {w : Wd} {Q : Option AV → Wd → Prop}
theorem R_iload_n {k : Fin 4} {i : Nat} {x : Int32} (hd : decode M.2.1 pc = .ok (.iload_n k, 1)) (hi : (k : Nat) = i) (hg : lgt loc i = some (vI x)) (hq : pc + 1 = q) (k : Wq X r d M q loc (vI x :: stk) w Q) : Wq X r d M pc loc (stk) w Q := by
  subst hq
  intro h1 h2 p e s m args below meth c H locs ls B hP hD hS hl
  exact lv_iload_n (x := x) (rest := stk.map (con X)) B.1 B.2.1 hd hi (lgt_at hg hl) (k h1 h2.i p e s m args below meth c H locs ls B hP hD hS hl)
theorem R_iload {i : Nat} {x : Int32} (hd : decode M.2.1 pc = .ok (.iload i, 2)) (hg : lgt loc i = some (vI x)) (hq : pc + 2 = q) (k : Wq X r d M q loc (vI x :: stk) w Q) : Wq X r d M pc loc (stk) w Q := by
  subst hq
  intro h1 h2 p e s m args below meth c H locs ls B hP hD hS hl
  exact lv_iload (x := x) (rest := stk.map (con X)) B.1 B.2.1 hd (lgt_at hg hl) (k h1 h2.i p e s m args below meth c H locs ls B hP hD hS hl)
theorem R_lload_n {k : Fin 4} {i : Nat} {x : Int64} (hd : decode M.2.1 pc = .ok (.lload_n k, 1)) (hi : (k : Nat) = i) (hg : lgt loc i = some (vL x)) (hq : pc + 1 = q) (k : Wq X r d M q loc (vL x :: stk) w Q) : Wq X r d M pc loc (stk) w Q := by
  subst hq
  intro h1 h2 p e s m args below meth c H locs ls B hP hD hS hl
  exact lv_lload_n (x := x) (rest := stk.map (con X)) B.1 B.2.1 hd hi (lgt_at hg hl) (k h1 h2.l p e s m args below meth c H locs ls B hP hD hS hl)
theorem R_lload {i : Nat} {x : Int64} (hd : decode M.2.1 pc = .ok (.lload i, 2)) (hg : lgt loc i = some (vL x)) (hq : pc + 2 = q) (k : Wq X r d M q loc (vL x :: stk) w Q) : Wq X r d M pc loc (stk) w Q := by
  subst hq
  intro h1 h2 p e s m args below meth c H locs ls B hP hD hS hl
  exact lv_lload (x := x) (rest := stk.map (con X)) B.1 B.2.1 hd (lgt_at hg hl) (k h1 h2.l p e s m args below meth c H locs ls B hP hD hS hl)
theorem R_aload_n {k : Fin 4} {i a n : Nat} {pa : List Nat} (hd : decode M.2.1 pc = .ok (.aload_n k, 1)) (hi : (k : Nat) = i) (hg : lgt loc i = some (vR a n pa)) (hq : pc + 1 = q) (k : Wq X r d M q loc (vR a n pa :: stk) w Q) : Wq X r d M pc loc (stk) w Q := by
  subst hq
  intro h1 h2 p e s m args below meth c H locs ls B hP hD hS hl
  exact lv_aload_n (x := adr X a pa) (rest := stk.map (con X)) B.1 B.2.1 hd hi (lgt_at hg hl) (k h1 (okl.cons (lgt_ok hg h1) h2) p e s m args below meth c H locs ls B hP hD hS hl)
theorem R_iconst {n : Int} {v : Int32} (hd : decode M.2.1 pc = .ok (.iconst n, 1)) (hv : Int32.ofInt n = v) (hq : pc + 1 = q) (k : Wq X r d M q loc (vI v :: stk) w Q) : Wq X r d M pc loc (stk) w Q := by
  subst hq
  intro h1 h2 p e s m args below meth c H locs ls B hP hD hS hl
  exact lv_iconst (rest := stk.map (con X)) B.1 B.2.1 hd hv (k h1 h2.i p e s m args below meth c H locs ls B hP hD hS hl)
theorem R_bipush {n : Int} {v : Int32} (hd : decode M.2.1 pc = .ok (.bipush n, 2)) (hv : (Int8.ofInt n).toInt32 = v) (hq : pc + 2 = q) (k : Wq X r d M q loc (vI v :: stk) w Q) : Wq X r d M pc loc (stk) w Q := by
  subst hq
  intro h1 h2 p e s m args below meth c H locs ls B hP hD hS hl
  exact lv_bipush (rest := stk.map (con X)) B.1 B.2.1 hd hv (k h1 h2.i p e s m args below meth c H locs ls B hP hD hS hl)
theorem R_sipush {n : Int} {v : Int32} (hd : decode M.2.1 pc = .ok (.sipush n, 3)) (hv : (Int16.ofInt n).toInt32 = v) (hq : pc + 3 = q) (k : Wq X r d M q loc (vI v :: stk) w Q) : Wq X r d M pc loc (stk) w Q := by
  subst hq
  intro h1 h2 p e s m args below meth c H locs ls B hP hD hS hl
  exact lv_sipush (rest := stk.map (con X)) B.1 B.2.1 hd hv (k h1 h2.i p e s m args below meth c H locs ls B hP hD hS hl)
theorem R_lconst {n : Fin 2} {v : Int64} (hd : decode M.2.1 pc = .ok (.lconst n, 1)) (hv : Int64.ofNat (n : Nat) = v) (hq : pc + 1 = q) (k : Wq X r d M q loc (vL v :: stk) w Q) : Wq X r d M pc loc (stk) w Q := by
  subst hq
  intro h1 h2 p e s m args below meth c H locs ls B hP hD hS hl
  exact lv_lconst (rest := stk.map (con X)) B.1 B.2.1 hd hv (k h1 h2.l p e s m args below meth c H locs ls B hP hD hS hl)
theorem R_ldcw {i : Nat} {v : Int32} (hd : decode M.2.1 pc = .ok (.ldc_w i, 3)) (hc : Cond.constant M.2.2.2.2 i v ∈ tbG) (hq : pc + 3 = q) (k : Wq X r d M q loc (vI v :: stk) w Q) : Wq X r d M pc loc stk w Q := by
  subst hq
  intro h1 h2 p e s m args below meth c H locs ls B hP hD hS hl
  exact lv_ldcw (rest := stk.map (con X)) B.1 B.2.1 B.2.2.2.2.2.1 (B.2.2.2.2.2.2.1 _ hc) hd (k h1 h2.i p e s m args below meth c H locs ls B hP hD hS hl)
theorem R_ldc2 {i : Nat} {v : Int64} (hd : decode M.2.1 pc = .ok (.ldc2_w i, 3)) (hc : Cond.constantLong M.2.2.2.2 i v ∈ tbG) (hq : pc + 3 = q) (k : Wq X r d M q loc (vL v :: stk) w Q) : Wq X r d M pc loc stk w Q := by
  subst hq
  intro h1 h2 p e s m args below meth c H locs ls B hP hD hS hl
  exact lv_ldc2 (rest := stk.map (con X)) B.1 B.2.1 B.2.2.2.2.2.1 (B.2.2.2.2.2.2.1 _ hc) hd (k h1 h2.l p e s m args below meth c H locs ls B hP hD hS hl)
theorem R_iadd {x y : Int32} (hd : decode M.2.1 pc = .ok (.iadd, 1))  (hq : pc + 1 = q) (k : Wq X r d M q loc (vI (x + y) :: stk) w Q) : Wq X r d M pc loc (vI y :: vI x :: stk) w Q := by
  subst hq
  intro h1 h2 p e s m args below meth c H locs ls B hP hD hS hl
  exact lv_iadd (rest := stk.map (con X)) B.1 B.2.1 hd  (k h1 h2.tl.tl.i p e s m args below meth c H locs ls B hP hD hS hl)
theorem R_isub {x y : Int32} (hd : decode M.2.1 pc = .ok (.isub, 1))  (hq : pc + 1 = q) (k : Wq X r d M q loc (vI (x - y) :: stk) w Q) : Wq X r d M pc loc (vI y :: vI x :: stk) w Q := by
  subst hq
  intro h1 h2 p e s m args below meth c H locs ls B hP hD hS hl
  exact lv_isub (rest := stk.map (con X)) B.1 B.2.1 hd  (k h1 h2.tl.tl.i p e s m args below meth c H locs ls B hP hD hS hl)
theorem R_imul {x y : Int32} (hd : decode M.2.1 pc = .ok (.imul, 1))  (hq : pc + 1 = q) (k : Wq X r d M q loc (vI (x * y) :: stk) w Q) : Wq X r d M pc loc (vI y :: vI x :: stk) w Q := by
  subst hq
  intro h1 h2 p e s m args below meth c H locs ls B hP hD hS hl
  exact lv_imul (rest := stk.map (con X)) B.1 B.2.1 hd  (k h1 h2.tl.tl.i p e s m args below meth c H locs ls B hP hD hS hl)
theorem R_iand {x y : Int32} (hd : decode M.2.1 pc = .ok (.iand, 1))  (hq : pc + 1 = q) (k : Wq X r d M q loc (vI (x &&& y) :: stk) w Q) : Wq X r d M pc loc (vI y :: vI x :: stk) w Q := by
  subst hq
  intro h1 h2 p e s m args below meth c H locs ls B hP hD hS hl
  exact lv_iand (rest := stk.map (con X)) B.1 B.2.1 hd  (k h1 h2.tl.tl.i p e s m args below meth c H locs ls B hP hD hS hl)
theorem R_ior {x y : Int32} (hd : decode M.2.1 pc = .ok (.ior, 1))  (hq : pc + 1 = q) (k : Wq X r d M q loc (vI (x ||| y) :: stk) w Q) : Wq X r d M pc loc (vI y :: vI x :: stk) w Q := by
  subst hq
  intro h1 h2 p e s m args below meth c H locs ls B hP hD hS hl
  exact lv_ior (rest := stk.map (con X)) B.1 B.2.1 hd  (k h1 h2.tl.tl.i p e s m args below meth c H locs ls B hP hD hS hl)
theorem R_ixor {x y : Int32} (hd : decode M.2.1 pc = .ok (.ixor, 1))  (hq : pc + 1 = q) (k : Wq X r d M q loc (vI (x ^^^ y) :: stk) w Q) : Wq X r d M pc loc (vI y :: vI x :: stk) w Q := by
  subst hq
  intro h1 h2 p e s m args below meth c H locs ls B hP hD hS hl
  exact lv_ixor (rest := stk.map (con X)) B.1 B.2.1 hd  (k h1 h2.tl.tl.i p e s m args below meth c H locs ls B hP hD hS hl)
theorem R_ishl {x y : Int32} (hd : decode M.2.1 pc = .ok (.ishl, 1))  (hq : pc + 1 = q) (k : Wq X r d M q loc (vI (x <<< (y &&& 31)) :: stk) w Q) : Wq X r d M pc loc (vI y :: vI x :: stk) w Q := by
  subst hq
  intro h1 h2 p e s m args below meth c H locs ls B hP hD hS hl
  exact lv_ishl (rest := stk.map (con X)) B.1 B.2.1 hd  (k h1 h2.tl.tl.i p e s m args below meth c H locs ls B hP hD hS hl)
theorem R_ishr {x y : Int32} (hd : decode M.2.1 pc = .ok (.ishr, 1))  (hq : pc + 1 = q) (k : Wq X r d M q loc (vI (x >>> (y &&& 31)) :: stk) w Q) : Wq X r d M pc loc (vI y :: vI x :: stk) w Q := by
  subst hq
  intro h1 h2 p e s m args below meth c H locs ls B hP hD hS hl
  exact lv_ishr (rest := stk.map (con X)) B.1 B.2.1 hd  (k h1 h2.tl.tl.i p e s m args below meth c H locs ls B hP hD hS hl)
theorem R_idiv {x y : Int32} (hd : decode M.2.1 pc = .ok (.idiv, 1)) (hne : ¬ y = 0) (hq : pc + 1 = q) (k : Wq X r d M q loc (vI (x / y) :: stk) w Q) : Wq X r d M pc loc (vI y :: vI x :: stk) w Q := by
  subst hq
  intro h1 h2 p e s m args below meth c H locs ls B hP hD hS hl
  exact lv_idiv (rest := stk.map (con X)) B.1 B.2.1 hd hne (k h1 h2.tl.tl.i p e s m args below meth c H locs ls B hP hD hS hl)
theorem R_irem {x y : Int32} (hd : decode M.2.1 pc = .ok (.irem, 1)) (hne : ¬ y = 0) (hq : pc + 1 = q) (k : Wq X r d M q loc (vI (x - x / y * y) :: stk) w Q) : Wq X r d M pc loc (vI y :: vI x :: stk) w Q := by
  subst hq
  intro h1 h2 p e s m args below meth c H locs ls B hP hD hS hl
  exact lv_irem (rest := stk.map (con X)) B.1 B.2.1 hd hne (k h1 h2.tl.tl.i p e s m args below meth c H locs ls B hP hD hS hl)
theorem R_iushr {x y : Int32} (hd : decode M.2.1 pc = .ok (.iushr, 1))  (hq : pc + 1 = q) (k : Wq X r d M q loc (vI ((x.toUInt32 >>> (y.toUInt32 &&& Int32.toUInt32 31)).toInt32) :: stk) w Q) : Wq X r d M pc loc (vI y :: vI x :: stk) w Q := by
  subst hq
  intro h1 h2 p e s m args below meth c H locs ls B hP hD hS hl
  exact lv_iushr (rest := stk.map (con X)) B.1 B.2.1 hd rfl (k h1 h2.tl.tl.i p e s m args below meth c H locs ls B hP hD hS hl)
theorem R_ineg {x : Int32} (hd : decode M.2.1 pc = .ok (.ineg, 1))  (hq : pc + 1 = q) (k : Wq X r d M q loc (vI (-x) :: stk) w Q) : Wq X r d M pc loc (vI x :: stk) w Q := by
  subst hq
  intro h1 h2 p e s m args below meth c H locs ls B hP hD hS hl
  exact lv_ineg (rest := stk.map (con X)) B.1 B.2.1 hd  (k h1 h2.tl.i p e s m args below meth c H locs ls B hP hD hS hl)
theorem R_i2l {x : Int32} (hd : decode M.2.1 pc = .ok (.i2l, 1))  (hq : pc + 1 = q) (k : Wq X r d M q loc (vL x.toInt64 :: stk) w Q) : Wq X r d M pc loc (vI x :: stk) w Q := by
  subst hq
  intro h1 h2 p e s m args below meth c H locs ls B hP hD hS hl
  exact lv_i2l (rest := stk.map (con X)) B.1 B.2.1 hd rfl (k h1 h2.tl.l p e s m args below meth c H locs ls B hP hD hS hl)
theorem R_l2i {x : Int64} (hd : decode M.2.1 pc = .ok (.l2i, 1))  (hq : pc + 1 = q) (k : Wq X r d M q loc (vI x.toInt32 :: stk) w Q) : Wq X r d M pc loc (vL x :: stk) w Q := by
  subst hq
  intro h1 h2 p e s m args below meth c H locs ls B hP hD hS hl
  exact lv_l2i (rest := stk.map (con X)) B.1 B.2.1 hd rfl (k h1 h2.tl.i p e s m args below meth c H locs ls B hP hD hS hl)
theorem R_ladd {x y : Int64} (hd : decode M.2.1 pc = .ok (.ladd, 1))  (hq : pc + 1 = q) (k : Wq X r d M q loc (vL (x + y) :: stk) w Q) : Wq X r d M pc loc (vL y :: vL x :: stk) w Q := by
  subst hq
  intro h1 h2 p e s m args below meth c H locs ls B hP hD hS hl
  exact lv_ladd (rest := stk.map (con X)) B.1 B.2.1 hd  (k h1 h2.tl.tl.l p e s m args below meth c H locs ls B hP hD hS hl)
theorem R_lsub {x y : Int64} (hd : decode M.2.1 pc = .ok (.lsub, 1))  (hq : pc + 1 = q) (k : Wq X r d M q loc (vL (x - y) :: stk) w Q) : Wq X r d M pc loc (vL y :: vL x :: stk) w Q := by
  subst hq
  intro h1 h2 p e s m args below meth c H locs ls B hP hD hS hl
  exact lv_lsub (rest := stk.map (con X)) B.1 B.2.1 hd  (k h1 h2.tl.tl.l p e s m args below meth c H locs ls B hP hD hS hl)
theorem R_lmul {x y : Int64} (hd : decode M.2.1 pc = .ok (.lmul, 1))  (hq : pc + 1 = q) (k : Wq X r d M q loc (vL (x * y) :: stk) w Q) : Wq X r d M pc loc (vL y :: vL x :: stk) w Q := by
  subst hq
  intro h1 h2 p e s m args below meth c H locs ls B hP hD hS hl
  exact lv_lmul (rest := stk.map (con X)) B.1 B.2.1 hd  (k h1 h2.tl.tl.l p e s m args below meth c H locs ls B hP hD hS hl)
theorem R_land {x y : Int64} (hd : decode M.2.1 pc = .ok (.land, 1))  (hq : pc + 1 = q) (k : Wq X r d M q loc (vL (x &&& y) :: stk) w Q) : Wq X r d M pc loc (vL y :: vL x :: stk) w Q := by
  subst hq
  intro h1 h2 p e s m args below meth c H locs ls B hP hD hS hl
  exact lv_land (rest := stk.map (con X)) B.1 B.2.1 hd  (k h1 h2.tl.tl.l p e s m args below meth c H locs ls B hP hD hS hl)
theorem R_lor {x y : Int64} (hd : decode M.2.1 pc = .ok (.lor, 1))  (hq : pc + 1 = q) (k : Wq X r d M q loc (vL (x ||| y) :: stk) w Q) : Wq X r d M pc loc (vL y :: vL x :: stk) w Q := by
  subst hq
  intro h1 h2 p e s m args below meth c H locs ls B hP hD hS hl
  exact lv_lor (rest := stk.map (con X)) B.1 B.2.1 hd  (k h1 h2.tl.tl.l p e s m args below meth c H locs ls B hP hD hS hl)
theorem R_ldiv {x y : Int64} (hd : decode M.2.1 pc = .ok (.ldiv, 1)) (hne : ¬ y = 0) (hq : pc + 1 = q) (k : Wq X r d M q loc (vL (x / y) :: stk) w Q) : Wq X r d M pc loc (vL y :: vL x :: stk) w Q := by
  subst hq
  intro h1 h2 p e s m args below meth c H locs ls B hP hD hS hl
  exact lv_ldiv (rest := stk.map (con X)) B.1 B.2.1 hd hne (k h1 h2.tl.tl.l p e s m args below meth c H locs ls B hP hD hS hl)
theorem R_lrem {x y : Int64} (hd : decode M.2.1 pc = .ok (.lrem, 1)) (hne : ¬ y = 0) (hq : pc + 1 = q) (k : Wq X r d M q loc (vL (x - x / y * y) :: stk) w Q) : Wq X r d M pc loc (vL y :: vL x :: stk) w Q := by
  subst hq
  intro h1 h2 p e s m args below meth c H locs ls B hP hD hS hl
  exact lv_lrem (rest := stk.map (con X)) B.1 B.2.1 hd hne (k h1 h2.tl.tl.l p e s m args below meth c H locs ls B hP hD hS hl)
theorem R_lshl {x : Int64} {y : Int32} (hd : decode M.2.1 pc = .ok (.lshl, 1))  (hq : pc + 1 = q) (k : Wq X r d M q loc (vL (x <<< (y.toInt64 &&& 63)) :: stk) w Q) : Wq X r d M pc loc (vI y :: vL x :: stk) w Q := by
  subst hq
  intro h1 h2 p e s m args below meth c H locs ls B hP hD hS hl
  exact lv_lshl (rest := stk.map (con X)) B.1 B.2.1 hd rfl (k h1 h2.tl.tl.l p e s m args below meth c H locs ls B hP hD hS hl)
theorem R_lushr {x : Int64} {y : Int32} (hd : decode M.2.1 pc = .ok (.lushr, 1))  (hq : pc + 1 = q) (k : Wq X r d M q loc (vL ((x.toUInt64 >>> (y.toInt64.toUInt64 &&& Int64.toUInt64 63)).toInt64) :: stk) w Q) : Wq X r d M pc loc (vI y :: vL x :: stk) w Q := by
  subst hq
  intro h1 h2 p e s m args below meth c H locs ls B hP hD hS hl
  exact lv_lushr (rest := stk.map (con X)) B.1 B.2.1 hd rfl (k h1 h2.tl.tl.l p e s m args below meth c H locs ls B hP hD hS hl)
theorem R_dup {v : AV} (hd : decode M.2.1 pc = .ok (.dup, 1)) (hc : cat v = 1) (hq : pc + 1 = q) (k : Wq X r d M q loc (v :: v :: stk) w Q) : Wq X r d M pc loc (v :: stk) w Q := by
  subst hq
  intro h1 h2 p e s m args below meth c H locs ls B hP hD hS hl
  exact lv_dup (va := con X v) (rest := stk.map (con X)) B.1 B.2.1 hd (by rw [con_cat]; exact hc) (k h1 (okl.cons h2.hd h2) p e s m args below meth c H locs ls B hP hD hS hl)
theorem R_dup2 {u v : AV} (hd : decode M.2.1 pc = .ok (.dup2, 1)) (hu : cat u = 1) (hc : cat v = 1) (hq : pc + 1 = q) (k : Wq X r d M q loc (u :: v :: u :: v :: stk) w Q) : Wq X r d M pc loc (u :: v :: stk) w Q := by
  subst hq
  intro h1 h2 p e s m args below meth c H locs ls B hP hD hS hl
  exact lv_dup2_11 (va := con X u) (vb := con X v) (rest := stk.map (con X)) B.1 B.2.1 hd (by rw [con_cat]; exact hu) (by rw [con_cat]; exact hc) (k h1 (okl.cons h2.hd (okl.cons h2.tl.hd h2)) p e s m args below meth c H locs ls B hP hD hS hl)
theorem R_istore_n {k : Fin 4} {i : Nat} {x : Int32} {loc' : Lo} (hd : decode M.2.1 pc = .ok (.istore_n k, 1)) (hi : (k : Nat) = i) (hn : i < M.2.2.1) (hl' : st1 loc i (vI x) = loc') (hq : pc + 1 = q) (k : Wq X r d M q loc' stk w Q) : Wq X r d M pc loc (vI x :: stk) w Q := by
  subst hl'
  subst hq
  intro h1 h2 p e s m args below meth c H locs ls B hP hD hS hl
  exact lv_istore_n (x := x) (rest := stk.map (con X)) B.1 B.2.1 hd hi hl hn (cnL_st1 X loc i (vI x)) (fun ls hl => k (okL_st1 trivial h1) h2.tl p e s m args below meth c H locs ls B hP hD hS hl)
theorem R_istore {i : Nat} {x : Int32} {loc' : Lo} (hd : decode M.2.1 pc = .ok (.istore i, 2))  (hn : i < M.2.2.1) (hl' : st1 loc i (vI x) = loc') (hq : pc + 2 = q) (k : Wq X r d M q loc' stk w Q) : Wq X r d M pc loc (vI x :: stk) w Q := by
  subst hl'
  subst hq
  intro h1 h2 p e s m args below meth c H locs ls B hP hD hS hl
  exact lv_istore (x := x) (rest := stk.map (con X)) B.1 B.2.1 hd  hl hn (cnL_st1 X loc i (vI x)) (fun ls hl => k (okL_st1 trivial h1) h2.tl p e s m args below meth c H locs ls B hP hD hS hl)
theorem R_lstore_n {k : Fin 4} {i : Nat} {x : Int64} {loc' : Lo} (hd : decode M.2.1 pc = .ok (.lstore_n k, 1)) (hi : (k : Nat) = i) (hn : i + 1 < M.2.2.1) (hl' : st2 loc i (vL x) = loc') (hq : pc + 1 = q) (k : Wq X r d M q loc' stk w Q) : Wq X r d M pc loc (vL x :: stk) w Q := by
  subst hl'
  subst hq
  intro h1 h2 p e s m args below meth c H locs ls B hP hD hS hl
  exact lv_lstore_n (x := x) (rest := stk.map (con X)) B.1 B.2.1 hd hi hl hn (cnL_st2 X loc i (vL x)) (fun ls hl => k (okL_st2 trivial h1) h2.tl p e s m args below meth c H locs ls B hP hD hS hl)
theorem R_astore_n {k : Fin 4} {i a n : Nat} {pa : List Nat} {loc' : Lo} (hd : decode M.2.1 pc = .ok (.astore_n k, 1)) (hi : (k : Nat) = i) (hn : i < M.2.2.1) (hl' : st1 loc i (vR a n pa) = loc') (hq : pc + 1 = q) (k : Wq X r d M q loc' stk w Q) : Wq X r d M pc loc (vR a n pa :: stk) w Q := by
  subst hl'
  subst hq
  intro h1 h2 p e s m args below meth c H locs ls B hP hD hS hl
  exact lv_astore_n (rest := stk.map (con X)) B.1 B.2.1 hd hi hl hn (cnL_st1 X loc i (vR a n pa)) (fun ls hl => k (okL_st1 h2.hd h1) h2.tl p e s m args below meth c H locs ls B hP hD hS hl)
theorem R_iinc {i : Nat} {n : Int} {x v : Int32} {loc' : Lo} (hd : decode M.2.1 pc = .ok (.iinc i n, 3)) (hg : lgt loc i = some (vI x)) (hv : x + Int32.ofInt n = v) (hn : i < M.2.2.1) (hl' : st1 loc i (vI v) = loc') (hq : pc + 3 = q) (k : Wq X r d M q loc' stk w Q) : Wq X r d M pc loc stk w Q := by
  subst hl'
  subst hq
  intro h1 h2 p e s m args below meth c H locs ls B hP hD hS hl
  obtain ⟨j, hj⟩ := List.mem_iff_getElem?.mp (List.mem_map.mpr ⟨(i, vI x), lgt_mem hg, rfl⟩ : (i, con X (vI x)) ∈ cnL X loc)
  exact lv_iinc (rest := stk.map (con X)) B.1 B.2.1 hd hl hj hv hn (cnL_st1 X loc i (vI v)) (fun ls hl => k (okL_st1 trivial h1) h2 p e s m args below meth c H locs ls B hP hD hS hl)
theorem R_goto {off : Int} (hd : decode M.2.1 pc = .ok (.goto off, 3)) (hq : (pc : Int) + off = (q : Int)) (k : Wq X r d M q loc stk w Q) : Wq X r d M pc loc stk w Q := by
  intro h1 h2 p e s m args below meth c H locs ls B hP hD hS hl
  exact lv_goto (rest := stk.map (con X)) B.1 B.2.1 hd hq (k h1 h2 p e s m args below meth c H locs ls B hP hD hS hl)
theorem R_if_eq {x : Int32} {off : Int} {tgt : Nat} (hd : decode M.2.1 pc = .ok (.ifCond .eq off, 3)) (ht : (pc : Int) + off = (tgt : Int)) (hq : pc + 3 = q) (kt : x = 0 → Wq X r d M tgt loc stk w Q) (kf : ¬ x = 0 → Wq X r d M q loc stk w Q) : Wq X r d M pc loc (vI x :: stk) w Q := by
  subst hq
  intro h1 h2 p e s m args below meth c H locs ls B hP hD hS hl
  exact lv_if_eq (rest := stk.map (con X)) B.1 B.2.1 hd ht (fun g => kt g h1 h2.tl p e s m args below meth c H locs ls B hP hD hS hl) (fun g => kf g h1 h2.tl p e s m args below meth c H locs ls B hP hD hS hl)
theorem R_icmp_eq {x y : Int32} {off : Int} {tgt : Nat} (hd : decode M.2.1 pc = .ok (.if_icmp .eq off, 3)) (ht : (pc : Int) + off = (tgt : Int)) (hq : pc + 3 = q) (kt : x = y → Wq X r d M tgt loc stk w Q) (kf : ¬ x = y → Wq X r d M q loc stk w Q) : Wq X r d M pc loc (vI y :: vI x :: stk) w Q := by
  subst hq
  intro h1 h2 p e s m args below meth c H locs ls B hP hD hS hl
  exact lv_icmp_eq (rest := stk.map (con X)) B.1 B.2.1 hd ht (fun g => kt g h1 h2.tl.tl p e s m args below meth c H locs ls B hP hD hS hl) (fun g => kf g h1 h2.tl.tl p e s m args below meth c H locs ls B hP hD hS hl)
theorem R_if_ne {x : Int32} {off : Int} {tgt : Nat} (hd : decode M.2.1 pc = .ok (.ifCond .ne off, 3)) (ht : (pc : Int) + off = (tgt : Int)) (hq : pc + 3 = q) (kt : ¬ x = 0 → Wq X r d M tgt loc stk w Q) (kf : x = 0 → Wq X r d M q loc stk w Q) : Wq X r d M pc loc (vI x :: stk) w Q := by
  subst hq
  intro h1 h2 p e s m args below meth c H locs ls B hP hD hS hl
  exact lv_if_ne (rest := stk.map (con X)) B.1 B.2.1 hd ht (fun g => kt g h1 h2.tl p e s m args below meth c H locs ls B hP hD hS hl) (fun g => kf g h1 h2.tl p e s m args below meth c H locs ls B hP hD hS hl)
theorem R_icmp_ne {x y : Int32} {off : Int} {tgt : Nat} (hd : decode M.2.1 pc = .ok (.if_icmp .ne off, 3)) (ht : (pc : Int) + off = (tgt : Int)) (hq : pc + 3 = q) (kt : ¬ x = y → Wq X r d M tgt loc stk w Q) (kf : x = y → Wq X r d M q loc stk w Q) : Wq X r d M pc loc (vI y :: vI x :: stk) w Q := by
  subst hq
  intro h1 h2 p e s m args below meth c H locs ls B hP hD hS hl
  exact lv_icmp_ne (rest := stk.map (con X)) B.1 B.2.1 hd ht (fun g => kt g h1 h2.tl.tl p e s m args below meth c H locs ls B hP hD hS hl) (fun g => kf g h1 h2.tl.tl p e s m args below meth c H locs ls B hP hD hS hl)
theorem R_if_lt {x : Int32} {off : Int} {tgt : Nat} (hd : decode M.2.1 pc = .ok (.ifCond .lt off, 3)) (ht : (pc : Int) + off = (tgt : Int)) (hq : pc + 3 = q) (kt : x < 0 → Wq X r d M tgt loc stk w Q) (kf : ¬ x < 0 → Wq X r d M q loc stk w Q) : Wq X r d M pc loc (vI x :: stk) w Q := by
  subst hq
  intro h1 h2 p e s m args below meth c H locs ls B hP hD hS hl
  exact lv_if_lt (rest := stk.map (con X)) B.1 B.2.1 hd ht (fun g => kt g h1 h2.tl p e s m args below meth c H locs ls B hP hD hS hl) (fun g => kf g h1 h2.tl p e s m args below meth c H locs ls B hP hD hS hl)
theorem R_icmp_lt {x y : Int32} {off : Int} {tgt : Nat} (hd : decode M.2.1 pc = .ok (.if_icmp .lt off, 3)) (ht : (pc : Int) + off = (tgt : Int)) (hq : pc + 3 = q) (kt : x < y → Wq X r d M tgt loc stk w Q) (kf : ¬ x < y → Wq X r d M q loc stk w Q) : Wq X r d M pc loc (vI y :: vI x :: stk) w Q := by
  subst hq
  intro h1 h2 p e s m args below meth c H locs ls B hP hD hS hl
  exact lv_icmp_lt (rest := stk.map (con X)) B.1 B.2.1 hd ht (fun g => kt g h1 h2.tl.tl p e s m args below meth c H locs ls B hP hD hS hl) (fun g => kf g h1 h2.tl.tl p e s m args below meth c H locs ls B hP hD hS hl)
theorem R_if_ge {x : Int32} {off : Int} {tgt : Nat} (hd : decode M.2.1 pc = .ok (.ifCond .ge off, 3)) (ht : (pc : Int) + off = (tgt : Int)) (hq : pc + 3 = q) (kt : 0 ≤ x → Wq X r d M tgt loc stk w Q) (kf : ¬ 0 ≤ x → Wq X r d M q loc stk w Q) : Wq X r d M pc loc (vI x :: stk) w Q := by
  subst hq
  intro h1 h2 p e s m args below meth c H locs ls B hP hD hS hl
  exact lv_if_ge (rest := stk.map (con X)) B.1 B.2.1 hd ht (fun g => kt g h1 h2.tl p e s m args below meth c H locs ls B hP hD hS hl) (fun g => kf g h1 h2.tl p e s m args below meth c H locs ls B hP hD hS hl)
theorem R_icmp_ge {x y : Int32} {off : Int} {tgt : Nat} (hd : decode M.2.1 pc = .ok (.if_icmp .ge off, 3)) (ht : (pc : Int) + off = (tgt : Int)) (hq : pc + 3 = q) (kt : y ≤ x → Wq X r d M tgt loc stk w Q) (kf : ¬ y ≤ x → Wq X r d M q loc stk w Q) : Wq X r d M pc loc (vI y :: vI x :: stk) w Q := by
  subst hq
  intro h1 h2 p e s m args below meth c H locs ls B hP hD hS hl
  exact lv_icmp_ge (rest := stk.map (con X)) B.1 B.2.1 hd ht (fun g => kt g h1 h2.tl.tl p e s m args below meth c H locs ls B hP hD hS hl) (fun g => kf g h1 h2.tl.tl p e s m args below meth c H locs ls B hP hD hS hl)
theorem R_if_gt {x : Int32} {off : Int} {tgt : Nat} (hd : decode M.2.1 pc = .ok (.ifCond .gt off, 3)) (ht : (pc : Int) + off = (tgt : Int)) (hq : pc + 3 = q) (kt : 0 < x → Wq X r d M tgt loc stk w Q) (kf : ¬ 0 < x → Wq X r d M q loc stk w Q) : Wq X r d M pc loc (vI x :: stk) w Q := by
  subst hq
  intro h1 h2 p e s m args below meth c H locs ls B hP hD hS hl
  exact lv_if_gt (rest := stk.map (con X)) B.1 B.2.1 hd ht (fun g => kt g h1 h2.tl p e s m args below meth c H locs ls B hP hD hS hl) (fun g => kf g h1 h2.tl p e s m args below meth c H locs ls B hP hD hS hl)
theorem R_icmp_gt {x y : Int32} {off : Int} {tgt : Nat} (hd : decode M.2.1 pc = .ok (.if_icmp .gt off, 3)) (ht : (pc : Int) + off = (tgt : Int)) (hq : pc + 3 = q) (kt : y < x → Wq X r d M tgt loc stk w Q) (kf : ¬ y < x → Wq X r d M q loc stk w Q) : Wq X r d M pc loc (vI y :: vI x :: stk) w Q := by
  subst hq
  intro h1 h2 p e s m args below meth c H locs ls B hP hD hS hl
  exact lv_icmp_gt (rest := stk.map (con X)) B.1 B.2.1 hd ht (fun g => kt g h1 h2.tl.tl p e s m args below meth c H locs ls B hP hD hS hl) (fun g => kf g h1 h2.tl.tl p e s m args below meth c H locs ls B hP hD hS hl)
theorem R_if_le {x : Int32} {off : Int} {tgt : Nat} (hd : decode M.2.1 pc = .ok (.ifCond .le off, 3)) (ht : (pc : Int) + off = (tgt : Int)) (hq : pc + 3 = q) (kt : x ≤ 0 → Wq X r d M tgt loc stk w Q) (kf : ¬ x ≤ 0 → Wq X r d M q loc stk w Q) : Wq X r d M pc loc (vI x :: stk) w Q := by
  subst hq
  intro h1 h2 p e s m args below meth c H locs ls B hP hD hS hl
  exact lv_if_le (rest := stk.map (con X)) B.1 B.2.1 hd ht (fun g => kt g h1 h2.tl p e s m args below meth c H locs ls B hP hD hS hl) (fun g => kf g h1 h2.tl p e s m args below meth c H locs ls B hP hD hS hl)
theorem R_icmp_le {x y : Int32} {off : Int} {tgt : Nat} (hd : decode M.2.1 pc = .ok (.if_icmp .le off, 3)) (ht : (pc : Int) + off = (tgt : Int)) (hq : pc + 3 = q) (kt : x ≤ y → Wq X r d M tgt loc stk w Q) (kf : ¬ x ≤ y → Wq X r d M q loc stk w Q) : Wq X r d M pc loc (vI y :: vI x :: stk) w Q := by
  subst hq
  intro h1 h2 p e s m args below meth c H locs ls B hP hD hS hl
  exact lv_icmp_le (rest := stk.map (con X)) B.1 B.2.1 hd ht (fun g => kt g h1 h2.tl.tl p e s m args below meth c H locs ls B hP hD hS hl) (fun g => kf g h1 h2.tl.tl p e s m args below meth c H locs ls B hP hD hS hl)
theorem R_lcmp {x y : Int64} (hd : decode M.2.1 pc = .ok (.lcmp, 1)) (hq : pc + 1 = q) (k : Wq X r d M q loc (vI (lg_cmp x y) :: stk) w Q) : Wq X r d M pc loc (vL y :: vL x :: stk) w Q := by
  subst hq
  intro h1 h2 p e s m args below meth c H locs ls B hP hD hS hl
  exact W.lcmp (rest := stk.map (con X)) B.1 B.2.1 hd (k h1 h2.tl.tl.i p e s m args below meth c H locs ls B hP hD hS hl)
theorem R_tableIn {dflt lo hi : Int} {offs : Array Int} {len : Nat} {x : Int32} {off : Int} (hd : decode M.2.1 pc = .ok (.tableswitch dflt lo hi offs, len)) (ha : ¬ x.toInt < lo) (hb : ¬ hi < x.toInt) (ho : offs[(x.toInt - lo).toNat]? = some off) (hq : (pc : Int) + off = (q : Int)) (k : Wq X r d M q loc stk w Q) : Wq X r d M pc loc (vI x :: stk) w Q := by
  intro h1 h2 p e s m args below meth c H locs ls B hP hD hS hl
  exact lv_tableIn (rest := stk.map (con X)) B.1 B.2.1 hd ha hb ho hq (k h1 h2.tl p e s m args below meth c H locs ls B hP hD hS hl)
theorem R_tableOut {dflt lo hi : Int} {offs : Array Int} {len : Nat} {x : Int32} (hd : decode M.2.1 pc = .ok (.tableswitch dflt lo hi offs, len)) (ha : x.toInt < lo ∨ hi < x.toInt) (hq : (pc : Int) + dflt = (q : Int)) (k : Wq X r d M q loc stk w Q) : Wq X r d M pc loc (vI x :: stk) w Q := by
  intro h1 h2 p e s m args below meth c H locs ls B hP hD hS hl
  exact lv_tableOut (rest := stk.map (con X)) B.1 B.2.1 hd ha hq (k h1 h2.tl p e s m args below meth c H locs ls B hP hD hS hl)
theorem R_lookup {dflt : Int} {ps : Array (Int × Int)} {len : Nat} {x : Int32} {off : Int} (hd : decode M.2.1 pc = .ok (.lookupswitch dflt ps, len)) (hp : (ps.toList.zip (ps.toList.drop 1)).all (fun (a, next) => a.1 < next.1) = true) (ho : Op.lookupswitch.offset ps.toList dflt x.toInt = off) (hq : (pc : Int) + off = (q : Int)) (k : Wq X r d M q loc stk w Q) : Wq X r d M pc loc (vI x :: stk) w Q := by
  intro h1 h2 p e s m args below meth c H locs ls B hP hD hS hl
  exact lv_lookup (rest := stk.map (con X)) B.1 B.2.1 hd hp ho hq (k h1 h2.tl p e s m args below meth c H locs ls B hP hD hS hl)
end RU
