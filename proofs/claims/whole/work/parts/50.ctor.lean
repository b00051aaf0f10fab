/-! CONSTRUCTORS. A world of theirs is a plain list of cells; the object that is made stands first. -/
abbrev SN : String := "TwoHalves$State"
def rmC (d mc ms : Nat) : Room := { frames := d, cells := mc, slots := ms, locals := 40 * d }
def BdC (X : Cx) (M : Mth) (p : Program) (s : State) (m : MethodId) (args : Array Value) (meth : Method) (c : Code) : Prop :=
  p.tables.exec = Jvm.exec ∧ c.code = M.2.1 ∧ c.maxLocals = M.2.2.1 ∧ meth.sig.returnType = M.2.2.2.1 ∧ meth.locks = false ∧ s.vm.findClass M.2.2.2.2 = some m.cls ∧ (∀ w ∈ tbG, w.before args s = true) ∧ va_K X.2.1 vwCl (tysX X) s ∧ Ns s ∧ va_AO SN s ∧ meth.name = "<init>"
def Qk (X : Cx) (A : Nat → Prop) (G : va_W → Prop) : Array Value → State → Outcome → State → Prop := va_Qv G (fun (ws : va_W) t => va_P X.2.1 vwCl ws t.heap ∧ va_D A ws) A
def Kq (X : Cx) (d mc ms : Nat) (M : Mth) (A : Nat → Prop) (G : va_W → Prop) (pc : Nat) (loc : List (Nat × Value)) (stk : List Value) (ws : va_W) (cu su : Nat) : Prop :=
  ∀ (p : Program) (e : Env) (s : State) (m : MethodId) (args : Array Value) (below : List Frame) (meth : Method) (c : Code) (H : Heap) (locs : List Loc) (ls : Array Slot),
    BdC X M p s m args meth c → (∀ q, s.heap.size ≤ q → A q) → va_P X.2.1 vwCl ws H → va_D A ws → va_S A s.heap H locs → lv_has ls M.2.2.1 loc →
    W p X.1 e (rmC d mc ms) s m args below meth c H locs cu su (MQ below (Qk X A G) args s mc ms A) (F0 m pc ls stk)
def Wi (X : Cx) (h0 ci : Nat) (fs : List Value) (sz : Nat) (U : State) : Prop := U.heap.size = sz ∧ va_P X.2.1 vwCl [(h0, .inr (ci, fs))] U.heap ∧ va_K X.2.1 vwCl (tysX X) U ∧ Ns U ∧ va_AO SN U
def Ci (X : Cx) (d mc ms : Nat) (M : Mth) (ci : Nat) (fs : List Value) (G : Nat → va_W → Prop) : Prop := ∀ h0 sz : Nat, Met X.1 M.1 (mW M) (rmC d mc ms) (va_Pc [.ref h0] (Wi X h0 ci fs sz)) (Qk X (va_A [(h0, .inr (ci, fs))] sz) (G h0)) mc ms (va_A [(h0, .inr (ci, fs))] sz)
def mokI (M : Mth) : Prop := Cond.instanceMethod M.1 ∈ tbG ∧ Cond.initialized M.1.cls ∈ tbG ∧ Cond.code M.1 M.2.1 M.2.2.1 none ∈ tbG ∧ (M.1.cls ≠ "java/lang/invoke/MethodHandle" ∧ M.1.cls ≠ "java/lang/invoke/VarHandle" ∧ (parseMethodDescriptor M.1.desc).map (fun d => d.parameters.length) = some 0) ∧ M.2.2.1 ≤ 21 ∧ M.1.name = "<init>" ∧ M.2.2.2.1 = none
theorem va_jn {A0 : Nat → Prop} {D : va_G} {cl : List vw_C} {wc wr w1 : va_W} {H H1 : Heap} (hP : va_P D cl (wr ++ wc) H) (hD : va_D A0 (wr ++ wc)) (hk : ∀ q : Nat, q < H.size → ¬ va_A wc H.size q → H1[q]? = H[q]?) (hF : ∀ q, va_A wc H.size q → A0 q) (hP1 : va_P D cl w1 H1) (hD1 : va_D (va_A wc H.size) w1) : va_P D cl (wr ++ w1) H1 ∧ va_D A0 (wr ++ w1) := by
  have lft : ∀ (k : Nat) (q : Nat × va_E), wr[k]? = some q → k < wr.length ∧ (wr ++ wc)[k]? = some q := by
    intro k q hq
    have hlt := (List.getElem?_eq_some_iff.mp hq).1
    exact ⟨hlt, by rw [List.getElem?_append_left hlt]; exact hq⟩
  have apart : ∀ (k : Nat) (q : Nat × va_E), wr[k]? = some q → q.1 < H.size ∧ ¬ va_A wc H.size q.1 := by
    intro k q hq
    obtain ⟨h1, h2⟩ := lft k q hq
    have hl := (hP k q h2).lt
    refine ⟨hl, fun h => ?_⟩
    rcases h with ⟨k2, e, h⟩ | h
    · have h4 : (wr ++ wc)[wr.length + k2]? = some (q.1, e) := by
        rw [List.getElem?_append_right (by omega), show wr.length + k2 - wr.length = k2 by omega]
        exact h
      have hij := hD.1 k (wr.length + k2) q (q.1, e) h2 h4 rfl
      omega
    · omega
  refine ⟨va_P.app (fun k q hq => ?_) hP1, va_D.app ⟨fun i j x y hx hy hxy => hD.1 i j x y (lft i x hx).2 (lft j y hy).2 hxy, fun k q hq => hD.2 k q (lft k q hq).2⟩ (hD1.weaken (fun k q _ h => hF q.1 h)) (fun i j x y hx hy hxy => ?_)⟩
  · obtain ⟨g1, g2⟩ := apart k q hq
    exact (hP k q (lft k q hq).2).kept (hk q.1 g1 g2)
  · exact (apart i x hx).2 (by rw [hxy]; exact hD1.2 j y hy)
theorem oi1 : Cond.instanceMethod objectInit ∈ tbG := tg 20 (by decide +kernel) rfl
theorem oi2 : Cond.code objectInit ⟨#[0xb1]⟩ 1 none ∈ tbG := tg 21 (by decide +kernel) rfl
theorem Ci.of {X : Cx} {d mc ms : Nat} {M : Mth} {ci : Nat} {fs : List Value} {G : Nat → va_W → Prop} (hy : plainName M.1.cls = true) (ho : M.1.cls = M.2.2.2.2) (hi : M.1.name = "<init>") (hn : 1 ≤ M.2.2.1) (k : ∀ (h0 : Nat) (A : Nat → Prop), Kq X d mc ms M A (G h0) 0 [(0, .ref h0)] [] [(h0, .inr (ci, fs))] 0 0) : Ci X d mc ms M ci fs G := by
  intro h0 sz
  refine Met.ofW (cc := M.2.1) (maxL := M.2.2.1) (ret := M.2.2.2.1) hy rfl ?_
  intro p e s m args below meth c s₁ B hml hv
  obtain ⟨rfl, hsz, hP, hK, hN, hO⟩ := hv
  have hts := atoms_spec (ws := mW M) B.pre
  have hown : s.vm.findClass M.1.cls = some m.cls := findClass_of_methodNamed B.named
  have hl := lv_entry [Value.ref h0] (n := M.2.2.1) hn
  rw [lg_entry_eq]
  refine k h0 _ p e s m _ below meth c s.heap [] _ ⟨B.exec, B.bytes, hml, B.returns, B.notSynchronized, ho ▸ hown, fun w hw => hts w (List.mem_cons_of_mem _ hw), hK, hN, hO, ((name_of_methodNamed B.named B.method).1).trans hi⟩ (fun q hq => Or.inr (hsz ▸ hq)) hP ?_ va_S.rf hl
  refine ⟨fun i j x y hx hy _ => ?_, fun k q hk => va_A.in hk⟩
  have h1 : i < 1 := (List.getElem?_eq_some_iff.mp hx).1
  have h2 : j < 1 := (List.getElem?_eq_some_iff.mp hy).1
  omega
section KR
variable {X : Cx} {d mc ms : Nat} {M : Mth} {A : Nat → Prop} {G : va_W → Prop} {pc q : Nat} {loc : List (Nat × Value)} {stk : List Value} {ws : va_W} {cu su : Nat}
theorem clsI {X : Cx} {s : State} {cA : ClassId} {t : FieldType} {k : Nat} (hK : va_K X.2.1 vwCl (tysX X) s) (hk : (tysX X)[k]? = some (X.2.2.1 k, t)) (hK2 : va_K X.2.1 vwCl (tysX X ++ [(cA, t)]) s) (ht : ∀ c, va_RA s c t → s.vm.findClass ("[" ++ t.toString) = some c) : cA = X.2.2.1 k := by
  have h1 := ht _ (hK.2 k _ hk).2
  have h2 := ht _ (hK2.2 3 (cA, t) rfl).2
  rw [h1] at h2
  exact (Option.some.inj h2).symm

theorem K_al0 {h0 : Nat} (hd : decode M.2.1 pc = .ok (.aload_n 0, 1)) (hg : loc[0]? = some (0, .ref h0)) (hq : pc + 1 = q) (k : Kq X d mc ms M A G q loc (.ref h0 :: stk) (ws) (cu) (su)) : Kq X d mc ms M A G pc loc (stk) (ws) (cu) (su) := by
  subst hq
  intro p e s m args below meth c H locs ls B hA hP hD hS hl
  exact lv_aload_n B.1 B.2.1 hd rfl (lv_at hl 0 hg) (k p e s m args below meth c H locs ls B hA hP hD hS hl)
theorem K_al1 {h0 : Nat} (hd : decode M.2.1 pc = .ok (.aload_n 0, 1)) (hg : loc[1]? = some (0, .ref h0)) (hq : pc + 1 = q) (k : Kq X d mc ms M A G q loc (.ref h0 :: stk) (ws) (cu) (su)) : Kq X d mc ms M A G pc loc (stk) (ws) (cu) (su) := by
  subst hq
  intro p e s m args below meth c H locs ls B hA hP hD hS hl
  exact lv_aload_n B.1 B.2.1 hd rfl (lv_at hl 1 hg) (k p e s m args below meth c H locs ls B hA hP hD hS hl)
theorem K_il1 {x : Int32} (hd : decode M.2.1 pc = .ok (.iload_n 1, 1)) (hg : loc[0]? = some (1, .int x)) (hq : pc + 1 = q) (k : Kq X d mc ms M A G q loc (.int x :: stk) (ws) (cu) (su)) : Kq X d mc ms M A G pc loc (stk) (ws) (cu) (su) := by
  subst hq
  intro p e s m args below meth c H locs ls B hA hP hD hS hl
  exact lv_iload_n B.1 B.2.1 hd rfl (lv_at hl 0 hg) (k p e s m args below meth c H locs ls B hA hP hD hS hl)
theorem K_iconst {n : Int} {v : Int32} (hd : decode M.2.1 pc = .ok (.iconst n, 1)) (hv : Int32.ofInt n = v) (hq : pc + 1 = q) (k : Kq X d mc ms M A G q loc (.int v :: stk) (ws) (cu) (su)) : Kq X d mc ms M A G pc loc (stk) (ws) (cu) (su) := by
  subst hq
  intro p e s m args below meth c H locs ls B hA hP hD hS hl
  exact lv_iconst B.1 B.2.1 hd hv (k p e s m args below meth c H locs ls B hA hP hD hS hl)
theorem K_bipush {n : Int} {v : Int32} (hd : decode M.2.1 pc = .ok (.bipush n, 2)) (hv : (Int8.ofInt n).toInt32 = v) (hq : pc + 2 = q) (k : Kq X d mc ms M A G q loc (.int v :: stk) (ws) (cu) (su)) : Kq X d mc ms M A G pc loc (stk) (ws) (cu) (su) := by
  subst hq
  intro p e s m args below meth c H locs ls B hA hP hD hS hl
  exact lv_bipush B.1 B.2.1 hd hv (k p e s m args below meth c H locs ls B hA hP hD hS hl)
theorem K_sipush {n : Int} {v : Int32} (hd : decode M.2.1 pc = .ok (.sipush n, 3)) (hv : (Int16.ofInt n).toInt32 = v) (hq : pc + 3 = q) (k : Kq X d mc ms M A G q loc (.int v :: stk) (ws) (cu) (su)) : Kq X d mc ms M A G pc loc (stk) (ws) (cu) (su) := by
  subst hq
  intro p e s m args below meth c H locs ls B hA hP hD hS hl
  exact lv_sipush B.1 B.2.1 hd hv (k p e s m args below meth c H locs ls B hA hP hD hS hl)
theorem K_dup {a : Nat} (hd : decode M.2.1 pc = .ok (.dup, 1)) (hq : pc + 1 = q) (k : Kq X d mc ms M A G q loc (.ref a :: .ref a :: stk) (ws) (cu) (su)) : Kq X d mc ms M A G pc loc (.ref a :: stk) (ws) (cu) (su) := by
  subst hq
  intro p e s m args below meth c H locs ls B hA hP hD hS hl
  exact lv_dup B.1 B.2.1 hd rfl (k p e s m args below meth c H locs ls B hA hP hD hS hl)
theorem K_super {h0 i : Nat} (hd : decode M.2.1 pc = .ok (.invokespecial i, 3)) (hl0 : Cond.methodLink M.2.2.2.2 i objectInit ∈ tbG) (h1d : 1 ≤ d) (hq : pc + 3 = q) (k : Kq X d mc ms M A G q loc ([]) (ws) (cu) (su)) : Kq X d mc ms M A G pc loc ([.ref h0]) (ws) (cu) (su) := by
  subst hq
  intro p e s m args below meth c H locs ls B hA hP hD hS hl
  have hts := B.2.2.2.2.2.2.1
  refine W.objInit B.1 B.2.1 B.2.2.2.2.2.1 (hts _ hl0) (hts _ oi1) (hts _ oi2) rfl (by rw [B.2.2.1]; exact hl.1) rfl hd h1d (by show 2 * 0 + 0 + 12 ≤ 40 * d; omega) ?_
  exact W.eq (g2 := F0 m (pc + 3) ls []) rfl (k p e s m args below meth c H locs ls B hA hP hD hS hl)
theorem K_putI {h0 i ci kk : Nat} {fs : List Value} {rs : va_W} {x : Int32} (hd : decode M.2.1 pc = .ok (.putfield i, 3)) (hf : FL M.2.2.2.2 i ci kk false .int) (hlen : kk < fs.length) (hq : pc + 3 = q) (k : Kq X d mc ms M A G q loc (stk) ((h0, .inr (ci, fs.set kk (.int x))) :: rs) (cu) (su)) : Kq X d mc ms M A G pc loc (.int x :: .ref h0 :: stk) ((h0, .inr (ci, fs)) :: rs) (cu) (su) := by
  subst hq
  intro p e s m args below meth c H locs ls B hA hP hD hS hl
  obtain ⟨C, T, N, ty, ⟨hc, hN, ha, hin, hty, hnm⟩, hkN, hT, hfin, htk, hlk⟩ := hf
  have hts := B.2.2.2.2.2.2.1
  rcases hlk with hlk | ⟨hh, hlk⟩
  · exact va_put (v := .int x) (ty := .int) (rest := stk) B.1 B.2.1 hts hin ty hty hnm B.2.2.2.2.2.1 B.2.2.2.2.2.2.2.1 hP hD hS 0 rfl hc kk hkN (hts _ hlk) (fun x hx => by rw [← hT]; exact hx) hfin (by rw [hty kk hkN, htk]) rfl rfl hlen hd (fun H1 locs1 hP1 hD1 hS1 => k p e s m args below meth c H1 locs1 ls B hA hP1 hD1 hS1 hl)
  · exact va_putN (v := .int x) (ty := .int) (rest := stk) B.1 B.2.1 hts hin ty hty hnm B.2.2.2.2.2.1 B.2.2.2.2.2.2.2.1 hP hD hS 0 rfl hc kk hkN (va_Nw.use rfl (B.2.2.2.2.2.2.2.2.1 _ hlk)) (fun x hx => by rw [← hT]; exact hx) hfin (by rw [hty kk hkN, htk]) rfl rfl hlen hd (fun H1 locs1 hP1 hD1 hS1 => k p e s m args below meth c H1 locs1 ls B hA hP1 hD1 hS1 hl)
theorem K_putF {h0 i ci kk a : Nat} {fs : List Value} {rs : va_W} {t : FieldType} (hd : decode M.2.1 pc = .ok (.putfield i, 3)) (hf : ∃ (T : u_T) (N : Nat) (ty : Nat → FieldType), clsOK ci M.2.2.2.2 T N ty ∧ kk < N ∧ (T kk).1 = M.2.2.2.2 ∧ (T kk).2.2.2 = true ∧ ty kk = t ∧ Cond.fieldLink M.2.2.2.2 i M.2.2.2.2 (T kk).2.1 (T kk).2.2.1 ∈ tbG) (hnr : narrow t (.ref a) = .ref a) (hft : fits t (.ref a) = true) (hlen : kk < fs.length) (hq : pc + 3 = q) (k : Kq X d mc ms M A G q loc (stk) ((h0, .inr (ci, fs.set kk (.ref a))) :: rs) (cu) (su)) : Kq X d mc ms M A G pc loc (.ref a :: .ref h0 :: stk) ((h0, .inr (ci, fs)) :: rs) (cu) (su) := by
  subst hq
  intro p e s m args below meth c H locs ls B hA hP hD hS hl
  obtain ⟨T, N, ty, ⟨hc, hN, ha, hin, hty, hnm⟩, hkN, hT, hfin, htk, hlk⟩ := hf
  have hts := B.2.2.2.2.2.2.1
  exact va_putF (v := .ref a) (ty := t) (rest := stk) B.1 B.2.1 hts hin ty hty hnm B.2.2.2.2.2.1 B.2.2.2.2.2.2.2.1 hP hD hS 0 rfl hc kk hkN (hts _ hlk) (fun x hx => by rw [← hT]; exact hx) hfin B.2.2.2.2.2.2.2.2.2.2 hT (by rw [hty kk hkN, htk]) hnr hft hlen hd (fun H1 locs1 hP1 hD1 hS1 => k p e s m args below meth c H1 locs1 ls B hA hP1 hD1 hS1 hl)
theorem ac0 : Cond.arrayClass .int ∈ tbG := tg 36 (by decide +kernel) rfl
theorem K_newI {n : Int32} {N : Nat} (hd : decode M.2.1 pc = .ok (.newarray .int, 2)) (hn : ¬ n < 0) (hN : n.toNatClampNeg = N) (hb4 : N ≤ 10000) (hcc : cu + 1 ≤ mc) (hss : su + N ≤ ms) (hq : pc + 2 = q) (k : ∀ a : Nat, Kq X d mc ms M A G q loc (.ref a :: stk) (ws ++ [(a, .inl (X.2.2.1 0, N, .inl (fun _ => 0)))]) (cu + 1) (su + N)) : Kq X d mc ms M A G pc loc (.int n :: stk) (ws) (cu) (su) := by
  subst hq
  intro p e s m args below meth c H locs ls B hA hP hD hS hl
  refine va_newa (atype := .int) (ty := .int) (a0 := (N, .inl (fun _ => 0))) (rest := stk) B.1 B.2.1 (B.2.2.2.2.2.2.1 _ ac0) rfl B.2.2.2.2.2.2.2.1 hP hD hS hA (fun cA => rfl) hn hN (by show N * 4 ≤ 536870912; omega) hcc hss hd (fun a cA H1 hK1 hP1 hD1 hS1 => ?_)
  have e1 := clsI (k := 0) B.2.2.2.2.2.2.2.1 rfl hK1 (fun c h => h)
  subst e1
  exact k a p e s m args below meth c H1 locs ls B hA hP1 hD1 hS1 hl
theorem ac1 : Cond.arrayClass .boolean ∈ tbG := tg 688 (by decide +kernel) rfl
theorem K_newZ {n : Int32} {N : Nat} (hd : decode M.2.1 pc = .ok (.newarray .boolean, 2)) (hn : ¬ n < 0) (hN : n.toNatClampNeg = N) (hb4 : N ≤ 10000) (hcc : cu + 1 ≤ mc) (hss : su + N ≤ ms) (hq : pc + 2 = q) (k : ∀ a : Nat, Kq X d mc ms M A G q loc (.ref a :: stk) (ws ++ [(a, .inl (X.2.2.1 1, N, .inl (fun _ => 0)))]) (cu + 1) (su + N)) : Kq X d mc ms M A G pc loc (.int n :: stk) (ws) (cu) (su) := by
  subst hq
  intro p e s m args below meth c H locs ls B hA hP hD hS hl
  refine va_newa (atype := .boolean) (ty := .boolean) (a0 := (N, .inl (fun _ => 0))) (rest := stk) B.1 B.2.1 (B.2.2.2.2.2.2.1 _ ac1) rfl B.2.2.2.2.2.2.2.1 hP hD hS hA (fun cA => rfl) hn hN (by show N * 1 ≤ 536870912; omega) hcc hss hd (fun a cA H1 hK1 hP1 hD1 hS1 => ?_)
  have e1 := clsI (k := 1) B.2.2.2.2.2.2.2.1 rfl hK1 (fun c h => h)
  subst e1
  exact k a p e s m args below meth c H1 locs ls B hA hP1 hD1 hS1 hl
theorem K_newR {n : Int32} {N i : Nat} (hd : decode M.2.1 pc = .ok (.anewarray i, 3)) (hcl : Cond.classLink M.2.2.2.2 i SN ∈ tbG) (hn : ¬ n < 0) (hN : n.toNatClampNeg = N) (hb4 : N ≤ 10000) (hcc : cu + 1 ≤ mc) (hss : su + N ≤ ms) (hq : pc + 3 = q) (k : ∀ a : Nat, Kq X d mc ms M A G q loc (.ref a :: stk) (ws ++ [(a, .inl (X.2.2.1 2, N, .inr (.inr (.inr (.inr (fun _ => none))))))]) (cu + 1) (su + N)) : Kq X d mc ms M A G pc loc (.int n :: stk) (ws) (cu) (su) := by
  subst hq
  intro p e s m args below meth c H locs ls B hA hP hD hS hl
  refine va_newq (C := SN) (N' := N) (rest := stk) B.1 B.2.1 B.2.2.2.2.2.1 (B.2.2.2.2.2.2.1 _ hcl) B.2.2.2.2.2.2.2.2.2.1 B.2.2.2.2.2.2.2.1 hP hD hS hA hn hN (by omega) hcc hss hd (fun a cA H1 hK1 hP1 hD1 hS1 => ?_)
  have e1 := clsI (k := 2) B.2.2.2.2.2.2.2.1 rfl hK1 (fun c h => by obtain ⟨kA, comp, h1, h2, h3, h4⟩ := h; exact h4)
  subst e1
  exact k a p e s m args below meth c H1 locs ls B hA hP1 hD1 hS1 hl
theorem K_new {i ci N : Nat} {C : String} {T : u_T} {ty : Nat → FieldType} {fs : List Value} (hd : decode M.2.1 pc = .ok (.new i, 3)) (hcl : Cond.classLink M.2.2.2.2 i C ∈ tbG) (hok : clsOK ci C T N ty) (hinst : Cond.instantiable C N ∈ tbG) (hini : Cond.initialized C ∈ tbG) (hfs : ∀ j, j < N → defaultValue (ty j) = vp_V fs j) (hcc : cu + 1 ≤ mc) (hss : su + N ≤ ms) (hq : pc + 3 = q) (k : ∀ a : Nat, Kq X d mc ms M A G q loc (.ref a :: stk) (ws ++ [(a, .inr (ci, fs))]) (cu + 1) (su + N)) : Kq X d mc ms M A G pc loc (stk) (ws) (cu) (su) := by
  subst hq
  intro p e s m args below meth c H locs ls B hA hP hD hS hl
  have hts := B.2.2.2.2.2.2.1
  obtain ⟨hc, hN, ha, hin, hty, hnm⟩ := hok
  exact va_new (ci := ci) (fs := fs) (rest := stk) B.1 B.2.1 hts hin ty hty B.2.2.2.2.2.1 (hts _ hcl) (hts _ hinst) (hts _ hini) B.2.2.2.2.2.2.2.1 hP hD hS hA hc hfs hcc hss hd (fun a H1 hP1 hD1 hS1 => k a p e s m args below meth c H1 locs ls B hA hP1 hD1 hS1 hl)
theorem Wi_blind {X : Cx} {h0 ci sz : Nat} {fs : List Value} {av : List Value} : FrameBlind (va_Pc av (Wi X h0 ci fs sz)) := fun a U g mk q => by
  obtain ⟨q0, q1, qP, qK, qN, qO⟩ := q
  exact ⟨q0, q1, qP, va_K.moved (u := U) (U := U.calling g mk a) (Vm.Alike.refl U.vm) qK, Ns.same (u := U) (U := U.calling g mk a) rfl qN, va_AO.moved (u := U) (U := U.calling g mk a) (Vm.Alike.refl U.vm) qO⟩
theorem K_call {d' mc' ms' i ci a : Nat} {M' : Mth} {fs : List Value} {G' : Nat → va_W → Prop} {wr : va_W} (hd : decode M.2.1 pc = .ok (.invokespecial i, 3)) (hl0 : ML M.2.2.2.2 i M'.1) (hm : mokI M') (hdd : d' + 1 ≤ d) (hcat : (stk.map fun v => v.category).sum ≤ 8) (hcc : cu + mc' ≤ mc) (hss : su + ms' ≤ ms) (hq : pc + 3 = q) (hC : Ci X d' mc' ms' M' ci fs G') (k : ∀ w1 : va_W, G' a w1 → Kq X d mc ms M A G q loc (stk) (wr ++ w1) (cu + mc') (su + ms')) : Kq X d mc ms M A G pc loc (.ref a :: stk) (wr ++ [(a, .inr (ci, fs))]) (cu) (su) := by
  subst hq
  intro p e s m args below meth c H locs ls B hA hP hD hS hl
  obtain ⟨hm1, hm3, hm4, hm5, hm6, hm7, hm8⟩ := hm
  have hts := B.2.2.2.2.2.2.1
  have hR : (rmC d' mc' ms').frames + 1 ≤ (rmC d mc ms).frames ∧ 8 + (M'.2.2.1 + 11) + (rmC d' mc' ms').locals ≤ (rmC d mc ms).locals := ⟨hdd, by show 8 + (M'.2.2.1 + 11) + 40 * d' ≤ 40 * d; omega⟩
  have hlast : (wr ++ [(a, .inr (ci, fs))])[wr.length]? = some ((a, .inr (ci, fs)) : Nat × va_E) := by
    rw [List.getElem?_append_right (Nat.le_refl _), Nat.sub_self]
    rfl
  have hPc : va_P X.2.1 vwCl [(a, .inr (ci, fs))] H := fun j y hy => by
    have hz : j < 1 := (List.getElem?_eq_some_iff.mp hy).1
    rw [show j = 0 by omega] at hy
    cases hy
    exact hP _ _ hlast
  have hFc : ∀ y, va_A [(a, .inr (ci, fs))] H.size y → A y := by
    intro y h
    rcases h with ⟨j, e1, h⟩ | h
    · have hz : j < 1 := (List.getElem?_eq_some_iff.mp h).1
      rw [show j = 0 by omega] at h
      cases h
      exact hD.2 _ _ hlast
    · exact hA y (Nat.le_trans hS.1 h)
  have hp : PreS s H (va_Pc [.ref a] (Wi X a ci fs H.size)) [Value.ref a] :=
    ⟨Wi_blind, fun U hU hW => ⟨rfl, by rw [hU], by rw [hU]; exact hPc, va_K.moved hW.alike B.2.2.2.2.2.2.2.1, B.2.2.2.2.2.2.2.2.1.warm hW, va_AO.moved hW.alike B.2.2.2.2.2.2.2.2.2.1⟩⟩
  have hG : GoodIn tbG (mW M') := mW_good (by rw [hm8]; exact hm4)
  have hw : mW M' = Cond.code M'.1 M'.2.1 M'.2.2.1 none :: tbG := by rw [← hm8]
  have hroom : 2 * (F0 m pc ls (.ref a :: stk)).monitorRoom + (stk.map fun v => v.category).sum ≤ 8 := lv_room hcat
  refine va_callv (post := G' a) (B := fun (w : va_W) t => va_P X.2.1 vwCl w t.heap ∧ va_D (va_A [(a, .inr (ci, fs))] H.size) w) (A1 := va_A [(a, .inr (ci, fs))] H.size) (free := va_A [(a, .inr (ci, fs))] H.size) (mc := mc') (ms := ms') (rest := stk) (a := (Value.ref a :: []).toArray) ?_ hS (fun y _ h => hFc y h) hFc (fun u t H1 locs1 ht hvm hw1 hB hz1 hk1 hS1 => ?_)
  · rcases hl0 with hl0 | ⟨hh, hl0⟩
    · exact va_runI (cc := M.2.1) (nL := M.2.2.1) (Ts := tbG) (own := M.2.2.2.2) (As := []) (b := a) (n := 0) ⟨B.1, B.2.1, B.2.2.1, B.2.2.2.2.2.1, hts⟩ (hC a H.size) (cwI 0 hts hG hw rfl rfl (hts _ hm3) (hts _ hl0) (hts _ hm1) hm7 hm5 hR) hp rfl rfl hl.1 rfl hroom hd ⟨hcc, hss⟩
    · exact va_runIN (cc := M.2.1) (nL := M.2.2.1) (Ts := tbG) (own := M.2.2.2.2) (As := []) (b := a) (n := 0) ⟨B.1, B.2.1, B.2.2.1, B.2.2.2.2.2.1, hts⟩ (hC a H.size) ⟨va_cnB 0 hts hG hw rfl rfl (B.2.2.2.2.2.2.2.2.1 _ hl0) (hts _ hm3) hm5 hR, hm7, hts _ hm1⟩ hp rfl rfl hl.1 rfl hroom hd ⟨hcc, hss⟩
  · obtain ⟨hP1, hD1⟩ := hB
    rw [ht] at hP1
    obtain ⟨hP2, hD2⟩ := va_jn hP hD hk1 hFc hP1 hD1
    exact k u hw1 p e s m args below meth c H1 locs1 ls B hA hP2 hD2 hS1 hl
theorem K_getR {h0 i ci kk : Nat} {fs : List Value} {rs : va_W} {v : Value} (hd : decode M.2.1 pc = .ok (.getfield i, 3)) (hf : ∃ (T : u_T) (N : Nat) (ty : Nat → FieldType), clsOK ci M.2.2.2.2 T N ty ∧ kk < N ∧ (T kk).1 = M.2.2.2.2 ∧ Cond.fieldLink M.2.2.2.2 i M.2.2.2.2 (T kk).2.1 (T kk).2.2.1 ∈ tbG) (hv : fs[kk]? = some v) (hq : pc + 3 = q) (k : Kq X d mc ms M A G q loc (v :: stk) ((h0, .inr (ci, fs)) :: rs) (cu) (su)) : Kq X d mc ms M A G pc loc (.ref h0 :: stk) ((h0, .inr (ci, fs)) :: rs) (cu) (su) := by
  subst hq
  intro p e s m args below meth c H locs ls B hA hP hD hS hl
  obtain ⟨T, N, ty, ⟨hc, hN, ha, hin, hty, hnm⟩, hkN, hT, hlk⟩ := hf
  have hts := B.2.2.2.2.2.2.1
  exact va_get (v := v) (rest := stk) B.1 B.2.1 hts hin B.2.2.2.2.2.1 B.2.2.2.2.2.2.2.1 hP 0 rfl hc kk hkN (hts _ hlk) (fun x hx => by rw [← hT]; exact hx) hv hd (k p e s m args below meth c H locs ls B hA hP hD hS hl)
theorem K_iast {a j n : Nat} {i x : Int32} {f : Nat → Int32} (hd : decode M.2.1 pc = .ok (.iastore, 1)) (ha : ws[j]? = some (a, .inl (X.2.2.1 0, n, .inl f))) (hin : vp_in i n) (hq : pc + 1 = q) (k : Kq X d mc ms M A G q loc (stk) (ws.set j (a, .inl (X.2.2.1 0, n, .inl (upd f i.toNatClampNeg x)))) (cu) (su)) : Kq X d mc ms M A G pc loc (.int x :: .int i :: .ref a :: stk) (ws) (cu) (su) := by
  subst hq
  intro p e s m args below meth c H locs ls B hA hP hD hS hl
  exact va_iast (rest := stk) B.1 B.2.1 B.2.2.2.2.2.2.2.1 hP hD hS j 0 ha rfl hin hd (fun H1 locs1 hP1 hD1 hS1 => k p e s m args below meth c H1 locs1 ls B hA hP1 hD1 hS1 hl)
theorem K_aast {a j qk n v : Nat} {i : Int32} {f : Nat → Option Nat} {vs : List Value} (hd : decode M.2.1 pc = .ok (.aastore, 1)) (ha : ws[j]? = some (a, .inl (X.2.2.1 2, n, .inr (.inr (.inr (.inr f)))))) (hv : ws[qk]? = some (v, .inr (5, vs))) (hin : vp_in i n) (hq : pc + 1 = q) (k : Kq X d mc ms M A G q loc (stk) (ws.set j (a, .inl (X.2.2.1 2, n, .inr (.inr (.inr (.inr (va_up f i.toNatClampNeg (some v)))))))) (cu) (su)) : Kq X d mc ms M A G pc loc (.ref v :: .int i :: .ref a :: stk) (ws) (cu) (su) := by
  subst hq
  intro p e s m args below meth c H locs ls B hA hP hD hS hl
  exact va_astq (r := (RX5, TX5, 8)) (ci := 5) (rest := stk) B.1 B.2.1 B.2.2.2.2.2.2.2.1 hP hD hS j 2 qk ha rfl hv rfl hin hd (fun H1 locs1 hP1 hD1 hS1 => k p e s m args below meth c H1 locs1 ls B hA hP1 hD1 hS1 hl)
theorem K_ist1 {x : Int32} {loc' : List (Nat × Value)} (hd : decode M.2.1 pc = .ok (.istore_n 1, 1)) (hn : 1 < M.2.2.1) (hl' : (1, Value.int x) :: loc.filter (fun q => !(q.1 == 1) && !(q.1 + 1 == 1 && q.2.category == 2)) = loc') (hq : pc + 1 = q) (k : Kq X d mc ms M A G q loc' (stk) (ws) (cu) (su)) : Kq X d mc ms M A G pc loc (.int x :: stk) (ws) (cu) (su) := by
  subst hq
  intro p e s m args below meth c H locs ls B hA hP hD hS hl
  exact lv_istore_n B.1 B.2.1 hd rfl hl hn hl' (fun ls hl => k p e s m args below meth c H locs ls B hA hP hD hS hl)
theorem K_iinc1 {j : Nat} {x v : Int32} {loc' : List (Nat × Value)} (hd : decode M.2.1 pc = .ok (.iinc 1 1, 3)) (hg : loc[j]? = some (1, .int x)) (hv : x + Int32.ofInt 1 = v) (hn : 1 < M.2.2.1) (hl' : (1, Value.int v) :: loc.filter (fun q => !(q.1 == 1) && !(q.1 + 1 == 1 && q.2.category == 2)) = loc') (hq : pc + 3 = q) (k : Kq X d mc ms M A G q loc' (stk) (ws) (cu) (su)) : Kq X d mc ms M A G pc loc (stk) (ws) (cu) (su) := by
  subst hq
  intro p e s m args below meth c H locs ls B hA hP hD hS hl
  exact lv_iinc B.1 B.2.1 hd hl hg hv hn hl' (fun ls hl => k p e s m args below meth c H locs ls B hA hP hD hS hl)
theorem K_goto {off : Int} (hd : decode M.2.1 pc = .ok (.goto off, 3)) (hq : (pc : Int) + off = (q : Int)) (k : Kq X d mc ms M A G q loc (stk) (ws) (cu) (su)) : Kq X d mc ms M A G pc loc (stk) (ws) (cu) (su) := by
  intro p e s m args below meth c H locs ls B hA hP hD hS hl
  exact lv_goto B.1 B.2.1 hd hq (k p e s m args below meth c H locs ls B hA hP hD hS hl)
theorem K_icge {x y : Int32} {off : Int} {tgt : Nat} (hd : decode M.2.1 pc = .ok (.if_icmp .ge off, 3)) (ht : (pc : Int) + off = (tgt : Int)) (hq : pc + 3 = q) (kt : y ≤ x → Kq X d mc ms M A G tgt loc (stk) (ws) (cu) (su)) (kf : ¬ y ≤ x → Kq X d mc ms M A G q loc (stk) (ws) (cu) (su)) : Kq X d mc ms M A G pc loc (.int y :: .int x :: stk) (ws) (cu) (su) := by
  subst hq
  intro p e s m args below meth c H locs ls B hA hP hD hS hl
  exact lv_icmp_ge B.1 B.2.1 hd ht (fun g => kt g p e s m args below meth c H locs ls B hA hP hD hS hl) (fun g => kf g p e s m args below meth c H locs ls B hA hP hD hS hl)
theorem K_ret (hd : decode M.2.1 pc = .ok (.return_, 1)) (hr : M.2.2.2.1 = none) (hc : cu = mc) (hs : su = ms) (hQ : G ws) : Kq X d mc ms M A G pc loc ([]) (ws) (cu) (su) := by
  subst hc
  subst hs
  intro p e s m args below meth c H locs ls B hA hP hD hS hl
  exact W.vret B.1 B.2.1 (B.2.2.2.1.trans hr) (fun t ht hW => ⟨⟨ws, rfl, hQ, by rw [ht]; exact hP, hD⟩, hS.F ht⟩) hS.2.2 hd B.2.2.2.2.1
end KR