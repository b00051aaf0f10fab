/-! THE CLAIM OUT OF ONE WALK OF THE LAW'S BODY. Your part is whole_start (and what it stands on); all else here is the same for every law, but numbers. -/
def R_law : String := "TwoHalvesLaw"
def lw_P (b : Addr) (xs : List Int32) (args : Array Value) (s : State) : Prop := args = #[.ref b] ∧ s.IntsAt b xs ∧ xs.length ≤ 2048 ∧ (Jvm.Cond.and given_1 narrow_1).before args s = true
def lw_Q (_ : Array Value) (s : State) (o : Outcome) (t : State) : Prop := o = .returned (some (.int 1)) ∧ Framed s o t [] 600000 7302250
def lw_Z (below : List Frame) (a : Array Value) (s : State) : State → Prop := fun t => ∃ o, t.status = .running ∧ Ended t below o ∧ lw_Q a s o t
/-- the law's own end, with 1 on the stack, nothing written that was there before, its room as the claim has it -/
theorem lw_ret {p : Program} {l : Launch} {e : Env} {s : State} {m : MethodId} {below : List Frame} {meth : Method} {c : Code} {b : Nat} (hx : p.tables.exec = Jvm.exec) (hb : c.code = code) (hr : meth.sig.returnType = ret) (hlocks : meth.locks = false) {pc : Nat} {H : Heap} {ls : Array Slot} (hdg : decode code pc = .ok (.ireturn, 1)) : W p l e room_1 s m #[Value.ref b] below meth c H [] 600000 7302250 (lw_Z below #[Value.ref b] s) (F0 m pc ls [.int 1]) := by
  intro T hT X
  obtain ⟨fs, hret, hrun, hended, hW, hframe⟩ := X.leave (v := some (.int 1)) (hlocks := hlocks) (fun h => by rw [hr] at h; cases h)
  have hmeth' : T.vm.method? m = some meth := X.method'
  refine ⟨T.setFrames fs, ?_, .returned (some (.int 1)), hrun, hended, rfl, ⟨_, rfl⟩, hW, hframe⟩
  jvm_step X.here [X.here.top, hx, hb, hdg, hmeth', hr, ret, narrow_b1]
  (try refine ⟨rfl, ?_⟩); (try refine ⟨rfl, ?_⟩)
  first | (intro acts; rw [hret _ acts rfl rfl rfl]) | rw [hret _ _ rfl rfl rfl]
  exact Steps.refl _
/-- what holds at the law's entry: the machine, the code, the tables' words (any of lw_tbl by 'hts w (by decide +kernel)'), the script of L ints xs at the cell b, what the Statement gives of the start (any of its parts by flat_of_before) -/
def lw_At (p : Program) (s : State) (m : MethodId) (meth : Method) (c : Code) (b L : Nat) (xs : Nat → Int32) : Prop :=
  p.tables.exec = Jvm.exec ∧ c.code = code ∧ meth.sig.returnType = ret ∧ c.maxLocals = 4 ∧ s.vm.findClass R_law = some m.cls ∧ (∀ w ∈ lw_tbl, w.before #[Value.ref b] s = true) ∧ va_X b L xs s s.heap ∧ b < s.heap.size ∧ meth.locks = false ∧ (Jvm.Cond.and given_1 narrow_1).before #[Value.ref b] s = true
theorem nol (j : Nat) (y : MethodName) (h : String) : Cond.methodLinkNest RL j y h ∉ lw_tbl := by
  intro hm
  have h1 : ∀ w ∈ lw_tbl, (match w with | .methodLinkNest o _ _ _ => decide (o = "TwoHalvesLaw") | _ => false) = false := by decide +kernel
  have h2 := h1 _ hm
  simp [RL] at h2

/-! the law's judgement: program, environment, start, method, frames below, method, code, script's cell, its length, its ints -/
abbrev LE : Type := Program × Env × State × MethodId × List Frame × Method × Code × Nat × Nat × (Nat → Int32)
abbrev eP (E : LE) : Program := E.1
abbrev eE (E : LE) : Env := E.2.1
abbrev eS (E : LE) : State := E.2.2.1
abbrev eM (E : LE) : MethodId := E.2.2.2.1
abbrev eB (E : LE) : List Frame := E.2.2.2.2.1
abbrev eD (E : LE) : Method := E.2.2.2.2.2.1
abbrev eC (E : LE) : Code := E.2.2.2.2.2.2.1
abbrev eb (E : LE) : Nat := E.2.2.2.2.2.2.2.1
abbrev eL (E : LE) : Nat := E.2.2.2.2.2.2.2.2.1
abbrev ex (E : LE) : Nat → Int32 := E.2.2.2.2.2.2.2.2.2
def hAs (s : State) : Nat → Prop := fun q => s.heap.size ≤ q
def SxA (X : Cx) (s : State) : Prop := va_Z "TwoHalves" "DOINGS_END" "[J" (.ref (X.2.2.2.2 0)) (hAs s) s s.heap ∧ va_T .long (X.2.2.2.2 0) 5 dE (hAs s) s s.heap ∧ va_Z "TwoHalves" "ORDERS_BY_LOST" "[I" (.ref (X.2.2.2.2 1)) (hAs s) s s.heap ∧ va_T .int (X.2.2.2.2 1) 5 oB (hAs s) s s.heap
def LO (E : LE) (X : Cx) : Prop := lw_At (eP E) (eS E) (eM E) (eD E) (eC E) (eb E) (eL E) (ex E) ∧ eL E ≤ 2048 ∧ va_K X.2.1 vwCl (tysX X) (eS E) ∧ Ns (eS E) ∧ SxA X (eS E)
def PD (s : State) (X : Cx) (r : Nat) (w : Wd) (H : Heap) : Prop := va_P X.2.1 vwCl (wld X r w) H ∧ va_D (hAs s) (wld X r w)
def LW (E : LE) (X : Cx) (H : Heap) (locs : List Loc) (pc : Nat) (ls : Array Slot) (stk : List Value) : Prop := W (eP E) X.1 (eE E) room_1 (eS E) (eM E) #[Value.ref (eb E)] (eB E) (eD E) (eC E) H locs 600000 7302250 (lw_Z (eB E) #[Value.ref (eb E)] (eS E)) (F0 (eM E) pc ls stk)
abbrev lcs (E : LE) (X : Cx) (β : List Nat → Nat) (i : Nat) : List (Nat × Value) := [(3, .int (nI i)), (0, .ref (eb E)), (1, .ref (X.2.2.2.1 [])), (2, .ref (β []))]
def Lw (E : LE) (X : Cx) (β : List Nat → Nat) (i pc : Nat) (stk : List Value) (w v : Wd) : Prop := ∀ (H : Heap) (locs : List Loc) (ls : Array Slot), PD (eS E) X 0 w H → PD (eS E) (Xm X β) 1 v H → (∀ a, Ar X 0 a → ¬ Ar (Xm X β) 1 a) → va_S (hAs (eS E)) (eS E).heap H locs → lv_has ls 4 (lcs E X β i) → LW E X H locs pc ls stk
theorem va_Z.we {C n d : String} {v : Value} {A A' : Nat → Prop} {U : State} {H : Heap} (h : va_Z C n d v A U H) (hs : ∀ a, A' a → A a) : va_Z C n d v A' U H := by
  obtain ⟨cf, kf, fi, f, a, cell, h1, h2, h3, h4, h5, h6, h7, h8⟩ := h
  exact ⟨cf, kf, fi, f, a, cell, h1, h2, h3, h4, h5, h6, h7, fun h => h8 (hs a h)⟩
theorem va_T.we {ty : FieldType} {t N : Nat} {f : Nat → Value} {A A' : Nat → Prop} {U : State} {H : Heap} (h : va_T ty t N f A U H) (hs : ∀ a, A' a → A a) : va_T ty t N f A' U H := by
  obtain ⟨cell, h1, h2, h3, h4, h5, h6, h7⟩ := h
  exact ⟨cell, h1, h2, h3, h4, h5, h6, fun h => h7 (hs t h)⟩
theorem PD.ar {s : State} {X : Cx} {r : Nat} {w : Wd} {H : Heap} (h : PD s X r w H) : ∀ a, Ar X r a → hAs s a ∧ a < H.size := by
  rintro a ⟨e, he, rfl⟩
  obtain ⟨i, h1, h2⟩ := wld_at (X := X) (w := w) he
  exact ⟨h.2.2 i _ h2, (h.1 i _ h2).lt⟩
theorem wld_ar {X : Cx} {r : Nat} {w : Wd} {k : Nat} {q : Nat × va_E} (h : (wld X r w)[k]? = some q) : Ar X r q.1 := by
  unfold wld at h
  rw [List.getElem?_map] at h
  cases hq : (PT r)[k]? with
  | none => rw [hq] at h; cases h
  | some e =>
    rw [hq] at h
    cases h
    exact ⟨e, List.mem_of_getElem? hq, rfl⟩
theorem PD.kept {s : State} {X : Cx} {r : Nat} {w : Wd} {H H1 : Heap} (h : PD s X r w H) {B : Nat → Prop} (hB : ∀ a, Ar X r a → ¬ B a) (hk : ∀ q : Nat, q < H.size → ¬ B q → H1[q]? = H[q]?) : PD s X r w H1 :=
  ⟨h.1.kept (fun k q hq => hk q.1 ((h.1 k q hq).lt) (hB _ (wld_ar hq))), h.2⟩
section LR
variable {E : LE} {X : Cx} {β : List Nat → Nat} {i pc q : Nat} {stk : List Value} {w v : Wd}
theorem run1 (hE : LO E X) {r d a j : Nat} {M' : Mth} {As : List AV} {ls : Array Slot} {rest : List Value} {H : Heap} {locs : List Loc} {Q : Option AV → Wd → Prop} (hd : decode cL_law pc = .ok (.invokevirtual j, 3)) (hl0 : Cond.methodLink RL j M'.1 ∈ tbG) (hm : mokV M' As.length a) (hd7 : d ≤ 7) (hcat : (rest.map fun v => v.category).sum ≤ 8) (hcell : (([] : List Nat), a, 0) ∈ PT r) (hok : okl r As) (hC : Ct X r d M' (vR a 0 [] :: As) w Q) (hp : PD (eS E) X r w H) (hS : va_S (hAs (eS E)) (eS E).heap H locs) (hl : ls.size = 4)
    (kk : ∀ (rv : Option AV) (w' : Wd) (H1 : Heap) (locs1 : List Loc), Q rv w' → PD (eS E) X r w' H1 → (∀ q : Nat, q < H.size → ¬ Ar X r q → H1[q]? = H[q]?) → va_S (hAs (eS E)) (eS E).heap H1 locs1 → LW E X H1 locs1 (pc + 3) ls ((rv.map (con X)).toList ++ rest)) : LW E X H locs pc ls ((As.map (con X)).reverse ++ .ref (adr X a []) :: rest) := by
  obtain ⟨⟨hx, hb, hr, hml, hown, hts0, hX, hbl, hlocks, hgv⟩, hL, hK, hN, hSx⟩ := id hE
  obtain ⟨hm1, hm2, hm3, hm4, hm5, hm6, hm7, T, N, hm8⟩ := hm
  have hts : ∀ w ∈ tbG, w.before #[Value.ref (eb E)] (eS E) = true := fun w hw => hts0 w (List.mem_filter.mp hw).1
  have harA := fun y hy => (hp.ar y hy).1
  have hDr : va_D (Ar X r) (wld X r w) := ⟨hp.2.1, fun k q hq => wld_ar hq⟩
  have hSx2 : Sx X r (eS E) (eS E).heap := ⟨hSx.1.we harA, hSx.2.1.we harA, hSx.2.2.1.we harA, hSx.2.2.2.we harA⟩
  have hSr : ∀ y : Nat, y < (eS E).heap.size → ¬ Ar X r y → H[y]? = (eS E).heap[y]? := fun y h1 _ => hS.2.1 y h1 (fun h2 => by unfold hAs at h2; omega)
  obtain ⟨k0, -, hk0⟩ := wld_at (X := X) (w := w) hcell
  rw [cellE_obj hm7] at hk0
  have hR : (rmD d).frames + 1 ≤ room_1.frames ∧ 8 + (M'.2.2.1 + 11) + (rmD d).locals ≤ room_1.locals := ⟨by show d + 1 ≤ 9; omega, by show 8 + (M'.2.2.1 + 11) + 40 * d ≤ 354; omega⟩
  have hpre : PreV (eS E) H M'.1.cls (adr X a []) (va_Pc ((vR a 0 [] :: As).map (con X)) (Wl X r w)) (As.map (con X)) :=
    ⟨Wl_blind, va_recv hK hp.1 (ci := a) (q0 := k0) hm8 hk0, fun U hU hW => ⟨rfl, by rw [hU]; exact hp.1, hDr, va_K.moved hW.alike hK, hN.warm hW, hSx2.go hW.alike (fun y h1 h2 => by rw [hU]; exact hSr y h1 h2)⟩⟩
  have hokA : okl r (vR a 0 [] :: As) := okl.cons (Or.inr (Or.inr ⟨by show a < 13; omega, hcell⟩)) hok
  have hroom : 2 * (F0 (eM E) pc ls ((As.map (con X)).reverse ++ .ref (adr X a []) :: rest)).monitorRoom + (rest.map fun v => v.category).sum ≤ 8 := lv_room hcat
  have hrun := va_runV (cc := cL_law) (nL := 4) (Ts := tbG) (own := RL) (R := room_1) (e := eE E) (below := eB E) (meth := eD E) (locs := locs) (cells := 600000) (slots := 7302250) (g := F0 (eM E) pc ls ((As.map (con X)).reverse ++ .ref (adr X a []) :: rest)) (rest := rest) (b := adr X a []) (As := As.map (con X)) (n := As.length) ⟨hx, hb, hml, hown, hts⟩ (hC hokA) ⟨callB_of As.length hts (mW_good hm4) rfl rfl rfl (hts _ hm3) (hts _ hl0) hm5 hR, hts _ hm1, hts _ hm2⟩ hpre rfl (List.length_map ..) hl rfl hroom hd ⟨Nat.le_of_ble_eq_true rfl, Nat.le_of_ble_eq_true rfl⟩
  intro T0 hT Y
  obtain ⟨v1, st₀, t, T', Lo1, h0, Y', hLo, e1, e2, ⟨⟨rv, w', hv, hq, hok1, hP1, hD1⟩, hz, hk⟩, st⟩ := hrun T0 hT Y
  cases hv
  rw [h0] at hz hk
  have hk9 : ∀ y : Nat, y < H.size → ¬ Ar X r y → T'.heap[y]? = H[y]? := fun y h1 h2 => by rw [e1]; exact hk y h1 h2
  obtain ⟨t2, a1, b1⟩ := kk rv w' T'.heap (locs ++ Lo1) hq ⟨by rw [e1]; exact hP1, hD1.weaken (fun k y _ h => harA y.1 h)⟩ hk9
    ⟨Nat.le_trans hS.1 (by rw [e1]; exact hz), fun y h1 h2 => by rw [hk9 y (Nat.lt_of_lt_of_le h1 hS.1) (fun h3 => h2 (harA y h3))]; exact hS.2.1 y h1 h2, fun y hy => by
      rcases List.mem_append.mp hy with h | h
      · exact hS.2.2 y h
      · exact harA _ (hLo y h)⟩ T' rfl Y'
  exact ⟨t2, st t2 a1, b1⟩
theorem L_x (hE : LO E X) {d j : Nat} {M' : Mth} {As : List AV} {Q : Option AV → Wd → Prop} (hd : decode cL_law pc = .ok (.invokevirtual j, 3)) (hl0 : ML RL j M'.1) (hm : mokV M' As.length 7) (hd7 : d ≤ 7) (hcat : (stk.map fun v => v.category).sum ≤ 8) (hq : pc + 3 = q) (hok : okl 0 As) (hC : Ct X 0 d M' (vR 7 0 [] :: As) w Q) (kk : ∀ rv w', Q rv w' → Lw E X β i q ((rv.map (con X)).toList ++ stk) w' v) : Lw E X β i pc ((As.map (con X)).reverse ++ .ref (X.2.2.2.1 []) :: stk) w v := by
  subst hq
  intro H locs ls hx hm1 hdis hS hl
  rcases hl0 with hl0 | ⟨hh, hl0⟩
  · refine run1 (a := 7) (r := 0) hE hd hl0 hm hd7 hcat (by decide) hok hC hx hS hl.1 (fun rv w' H1 locs1 hq hx1 hk hS1 => ?_)
    exact kk rv w' hq H1 locs1 ls hx1 (hm1.kept (fun a ha hb => hdis a hb ha) hk) hdis hS1 hl
  · exact absurd (List.mem_filter.mp hl0).1 (nol _ _ _)
theorem L_m (hE : LO E X) {d j : Nat} {M' : Mth} {As : List AV} {Q : Option AV → Wd → Prop} (hd : decode cL_law pc = .ok (.invokevirtual j, 3)) (hl0 : ML RL j M'.1) (hm : mokV M' As.length 8) (hd7 : d ≤ 7) (hcat : (stk.map fun v => v.category).sum ≤ 8) (hq : pc + 3 = q) (hok : okl 1 As) (hC : Ct (Xm X β) 1 d M' (vR 8 0 [] :: As) v Q) (kk : ∀ rv v', Q rv v' → Lw E X β i q ((rv.map (con (Xm X β))).toList ++ stk) w v') : Lw E X β i pc ((As.map (con (Xm X β))).reverse ++ .ref (β []) :: stk) w v := by
  subst hq
  intro H locs ls hx hm1 hdis hS hl
  rcases hl0 with hl0 | ⟨hh, hl0⟩
  · refine run1 (X := Xm X β) (a := 8) (r := 1) hE hd hl0 hm hd7 hcat (by decide) hok hC hm1 hS hl.1 (fun rv w' H1 locs1 hq hx1 hk hS1 => ?_)
    exact kk rv w' hq H1 locs1 ls (hx.kept (fun a ha hb => hdis a ha hb) hk) hx1 hdis hS1 hl
  · exact absurd (List.mem_filter.mp hl0).1 (nol _ _ _)
theorem L_al1 (hE : LO E X)  (hd : decode cL_law pc = .ok (.aload_n 1, 1)) (hq : pc + 1 = q) (k : Lw E X β i q (.ref (X.2.2.2.1 []) :: stk) w v) : Lw E X β i pc (stk) w v := by
  subst hq
  intro H locs ls hx hm hdis hS hl
  obtain ⟨⟨hx0, hb0, hr0, hml0, hown0, hts0, hX0, hbl0, hlocks0, hgv0⟩, hL0, hK0, hN0, hSx0⟩ := id hE
  exact lv_aload_n hx0 hb0 hd rfl (lv_at hl 2 rfl) (k H locs ls hx hm hdis hS hl)
theorem L_al2 (hE : LO E X)  (hd : decode cL_law pc = .ok (.aload_n 2, 1)) (hq : pc + 1 = q) (k : Lw E X β i q (.ref (β []) :: stk) w v) : Lw E X β i pc (stk) w v := by
  subst hq
  intro H locs ls hx hm hdis hS hl
  obtain ⟨⟨hx0, hb0, hr0, hml0, hown0, hts0, hX0, hbl0, hlocks0, hgv0⟩, hL0, hK0, hN0, hSx0⟩ := id hE
  exact lv_aload_n hx0 hb0 hd rfl (lv_at hl 3 rfl) (k H locs ls hx hm hdis hS hl)
theorem L_arg (hE : LO E X) {n : Int} {kn : Nat} (hi : i + kn < eL E) (hv : Int32.ofInt n = nI kn) (d0 : decode cL_law pc = .ok (.aload_n 0, 1)) (d1 : decode cL_law (pc + 1) = .ok (.iload_n 3, 1)) (d2 : decode cL_law (pc + 1 + 1) = .ok (.iconst n, 1)) (d3 : decode cL_law (pc + 1 + 1 + 1) = .ok (.iadd, 1)) (d4 : decode cL_law (pc + 1 + 1 + 1 + 1) = .ok (.iaload, 1)) (hq : pc + 1 + 1 + 1 + 1 + 1 = q) (k : Lw E X β i q (.int (ex E (i + kn)) :: stk) w v) : Lw E X β i pc (stk) w v := by
  subst hq
  intro H locs ls hx hm hdis hS hl
  obtain ⟨⟨hx0, hb0, hr0, hml0, hown0, hts0, hX0, hbl0, hlocks0, hgv0⟩, hL0, hK0, hN0, hSx0⟩ := id hE
  refine lv_aload_n hx0 hb0 d0 rfl (lv_at hl 1 rfl) ?_
  refine lv_iload_n hx0 hb0 d1 rfl (lv_at hl 0 rfl) ?_
  refine lv_iconst hx0 hb0 d2 hv ?_
  refine lv_iadd hx0 hb0 d3 ?_
  rw [nI_add]
  refine va_sld hx0 hb0 hX0 hbl0 (fun h => Nat.not_le.mpr hbl0 h) hS (vp_in_nI hi (by omega)) d4 ?_
  rw [nI_clamp (by omega)]
  exact k H locs ls hx hm hdis hS hl
theorem L_bool (hE : LO E X) {x : Int32} {pf : Nat} {o1 o2 : Int} (d0 : decode cL_law pc = .ok (.ifCond .eq o1, 3)) (h0 : (pc : Int) + o1 = (pf : Int)) (d1 : decode cL_law (pc + 3) = .ok (.iconst 1, 1)) (d2 : decode cL_law (pc + 3 + 1) = .ok (.goto o2, 3)) (h2 : ((pc + 3 + 1 : Nat) : Int) + o2 = (q : Int)) (d3 : decode cL_law pf = .ok (.iconst 0, 1)) (hq : pf + 1 = q) (k : Lw E X β i q (.int (if x = 0 then 0 else 1) :: stk) w v) : Lw E X β i pc (.int x :: stk) w v := by
  subst hq
  intro H locs ls hx hm hdis hS hl
  obtain ⟨⟨hx0, hb0, hr0, hml0, hown0, hts0, hX0, hbl0, hlocks0, hgv0⟩, hL0, hK0, hN0, hSx0⟩ := id hE
  refine lv_if_eq (tgt := pf) hx0 hb0 d0 h0 (fun c1 => ?_) (fun c1 => ?_)
  · rw [if_pos c1] at k
    exact lv_iconst (v := 0) hx0 hb0 d3 (by decide) (k H locs ls hx hm hdis hS hl)
  · rw [if_neg c1] at k
    refine lv_iconst (v := 1) hx0 hb0 d1 (by decide) ?_
    exact lv_goto hx0 hb0 d2 h2 (k H locs ls hx hm hdis hS hl)
theorem L_i2l (hE : LO E X) {x : Int32} (hd : decode cL_law pc = .ok (.i2l, 1)) (hq : pc + 1 = q) (k : Lw E X β i q (.long x.toInt64 :: stk) w v) : Lw E X β i pc (.int x :: stk) w v := by
  subst hq
  intro H locs ls hx hm hdis hS hl
  obtain ⟨⟨hx0, hb0, hr0, hml0, hown0, hts0, hX0, hbl0, hlocks0, hgv0⟩, hL0, hK0, hN0, hSx0⟩ := id hE
  exact lv_i2l hx0 hb0 hd rfl (k H locs ls hx hm hdis hS hl)
theorem L_bip (hE : LO E X) {n : Int} {x : Int32} (hd : decode cL_law pc = .ok (.bipush n, 2)) (hv : (Int8.ofInt n).toInt32 = x) (hq : pc + 2 = q) (k : Lw E X β i q (.int x :: stk) w v) : Lw E X β i pc (stk) w v := by
  subst hq
  intro H locs ls hx hm hdis hS hl
  obtain ⟨⟨hx0, hb0, hr0, hml0, hown0, hts0, hX0, hbl0, hlocks0, hgv0⟩, hL0, hK0, hN0, hSx0⟩ := id hE
  exact lv_bipush hx0 hb0 hd hv (k H locs ls hx hm hdis hS hl)
theorem L_lshl (hE : LO E X) {x : Int64} {y : Int32} (hd : decode cL_law pc = .ok (.lshl, 1)) (hq : pc + 1 = q) (k : Lw E X β i q (.long (x <<< (y.toInt64 &&& 63)) :: stk) w v) : Lw E X β i pc (.int y :: .long x :: stk) w v := by
  subst hq
  intro H locs ls hx hm hdis hS hl
  obtain ⟨⟨hx0, hb0, hr0, hml0, hown0, hts0, hX0, hbl0, hlocks0, hgv0⟩, hL0, hK0, hN0, hSx0⟩ := id hE
  exact lv_lshl hx0 hb0 hd rfl (k H locs ls hx hm hdis hS hl)
theorem L_land (hE : LO E X) {x y : Int64} (hd : decode cL_law pc = .ok (.land, 1)) (hq : pc + 1 = q) (k : Lw E X β i q (.long (x &&& y) :: stk) w v) : Lw E X β i pc (.long y :: .long x :: stk) w v := by
  subst hq
  intro H locs ls hx hm hdis hS hl
  obtain ⟨⟨hx0, hb0, hr0, hml0, hown0, hts0, hX0, hbl0, hlocks0, hgv0⟩, hL0, hK0, hN0, hSx0⟩ := id hE
  exact lv_land hx0 hb0 hd (k H locs ls hx hm hdis hS hl)
theorem L_lor (hE : LO E X) {x y : Int64} (hd : decode cL_law pc = .ok (.lor, 1)) (hq : pc + 1 = q) (k : Lw E X β i q (.long (x ||| y) :: stk) w v) : Lw E X β i pc (.long y :: .long x :: stk) w v := by
  subst hq
  intro H locs ls hx hm hdis hS hl
  obtain ⟨⟨hx0, hb0, hr0, hml0, hown0, hts0, hX0, hbl0, hlocks0, hgv0⟩, hL0, hK0, hN0, hSx0⟩ := id hE
  exact lv_lor hx0 hb0 hd (k H locs ls hx hm hdis hS hl)
theorem L_ldc2 (hE : LO E X) {n : Nat} {x : Int64} (hd : decode cL_law pc = .ok (.ldc2_w n, 3)) (hc : Cond.constantLong RL n x ∈ tbG) (hq : pc + 3 = q) (k : Lw E X β i q (.long x :: stk) w v) : Lw E X β i pc (stk) w v := by
  subst hq
  intro H locs ls hx hm hdis hS hl
  obtain ⟨⟨hx0, hb0, hr0, hml0, hown0, hts0, hX0, hbl0, hlocks0, hgv0⟩, hL0, hK0, hN0, hSx0⟩ := id hE
  exact lv_ldc2 hx0 hb0 hown0 (hts0 _ (List.mem_filter.mp hc).1) hd (k H locs ls hx hm hdis hS hl)
theorem L_eq (hE : LO E X) {x y : Int32} {off : Int} (hxy : x = y) (hd : decode cL_law pc = .ok (.if_icmp .eq off, 3)) (hq : (pc : Int) + off = (q : Int)) (k : Lw E X β i q stk w v) : Lw E X β i pc (.int y :: .int x :: stk) w v := by
  intro H locs ls hx hm hdis hS hl
  obtain ⟨⟨hx0, hb0, -⟩, -⟩ := id hE
  exact lv_icmp_eq hx0 hb0 hd hq (fun _ => k H locs ls hx hm hdis hS hl) (fun h => absurd hxy h)
theorem L_leq (hE : LO E X) {x y : Int64} {off : Int} (hxy : x = y) (hd : decode cL_law pc = .ok (.lcmp, 1)) (hd2 : decode cL_law (pc + 1) = .ok (.ifCond .eq off, 3)) (hq : ((pc + 1 : Nat) : Int) + off = (q : Int)) (k : Lw E X β i q stk w v) : Lw E X β i pc (.long y :: .long x :: stk) w v := by
  intro H locs ls hx hm hdis hS hl
  obtain ⟨⟨hx0, hb0, -⟩, -⟩ := id hE
  refine W.lcmp hx0 hb0 hd ?_
  refine lv_if_eq hx0 hb0 hd2 hq (fun _ => k H locs ls hx hm hdis hS hl) (fun h => absurd ?_ h)
  rw [hxy]
  simp [lg_cmp]
end LR
