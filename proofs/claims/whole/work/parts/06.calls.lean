/-! calls -/
theorem Wl_blind {X : Cx} {r : Nat} {w : Wd} {av : List Value} : FrameBlind (va_Pc av (Wl X r w)) := fun a U g mk q => by
  obtain ⟨q0, qP, qD, qK, qN, qX⟩ := q
  exact ⟨q0, qP, qD, va_K.moved (u := U) (U := U.calling g mk a) (Vm.Alike.refl U.vm) qK, Ns.same (u := U) (U := U.calling g mk a) rfl qN, qX.go (Vm.Alike.refl U.vm) (fun _ _ _ => rfl)⟩
theorem Wl_at {X : Cx} {r : Nat} {w : Wd} {s U : State} {H : Heap} {locs : List Loc} (hP : va_P X.2.1 vwCl (wld X r w) H) (hD : va_D (Ar X r) (wld X r w)) (hS : va_S (Ar X r) s.heap H locs) (hK : va_K X.2.1 vwCl (tysX X) s) (hN : Ns s) (hX : Sx X r s s.heap) (hU : U.heap = H) (hW : s.WarmedH U.vm) : Wl X r w U :=
  ⟨by rw [hU]; exact hP, hD, va_K.moved hW.alike hK, hN.warm hW, hX.go hW.alike (fun a h1 h2 => by rw [hU]; exact hS.2.1 a h1 h2)⟩
theorem Wq_run {X : Cx} {r : Nat} {p : Program} {e : Env} {R : Room} {s : State} {m : MethodId} {args : Array Value} {below : List Frame} {meth : Method} {c : Code} {H : Heap} {locs : List Loc} {Q : State → Prop} {Q1 : Option AV → Wd → Prop} {pc : Nat} {ls : Array Slot} {st0 rest : List Value} {a : Array Value}
    (hr : va_Run p X.1 e R s m args below meth c H locs 0 0 0 0 (F0 m pc ls st0) rest (Qres X r Q1 a) (Ar X r)) (hS : va_S (Ar X r) s.heap H locs)
    (kk : ∀ (rv : Option AV) (w' : Wd) (H1 : Heap) (locs1 : List Loc), Q1 rv w' → okl r rv.toList → va_P X.2.1 vwCl (wld X r w') H1 → va_D (Ar X r) (wld X r w') → va_S (Ar X r) s.heap H1 locs1 → W p X.1 e R s m args below meth c H1 locs1 0 0 Q (F0 m (pc + 3) ls ((rv.map (con X)).toList ++ rest))) : W p X.1 e R s m args below meth c H locs 0 0 Q (F0 m pc ls st0) := by
  intro T hT Y
  obtain ⟨v, st₀, t, T', L, h0, Y', hL, e1, e2, ⟨⟨rv, w', hv, hq, hok, hP1, hD1⟩, hz, hk⟩, st⟩ := hr T hT Y
  cases hv
  rw [h0] at hz hk
  obtain ⟨t2, a1, b1⟩ := kk rv w' T'.heap (locs ++ L) hq hok (by rw [e1]; exact hP1) hD1
    ⟨Nat.le_trans hS.1 (by rw [e1]; exact hz), fun q h1 h2 => by rw [e1, hk q (Nat.lt_of_lt_of_le h1 hS.1) h2]; exact hS.2.1 q h1 h2, fun q hq => by
      rcases List.mem_append.mp hq with h | h
      · exact hS.2.2 q h
      · exact hL q h⟩ T' rfl Y'
  exact ⟨t2, st t2 a1, b1⟩
def mokV (M : Mth) (n a : Nat) : Prop := Cond.instanceMethod M.1 ∈ tbG ∧ Cond.selects M.1.cls M.1 M.1 ∈ tbG ∧ Cond.initialized M.1.cls ∈ tbG ∧ Cond.code M.1 M.2.1 M.2.2.1 M.2.2.2.1 ∈ tbG ∧ (M.1.cls ≠ "java/lang/invoke/MethodHandle" ∧ M.1.cls ≠ "java/lang/invoke/VarHandle" ∧ (parseMethodDescriptor M.1.desc).map (fun d => d.parameters.length) = some n) ∧ M.2.2.1 ≤ 21 ∧ a < 9 ∧ ∃ T N, vwCl[a]? = some (M.1.cls, T, N)
def mokS (M : Mth) (n : Nat) : Prop := Cond.static M.1 ∈ tbG ∧ Cond.initialized M.1.cls ∈ tbG ∧ Cond.code M.1 M.2.1 M.2.2.1 M.2.2.2.1 ∈ tbG ∧ (M.1.cls ≠ "java/lang/invoke/MethodHandle" ∧ M.1.cls ≠ "java/lang/invoke/VarHandle" ∧ (parseMethodDescriptor M.1.desc).map (fun d => d.parameters.length) = some n) ∧ M.2.2.1 ≤ 21
def ML (own : String) (i : Nat) (y : MethodName) : Prop := Cond.methodLink own i y ∈ tbG ∨ ∃ h, Cond.methodLinkNest own i y h ∈ tbN
theorem mW_good {M : Mth} (h : Cond.code M.1 M.2.1 M.2.2.1 M.2.2.2.1 ∈ tbG) : GoodIn tbG (mW M) := fun w hw => by
  rcases List.mem_cons.mp hw with rfl | hw
  · exact ⟨h, Or.inl rfl⟩
  · exact tbG_good w hw
section RC
variable {X : Cx} {r d : Nat} {M : Mth} {pc q : Nat} {loc : Lo} {stk : List AV} {w : Wd} {Q : Option AV → Wd → Prop}
theorem R_callV {M' : Mth} {As : List AV} {a n i : Nat} {pa : List Nat} {Q1 : Option AV → Wd → Prop} (hd : decode M.2.1 pc = .ok (.invokevirtual i, 3)) (hl0 : ML M.2.2.2.2 i M'.1) (hm : mokV M' As.length a) (hc : (stk.map cat).sum ≤ 8) (hq : pc + 3 = q) (hC : Ct X r d M' (vR a n pa :: As) w Q1) (kk : ∀ rv w', Q1 rv w' → Wq X r (d + 1) M q loc (rv.toList ++ stk) w' Q) : Wq X r (d + 1) M pc loc (As.reverse ++ vR a n pa :: stk) w Q := by
  subst hq
  intro h1 h2 p e s m args below meth c H locs ls B hP hD hS hl
  obtain ⟨hm1, hm2, hm3, hm4, hm5, hm6, hm7, T, N, hm8⟩ := hm
  have hst : (As.reverse ++ vR a n pa :: stk).map (con X) = (As.map (con X)).reverse ++ .ref (adr X a pa) :: stk.map (con X) := by
    rw [List.map_append, List.map_reverse]
    rfl
  have hthis : okv r (vR a n pa) := h2 _ (List.mem_append_right _ List.mem_cons_self)
  have hok : okl r (vR a n pa :: As) := okl.cons hthis (fun v hv => h2 v (List.mem_append_left _ (List.mem_reverse.mpr hv)))
  have hoks : okl r stk := fun v hv => h2 v (List.mem_append_right _ (List.mem_cons_of_mem _ hv))
  obtain ⟨j, -, hj⟩ := wld_at (X := X) (w := w) (okv_obj (by omega) hthis)
  rw [cellE_obj hm7] at hj
  rw [hst]
  have hts := B.2.2.2.2.2.2.1
  have hR : (rmD d).frames + 1 ≤ (rmD (d + 1)).frames ∧ 8 + (M'.2.2.1 + 11) + (rmD d).locals ≤ (rmD (d + 1)).locals := ⟨Nat.le_refl _, by show 8 + (M'.2.2.1 + 11) + 40 * d ≤ 40 * (d + 1); omega⟩
  have hp : PreV s H M'.1.cls (adr X a pa) (va_Pc ((vR a n pa :: As).map (con X)) (Wl X r w)) (As.map (con X)) :=
    ⟨Wl_blind, va_recv B.2.2.2.2.2.2.2.1 hP (ci := a) (q0 := j) hm8 hj, fun U hU hW => ⟨rfl, Wl_at hP hD hS B.2.2.2.2.2.2.2.1 B.2.2.2.2.2.2.2.2.1 B.2.2.2.2.2.2.2.2.2 hU hW⟩⟩
  have hrest : 2 * (F0 m pc ls ((As.map (con X)).reverse ++ .ref (adr X a pa) :: stk.map (con X))).monitorRoom + ((stk.map (con X)).map fun v => v.category).sum ≤ 8 := lv_room (by rw [con_sum]; exact hc)
  refine Wq_run (Q1 := Q1) (rest := stk.map (con X)) (a := (Value.ref (adr X a pa) :: As.map (con X)).toArray) ?_ hS (fun rv w' H1 locs1 hq1 hok1 hP1 hD1 hS1 => ?_)
  · rcases hl0 with hl0 | ⟨hh, hl0⟩
    · exact va_runV (cc := M.2.1) (nL := M.2.2.1) (Ts := tbG) (own := M.2.2.2.2) ⟨B.1, B.2.1, B.2.2.1, B.2.2.2.2.2.1, hts⟩ (hC hok) ⟨callB_of As.length hts (mW_good hm4) rfl rfl rfl (hts _ hm3) (hts _ hl0) hm5 hR, hts _ hm1, hts _ hm2⟩ hp rfl (List.length_map ..) hl.1 rfl hrest hd ⟨Nat.le_refl _, Nat.le_refl _⟩
    · exact va_runVN (cc := M.2.1) (nL := M.2.2.1) (Ts := tbG) (own := M.2.2.2.2) ⟨B.1, B.2.1, B.2.2.1, B.2.2.2.2.2.1, hts⟩ (hC hok) ⟨va_cnB As.length hts (mW_good hm4) rfl rfl rfl (B.2.2.2.2.2.2.2.2.1 _ hl0) (hts _ hm3) hm5 hR, hts _ hm1, hts _ hm2⟩ hp rfl (List.length_map ..) hl.1 rfl hrest hd ⟨Nat.le_refl _, Nat.le_refl _⟩
  · have h9 := kk rv w' hq1 h1 (fun v hv => (List.mem_append.mp hv).elim (hok1 v) (hoks v)) p e s m args below meth c H1 locs1 ls B hP1 hD1 hS1 hl
    have h8 : (rv.toList ++ stk).map (con X) = (rv.map (con X)).toList ++ stk.map (con X) := by
      rw [List.map_append]
      cases rv <;> rfl
    rw [h8] at h9
    exact h9
theorem R_callS {M' : Mth} {As : List AV} {i : Nat} {Q1 : Option AV → Wd → Prop} (hd : decode M.2.1 pc = .ok (.invokestatic i, 3)) (hl0 : ML M.2.2.2.2 i M'.1) (hm : mokS M' As.length) (hc : (stk.map cat).sum ≤ 8) (hq : pc + 3 = q) (hC : Ct X r d M' As w Q1) (kk : ∀ rv w', Q1 rv w' → Wq X r (d + 1) M q loc (rv.toList ++ stk) w' Q) : Wq X r (d + 1) M pc loc (As.reverse ++ stk) w Q := by
  subst hq
  intro h1 h2 p e s m args below meth c H locs ls B hP hD hS hl
  obtain ⟨hm1, hm3, hm4, hm5, hm6⟩ := hm
  have hst : (As.reverse ++ stk).map (con X) = (As.map (con X)).reverse ++ stk.map (con X) := by
    rw [List.map_append, List.map_reverse]
  have hok : okl r As := fun v hv => h2 v (List.mem_append_left _ (List.mem_reverse.mpr hv))
  have hoks : okl r stk := fun v hv => h2 v (List.mem_append_right _ hv)
  rw [hst]
  have hts := B.2.2.2.2.2.2.1
  have hR : (rmD d).frames + 1 ≤ (rmD (d + 1)).frames ∧ 8 + (M'.2.2.1 + 11) + (rmD d).locals ≤ (rmD (d + 1)).locals := ⟨Nat.le_refl _, by show 8 + (M'.2.2.1 + 11) + 40 * d ≤ 40 * (d + 1); omega⟩
  have hp : PreS s H (va_Pc (As.map (con X)) (Wl X r w)) (As.map (con X)) :=
    ⟨Wl_blind, fun U hU hW => ⟨rfl, Wl_at hP hD hS B.2.2.2.2.2.2.2.1 B.2.2.2.2.2.2.2.2.1 B.2.2.2.2.2.2.2.2.2 hU hW⟩⟩
  have hrest : 2 * (F0 m pc ls ((As.map (con X)).reverse ++ stk.map (con X))).monitorRoom + ((stk.map (con X)).map fun v => v.category).sum ≤ 8 := lv_room (by rw [con_sum]; exact hc)
  refine Wq_run (Q1 := Q1) (rest := stk.map (con X)) (a := (As.map (con X)).toArray) ?_ hS (fun rv w' H1 locs1 hq1 hok1 hP1 hD1 hS1 => ?_)
  · rcases hl0 with hl0 | ⟨hh, hl0⟩
    · exact va_runS (cc := M.2.1) (nL := M.2.2.1) (Ts := tbG) (own := M.2.2.2.2) ⟨B.1, B.2.1, B.2.2.1, B.2.2.2.2.2.1, hts⟩ (hC hok) ⟨callB_of As.length hts (mW_good hm4) rfl rfl rfl (hts _ hm3) (hts _ hl0) hm5 hR, hts _ hm1⟩ hp rfl (List.length_map ..) hl.1 rfl hrest hd ⟨Nat.le_refl _, Nat.le_refl _⟩
    · exact va_runSN (cc := M.2.1) (nL := M.2.2.1) (Ts := tbG) (own := M.2.2.2.2) ⟨B.1, B.2.1, B.2.2.1, B.2.2.2.2.2.1, hts⟩ (hC hok) ⟨va_cnB As.length hts (mW_good hm4) rfl rfl rfl (B.2.2.2.2.2.2.2.2.1 _ hl0) (hts _ hm3) hm5 hR, hts _ hm1, trivial⟩ hp rfl (List.length_map ..) hl.1 rfl hrest hd ⟨Nat.le_refl _, Nat.le_refl _⟩
  · have h9 := kk rv w' hq1 h1 (fun v hv => (List.mem_append.mp hv).elim (hok1 v) (hoks v)) p e s m args below meth c H1 locs1 ls B hP1 hD1 hS1 hl
    have h8 : (rv.toList ++ stk).map (con X) = (rv.map (con X)).toList ++ stk.map (con X) := by
      rw [List.map_append]
      cases rv <;> rfl
    rw [h8] at h9
    exact h9
/-- what a method answers: an int and a world; a long; nothing -/
def qI (P : Int32 → Wd → Prop) : Option AV → Wd → Prop := fun rv w => ∃ x, rv = some (vI x) ∧ P x w
def qL (P : Int64 → Wd → Prop) : Option AV → Wd → Prop := fun rv w => ∃ x, rv = some (vL x) ∧ P x w
def qV (P : Wd → Prop) : Option AV → Wd → Prop := fun rv w => rv = none ∧ P w
theorem Ct.mono {X : Cx} {r d : Nat} {M : Mth} {as : List AV} {w : Wd} {Q Q' : Option AV → Wd → Prop} (hy : plainName M.1.cls = true) (ho : M.1.cls = M.2.2.2.2) (h : Ct X r d M as w Q) (hq : ∀ rv w', Q rv w' → Q' rv w') : Ct X r d M as w Q' := by
  intro hok
  have h1 := h hok
  unfold Met at h1 ⊢
  intro p e ha hc hk s m args below hf happ hP hT
  obtain ⟨k, o, a1, a2, a3, ⟨⟨⟨rv, w', b1, b2, b3⟩, hF⟩, hL⟩⟩ := h1 p e ha hc hk s m args below hf happ hP hT
  exact ⟨k, o, a1, a2, a3, ⟨⟨rv, w', b1, hq rv w' b2, b3⟩, hF⟩, hL⟩
end RC
