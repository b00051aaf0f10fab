theorem stat_0 {args : Array Value} {s : State} (hgv : (Jvm.Cond.and given_1 narrow_1).before args s = true) (h1 : (Cond.laysStatic "TwoHalves" "DOINGS_END" "[J").before args s = true) (h2 : (Cond.initialized "TwoHalves").before args s = true) : ∃ t : Nat, va_Z "TwoHalves" "DOINGS_END" "[J" (.ref t) (hAs s) s s.heap ∧ va_T .long t 5 dE (hAs s) s s.heap := by
  have hs := flat_of_before _ hgv
  have hA : ∀ a : Nat, a < s.heap.size → ¬ hAs s a := fun a h h2 => by unfold hAs at h2; omega
  obtain ⟨t, ht, hT⟩ := va_Tof (tm := .static "TwoHalves" "DOINGS_END" "[J") (ty := .long) (N := 5) (f := dE) (A := hAs s) (by decide) (hs _ (by decide +kernel)) (va_eqt (hs (.eq (.length (.static "TwoHalves" "DOINGS_END" "[J")) (.int 5)) (by decide +kernel))) (fun j hj => by
    match j, hj with
    | 0, _ => exact va_eqtl (hs (.eq (.elem (.static "TwoHalves" "DOINGS_END" "[J") (.int 0)) (.long 1)) (by decide +kernel))
    | 1, _ => exact va_eqtl (hs (.eq (.elem (.static "TwoHalves" "DOINGS_END" "[J") (.int 1)) (.long 1000)) (by decide +kernel))
    | 2, _ => exact va_eqtl (hs (.eq (.elem (.static "TwoHalves" "DOINGS_END" "[J") (.int 2)) (.long 1000000)) (by decide +kernel))
    | 3, _ => exact va_eqtl (hs (.eq (.elem (.static "TwoHalves" "DOINGS_END" "[J") (.int 3)) (.long 1000000000)) (by decide +kernel))
    | 4, _ => exact va_eqtl (hs (.eq (.elem (.static "TwoHalves" "DOINGS_END" "[J") (.int 4)) (.long 1000000000000)) (by decide +kernel))
    | n + 5, hj => omega) hA
  exact ⟨t, va_Zref h1 h2 ht hA, hT⟩
theorem stat_1 {args : Array Value} {s : State} (hgv : (Jvm.Cond.and given_1 narrow_1).before args s = true) (h1 : (Cond.laysStatic "TwoHalves" "ORDERS_BY_LOST" "[I").before args s = true) (h2 : (Cond.initialized "TwoHalves").before args s = true) : ∃ t : Nat, va_Z "TwoHalves" "ORDERS_BY_LOST" "[I" (.ref t) (hAs s) s s.heap ∧ va_T .int t 5 oB (hAs s) s s.heap := by
  have hs := flat_of_before _ hgv
  have hA : ∀ a : Nat, a < s.heap.size → ¬ hAs s a := fun a h h2 => by unfold hAs at h2; omega
  obtain ⟨t, ht, hT⟩ := va_Tof (tm := .static "TwoHalves" "ORDERS_BY_LOST" "[I") (ty := .int) (N := 5) (f := oB) (A := hAs s) (by decide) (hs _ (by decide +kernel)) (va_eqt (hs (.eq (.length (.static "TwoHalves" "ORDERS_BY_LOST" "[I")) (.int 5)) (by decide +kernel))) (fun j hj => by
    match j, hj with
    | 0, _ => exact va_eqt (hs (.eq (.elem (.static "TwoHalves" "ORDERS_BY_LOST" "[I") (.int 0)) (.int 0)) (by decide +kernel))
    | 1, _ => exact va_eqt (hs (.eq (.elem (.static "TwoHalves" "ORDERS_BY_LOST" "[I") (.int 1)) (.int 6)) (by decide +kernel))
    | 2, _ => exact va_eqt (hs (.eq (.elem (.static "TwoHalves" "ORDERS_BY_LOST" "[I") (.int 2)) (.int 2)) (by decide +kernel))
    | 3, _ => exact va_eqt (hs (.eq (.elem (.static "TwoHalves" "ORDERS_BY_LOST" "[I") (.int 3)) (.int 2)) (by decide +kernel))
    | 4, _ => exact va_eqt (hs (.eq (.elem (.static "TwoHalves" "ORDERS_BY_LOST" "[I") (.int 4)) (.int 6)) (by decide +kernel))
    | n + 5, hj => omega) hA
  exact ⟨t, va_Zref h1 h2 ht hA, hT⟩
/-- what the tables say at the start -/
theorem start_X {s : State} {args : Array Value} (l : Launch) (hts0 : ∀ w ∈ lw_tbl, w.before args s = true) (hgv : (Jvm.Cond.and given_1 narrow_1).before args s = true) : ∃ X : Cx, X.1 = l ∧ va_K X.2.1 vwCl (tysX X) s ∧ Ns s ∧ va_AO SN s ∧ SxA X s := by
  have hts : ∀ w ∈ tbG, w.before args s = true := fun w hw => hts0 w (List.mem_filter.mp hw).1
  obtain ⟨c0, iS0, hKn0⟩ := u_known (C := RX0) (T := TX0) (N := 3) (n := 3) hts cls0.2.2.2.1 (hts (.instantiable RX0 3) (tg 83 (by decide +kernel) rfl))
  obtain ⟨c1, iS1, hKn1⟩ := u_known (C := RX1) (T := TX1) (N := 3) (n := 3) hts cls1.2.2.2.1 (hts (.instantiable RX1 3) (tg 135 (by decide +kernel) rfl))
  obtain ⟨c2, iS2, hKn2⟩ := u_known (C := RX2) (T := TX2) (N := 3) (n := 3) hts cls2.2.2.2.1 (hts (.instantiable RX2 3) (tg 151 (by decide +kernel) rfl))
  obtain ⟨c3, iS3, hKn3⟩ := u_known (C := RX3) (T := TX3) (N := 3) (n := 3) hts cls3.2.2.2.1 (hts (.instantiable RX3 3) (tg 118 (by decide +kernel) rfl))
  obtain ⟨c4, iS4, hKn4⟩ := u_known (C := RX4) (T := TX4) (N := 2) (n := 2) hts cls4.2.2.2.1 (hts (.instantiable RX4 2) (tg 103 (by decide +kernel) rfl))
  obtain ⟨c5, iS5, hKn5⟩ := u_known (C := RX5) (T := TX5) (N := 8) (n := 8) hts cls5.2.2.2.1 (hts (.instantiable RX5 8) (tg 38 (by decide +kernel) rfl))
  obtain ⟨c6, iS6, hKn6⟩ := u_known (C := RX6) (T := TX6) (N := 2) (n := 2) hts cls6.2.2.2.1 (hts (.instantiable RX6 2) (tg 23 (by decide +kernel) rfl))
  obtain ⟨c7, iS7, hKn7⟩ := u_known (C := RX7) (T := TX7) (N := 10) (n := 10) hts cls7.2.2.2.1 (hts (.instantiable RX7 10) (tg 15 (by decide +kernel) rfl))
  obtain ⟨c8, iS8, hKn8⟩ := u_known (C := RX8) (T := TX8) (N := 25) (n := 25) hts cls8.2.2.2.1 (hts (.instantiable RX8 25) (tg 607 (by decide +kernel) rfl))
  obtain ⟨dC, dI, hKc⟩ : ∃ (dC : Nat → ClassId) (dI : Nat → Nat → Nat), ∀ (k : Nat) (q : vw_C), vwCl[k]? = some q → u_Kn s q.1 q.2.1 q.2.2 (dC k) (dI k) := by
    refine ⟨fun k => if k = 0 then c0 else if k = 1 then c1 else if k = 2 then c2 else if k = 3 then c3 else if k = 4 then c4 else if k = 5 then c5 else if k = 6 then c6 else if k = 7 then c7 else c8, fun k => if k = 0 then iS0 else if k = 1 then iS1 else if k = 2 then iS2 else if k = 3 then iS3 else if k = 4 then iS4 else if k = 5 then iS5 else if k = 6 then iS6 else if k = 7 then iS7 else iS8, ?_⟩
    intro k q hq
    match k, hq with
    | 0, hq => cases hq; exact hKn0
    | 1, hq => cases hq; exact hKn1
    | 2, hq => cases hq; exact hKn2
    | 3, hq => cases hq; exact hKn3
    | 4, hq => cases hq; exact hKn4
    | 5, hq => cases hq; exact hKn5
    | 6, hq => cases hq; exact hKn6
    | 7, hq => cases hq; exact hKn7
    | 8, hq => cases hq; exact hKn8
    | k + 9, hq => simp [vwCl] at hq
  obtain ⟨cI, kI, pI, i1, i2, i3⟩ := Cond.arrayClass_spec (hts _ ac0)
  obtain ⟨cZ, kZ, pZ, z1, z2, z3⟩ := Cond.arrayClass_spec (hts _ ac1)
  have hao : va_AO SN s := va_AO.of (hts0 (.arrayOver (.object SN)) (List.mem_append_right _ (List.mem_of_getElem? (i := 89) (by decide +kernel))))
  obtain ⟨comp, cS, kS, a1, a2, a3, a4, a5⟩ := Cond.arrayOver_spec hao
  obtain ⟨tD, d1, d2⟩ := stat_0 hgv (hts0 (.laysStatic "TwoHalves" "DOINGS_END" "[J") (List.mem_append_right _ (List.mem_of_getElem? (i := 489) (by decide +kernel)))) (hts _ (tg 1 (by decide +kernel) rfl))
  obtain ⟨tO, o1, o2⟩ := stat_1 hgv (hts0 (.laysStatic "TwoHalves" "ORDERS_BY_LOST" "[I") (List.mem_append_right _ (List.mem_of_getElem? (i := 544) (by decide +kernel)))) (hts _ (tg 1 (by decide +kernel) rfl))
  refine ⟨(l, (dC, dI), (fun n => if n = 0 then cI else if n = 1 then cZ else cS), (fun _ => 0), fun n => if n = 0 then tD else tO), rfl, ⟨hKc, ?_⟩, ?_, hao, d1, d2, o1, o2⟩
  · intro k q hk
    match k, hk with
    | 0, hk => cases hk; exact ⟨fun n z => ⟨fun k h => (by cases h), kI, i2, pI, i3⟩, i1⟩
    | 1, hk => cases hk; exact ⟨fun n z => ⟨fun k h => (by cases h), kZ, z2, pZ, z3⟩, z1⟩
    | 2, hk => cases hk; exact ⟨fun n z => ⟨fun k h => (by cases h), kS, a3, comp, a4⟩, kS, comp, a3, a4, a1, a5⟩
    | k + 3, hk => simp [tysX] at hk
  · intro w hw
    have h1 := hts0 w (List.mem_filter.mp hw).1
    have h2 := (List.mem_filter.mp hw).2
    cases w <;> first | exact va_Nw.of rfl h1 | (simp [nestW] at h2)
section LS
variable {p : Program} {e : Env} {s : State} {m : MethodId} {below : List Frame} {meth : Method} {c : Code} {b L : Nat} {xs : Nat → Int32} {X : Cx} {H : Heap} {locs : List Loc} {cu su pc : Nat} {ls : Array Slot} {rest : List Value} {Q : State → Prop} {wr : va_W}
/-- new, dup and a constructor's call, in the law -/
theorem law_new {d mc ms ci i1 i2 N : Nat} {M' : Mth} {C : String} {T : u_T} {ty : Nat → FieldType} {fs : List Value} {G : Nat → va_W → Prop} (C0 : lw_At p s m meth c b L xs) (hK : va_K X.2.1 vwCl (tysX X) s) (hN : Ns s) (hao : va_AO SN s) (d0 : decode cL_law pc = .ok (.new i1, 3)) (d1 : decode cL_law (pc + 3) = .ok (.dup, 1)) (d2 : decode cL_law (pc + 3 + 1) = .ok (.invokespecial i2, 3)) (hcl : Cond.classLink RL i1 C ∈ tbG) (hok : clsOK ci C T N ty) (hinst : Cond.instantiable C N ∈ tbG) (hini : Cond.initialized C ∈ tbG) (hfs : ∀ j, j < N → defaultValue (ty j) = vp_V fs j) (hl0 : Cond.methodLink RL i2 M'.1 ∈ tbG) (hm : mokI M') (hdd : d ≤ 7) (hcat : ((rest.map fun v => v.category).sum) ≤ 7) (hc1 : cu + 1 + mc ≤ 600000) (hs1 : su + N + ms ≤ 7302250) (hC : Ci X d mc ms M' ci fs G) (hP : va_P X.2.1 vwCl wr H) (hD : va_D (hAs s) wr) (hS : va_S (hAs s) s.heap H locs) (hlz : ls.size = 4)
    (k : ∀ (a : Nat) (w1 : va_W) (H1 : Heap) (locs1 : List Loc), G a w1 → va_P X.2.1 vwCl (wr ++ w1) H1 → va_D (hAs s) (wr ++ w1) → va_S (hAs s) s.heap H1 locs1 → W p X.1 e room_1 s m #[Value.ref b] below meth c H1 locs1 (cu + 1 + mc) (su + N + ms) Q (F0 m (pc + 3 + 1 + 3) ls (.ref a :: rest))) : W p X.1 e room_1 s m #[Value.ref b] below meth c H locs cu su Q (F0 m pc ls rest) := by
  obtain ⟨hx, hb, hr, hml, hown, hts0, hX, hbl, hlocks, hgv⟩ := id C0
  have hts : ∀ w ∈ tbG, w.before #[Value.ref b] s = true := fun w hw => hts0 w (List.mem_filter.mp hw).1
  have hA : ∀ q, s.heap.size ≤ q → hAs s q := fun _ h => h
  obtain ⟨hc, hNN, ha, hin, hty, hnm⟩ := hok
  obtain ⟨hm1, hm3, hm4, hm5, hm6, hm7, hm8⟩ := hm
  refine va_new (ci := ci) (fs := fs) (rest := rest) hx hb hts hin ty hty hown (hts _ hcl) (hts _ hinst) (hts _ hini) hK hP hD hS hA hc hfs (by show cu + 1 ≤ 600000; omega) (by show su + N ≤ 7302250; omega) d0 (fun a H2 hP hD hS => ?_)
  refine lv_dup hx hb d1 rfl ?_
  have hR : (rmC d mc ms).frames + 1 ≤ room_1.frames ∧ 8 + (M'.2.2.1 + 11) + (rmC d mc ms).locals ≤ room_1.locals := ⟨by show d + 1 ≤ 9; omega, by show 8 + (M'.2.2.1 + 11) + 40 * d ≤ 354; omega⟩
  have hlast : (wr ++ [(a, .inr (ci, fs))])[wr.length]? = some ((a, .inr (ci, fs)) : Nat × va_E) := by
    rw [List.getElem?_append_right (Nat.le_refl _), Nat.sub_self]
    rfl
  have hPc : va_P X.2.1 vwCl [(a, .inr (ci, fs))] H2 := fun j y hy => by
    have hz : j < 1 := (List.getElem?_eq_some_iff.mp hy).1
    rw [show j = 0 by omega] at hy
    cases hy
    exact hP _ _ hlast
  have hFc : ∀ y, va_A [(a, .inr (ci, fs))] H2.size y → hAs s y := by
    intro y h
    rcases h with ⟨j, e1, h⟩ | h
    · have hz : j < 1 := (List.getElem?_eq_some_iff.mp h).1
      rw [show j = 0 by omega] at h
      cases h
      exact hD.2 _ _ hlast
    · exact hA y (Nat.le_trans hS.1 h)
  have hp : PreS s H2 (va_Pc [.ref a] (Wi X a ci fs H2.size)) [Value.ref a] :=
    ⟨Wi_blind, fun U hU hW => ⟨rfl, by rw [hU], by rw [hU]; exact hPc, va_K.moved hW.alike hK, hN.warm hW, va_AO.moved hW.alike hao⟩⟩
  have hG : GoodIn tbG (mW M') := mW_good (by rw [hm8]; exact hm4)
  have hw : mW M' = Cond.code M'.1 M'.2.1 M'.2.2.1 none :: tbG := by rw [← hm8]
  have hroom : 2 * (F0 m (pc + 3 + 1) ls (.ref a :: .ref a :: rest)).monitorRoom + ((Value.ref a :: rest).map fun v => v.category).sum ≤ 8 := lv_room (by simp only [List.map_cons, List.sum_cons]; show 1 + _ ≤ 8; omega)
  refine va_callv (post := G a) (B := fun (w : va_W) t => va_P X.2.1 vwCl w t.heap ∧ va_D (va_A [(a, .inr (ci, fs))] H2.size) w) (A1 := va_A [(a, .inr (ci, fs))] H2.size) (free := va_A [(a, .inr (ci, fs))] H2.size) (mc := mc) (ms := ms) (rest := .ref a :: rest) (a := (Value.ref a :: []).toArray) ?_ hS (fun y _ h => hFc y h) hFc (fun u t H1 locs1 ht hvm hw1 hB hz1 hk1 hS1 => ?_)
  · exact va_runI (cc := cL_law) (nL := 4) (Ts := tbG) (own := RL) (As := []) (b := a) (n := 0) ⟨hx, hb, hml, hown, hts⟩ (hC a H2.size) (cwI 0 hts hG hw rfl rfl (hts _ hm3) (hts _ hl0) (hts _ hm1) hm7 hm5 hR) hp rfl rfl hlz rfl hroom d2 ⟨by show cu + 1 + mc ≤ 600000; omega, by show su + N + ms ≤ 7302250; omega⟩
  · obtain ⟨hP1, hD1⟩ := hB
    rw [ht] at hP1
    obtain ⟨hP2, hD2⟩ := va_jn hP hD hk1 hFc hP1 hD1
    exact k a u H1 locs1 hw1 hP2 hD2 hS1
end LS
theorem va_P.lf {D : va_G} {cl : List vw_C} {a b : va_W} {H : Heap} (h : va_P D cl (a ++ b) H) : va_P D cl a H := fun k q hk => h k q (by rw [List.getElem?_append_left (List.getElem?_eq_some_iff.mp hk).1]; exact hk)
theorem app_r {a b : va_W} {k : Nat} {q : Nat × va_E} (hk : b[k]? = some q) : (a ++ b)[a.length + k]? = some q := by
  rw [List.getElem?_append_right (by omega), show a.length + k - a.length = k by omega]
  exact hk
theorem va_P.rt {D : va_G} {cl : List vw_C} {a b : va_W} {H : Heap} (h : va_P D cl (a ++ b) H) : va_P D cl b H := fun k q hk => h (a.length + k) q (app_r hk)
theorem app_l {a b : va_W} {k : Nat} {q : Nat × va_E} (hk : a[k]? = some q) : (a ++ b)[k]? = some q := by
  rw [List.getElem?_append_left (List.getElem?_eq_some_iff.mp hk).1]
  exact hk
theorem va_D.lf {A : Nat → Prop} {a b : va_W} (h : va_D A (a ++ b)) : va_D A a := ⟨fun i j p q hi hj e => h.1 i j p q (app_l hi) (app_l hj) e, fun k q hk => h.2 k q (app_l hk)⟩
theorem va_D.rt {A : Nat → Prop} {a b : va_W} (h : va_D A (a ++ b)) : va_D A b := ⟨fun i j p q hi hj e => by
    have := h.1 _ _ p q (app_r (a := a) hi) (app_r (a := a) hj) e
    omega, fun k q hk => h.2 _ q (app_r hk)⟩
theorem whole_start {p : Program} {e : Env} {s : State} {m : MethodId} {below : List Frame} {meth : Method} {c : Code} (l : Launch) (hflags : l.flags = flags0) {b L : Nat} {xs : Nat → Int32} (hL : L ≤ 2048) (C0 : lw_At p s m meth c b L xs) : W p l e room_1 s m #[Value.ref b] below meth c s.heap [] 0 0 (lw_Z below #[Value.ref b] s) (entryFrame m ([Value.ref b] : List Value).toArray 4) := by
  obtain ⟨hx, hb, hr, hml, hown, hts0, hX, hbl, hlocks, hgv⟩ := id C0
  obtain ⟨X, rfl, hK, hN, hao, hSx⟩ := start_X l hts0 hgv
  have hl := lv_entry ([.ref b]) (n := 4) (Nat.le_of_ble_eq_true rfl)
  rw [lg_entry_eq]
  generalize (lg_sl ([.ref b]) ++ List.replicate (4 - (lg_sl ([.ref b])).length) Slot.unset).toArray = ls at hl ⊢
  have hl : lv_has ls 4 [(0, .ref b)] := hl
  refine law_new (wr := []) (rest := []) (C := RX7) (M' := MX7_init) (i2 := 9) (fs := fs7) (X := X) C0 hK hN hao dL_law_0 dL_law_3 dL_law_4 (tg 14 (by decide +kernel) rfl) cls7 (tg 15 (by decide +kernel) rfl) (tg 1 (by decide +kernel) rfl) dv7 (tg 16 (by decide +kernel) rfl) mi_X7 (by decide) (by decide) (by decide) (by decide) i_X7 (fun k q h => (by simp at h)) ⟨fun i j p q h => (by simp at h), fun k q h => (by simp at h)⟩ va_S.rf hl.1 (fun a w1 H1 locs1 hG hP hD hS => ?_)
  obtain ⟨α, hα, rfl⟩ := hG
  rw [List.nil_append] at hP hD
  subst hα
  refine lv_astore_n (lv' := [(1, .ref (α [])), (0, .ref b)]) hx hb dL_law_7 rfl hl (by decide) rfl (fun ls hl => ?_)
  refine law_new (wr := raw7 X α) (rest := []) (C := RX8) (M' := MX8_init) (i2 := 12) (fs := fs8) (X := X) C0 hK hN hao dL_law_8 dL_law_11 dL_law_12 (tg 606 (by decide +kernel) rfl) cls8 (tg 607 (by decide +kernel) rfl) (tg 9 (by decide +kernel) rfl) dv8 (tg 608 (by decide +kernel) rfl) mi_X8 (by decide) (by decide) (by decide) (by decide) i_X8 hP hD hS hl.1 (fun a2 w2 H2 locs2 hG2 hP2 hD2 hS2 => ?_)
  obtain ⟨β, hβ, rfl⟩ := hG2
  subst hβ
  refine lv_astore_n (lv' := [(2, .ref (β [])), (1, .ref (α [])), (0, .ref b)]) hx hb dL_law_15 rfl hl (by decide) rfl (fun ls hl => ?_)
  refine lv_iconst (v := nI 0) hx hb dL_law_16 (by decide) ?_
  refine lv_istore_n (lv' := [(3, .int (nI 0)), (2, .ref (β [])), (1, .ref (α [])), (0, .ref b)]) hx hb dL_law_17 rfl hl (by decide) rfl (fun ls hl => ?_)
  refine W.widen (k := 600000) (n := 7302250) (by decide) (by decide) ?_
  have e7 := raw7_eq X α
  have e8 := raw8_eq X β
  rw [e7, e8] at hP2 hD2
  have hE : LO (p, e, s, m, below, meth, c, b, L, xs) (Xm X α) := ⟨C0, hL, hK, hN, hSx⟩
  refine law_loop (β := β) hE L 0 w0 v0 A0 (by show L ≤ 0 + 4 * L; omega) (by decide) ClsR_0 ModR_0 AOK_0 H2 locs2 ls ⟨hP2.lf, hD2.lf⟩ ⟨hP2.rt, hD2.rt⟩ ?_ hS2 (lv_sub hl [0, 3, 2, 1] rfl)
  rintro y ⟨e1, h1, rfl⟩ ⟨e2, h2, h3⟩
  obtain ⟨i1, -, g1⟩ := wld_at (X := Xm X α) (w := w0) h1
  obtain ⟨i2, -, g2⟩ := wld_at (X := Xm X β) (w := v0) h2
  have := hD2.1 _ _ _ _ (app_l g1) (app_r g2) h3.symm
  have hlt := (List.getElem?_eq_some_iff.mp g1).1
  omega
