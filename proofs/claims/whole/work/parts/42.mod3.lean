/-! the reference reads a text -/
def Fm (F : List (List Nat)) (K : List Nat) (w w' : Wd) : Prop := w'.2 = w.2 ∧ (∀ q, q ≠ [] → q ∉ F → w'.1 q = w.1 q) ∧ ∀ k, k ∉ K → w'.1 [] k = w.1 [] k
theorem Fm.rf {F : List (List Nat)} {K : List Nat} {w : Wd} : Fm F K w w := ⟨rfl, fun _ _ _ => rfl, fun _ _ => rfl⟩
theorem Fm.tr {F : List (List Nat)} {K : List Nat} {w w1 w2 : Wd} (h : Fm F K w w1) (h2 : Fm F K w1 w2) : Fm F K w w2 := ⟨h2.1.trans h.1, fun q a b => (h2.2.1 q a b).trans (h.2.1 q a b), fun k hk => (h2.2.2 k hk).trans (h.2.2 k hk)⟩
theorem Fm.f {F : List (List Nat)} {K : List Nat} {w : Wd} {k : Nat} {v : Int32} (h : k ∈ K) : Fm F K w (uI w [] k v) := ⟨rfl, fun _ hq _ => uA_ne hq, fun _ hj => uI_ne (fun e => hj (e ▸ h))⟩
theorem Fm.i {F : List (List Nat)} {K : List Nat} {w : Wd} {p : List Nat} {k : Nat} {v : Int32} (h : p ∈ F) (hp : [] ≠ p) : Fm F K w (uI w p k v) := ⟨rfl, fun _ _ hq => uA_ne (fun e => hq (e ▸ h)), fun _ _ => uI_nep hp⟩
theorem Fm.a {F : List (List Nat)} {K : List Nat} {w : Wd} {p : List Nat} {f : Nat → Int32} (h : p ∈ F) (hp : [] ≠ p) : Fm F K w (uA w p f) := ⟨rfl, fun _ _ hq => uA_ne (fun e => hq (e ▸ h)), fun _ _ => congrFun (uA_ne hp) _⟩
theorem Fm.up {F G : List (List Nat)} {K L : List Nat} {w w1 : Wd} (h : Fm F K w w1) (hs : ∀ q, q ∈ F → q ∈ G) (hk : ∀ k, k ∈ K → k ∈ L) : Fm G L w w1 := ⟨h.1, fun q a b => h.2.1 q a (fun h3 => b (hs q h3)), fun k b => h.2.2 k (fun h3 => b (hk k h3))⟩
theorem Fr.m {F G : List (List Nat)} {K : List Nat} {w w1 : Wd} (h : Fr F w w1) (h0 : [] ∉ F) (hs : ∀ q, q ∈ F → q ∈ G) : Fm G K w w1 := ⟨h.1, fun q _ b => h.2 q (fun h3 => b (hs q h3)), fun k _ => by rw [h.2 _ h0]⟩
abbrev KR : List Nat := [19, 20, 21, 23, 24]
def prt (k : Nat) : Nat := if k = 1 then 1 else if k = 2 then 2 else if k % 3 = 0 then 0 else if k % 3 = 1 then 3 else 4
def RdM (v : Wd) (st : RS) (k : Nat) : Prop := v.1 [] 21 = nI st.2.2.1 ∧ (∀ s, s < st.2.2.1 → v.1 [22] s = nI (6 * st.2.2.2.1 s + st.2.2.2.2.1 s)) ∧ (2 ≤ k → v.1 [] 19 = nI st.1) ∧ (3 ≤ k → v.1 [] 20 = nI st.2.1) ∧ v.1 [] 23 = nI (prt k) ∧ (3 ≤ k → k % 3 = 2 → v.1 [] 24 = nI st.2.2.2.2.2) ∧ RI st k
/-! a full row: as many shades as columns -/
def fil (ro co : Nat → Nat) (r : Nat) : Nat → Nat → Bool
  | 0, _ => false
  | n + 1, c => fil ro co r n c || (ro n == r && co n == c)
theorem fil_f {ro co : Nat → Nat} {r c : Nat} : ∀ {n : Nat}, fil ro co r n c = false ↔ ∀ s, s < n → ¬ (ro s = r ∧ co s = c)
  | 0 => ⟨fun _ s hs => absurd hs (Nat.not_lt_zero s), fun _ => rfl⟩
  | n + 1 => by
    have ih := fil_f (ro := ro) (co := co) (r := r) (c := c) (n := n)
    simp only [fil]
    rw [Bool.or_eq_false_iff, ih]
    constructor
    · rintro ⟨h1, h2⟩ s hs
      rcases Nat.lt_or_ge s n with h | h
      · exact h1 s h
      · obtain rfl : s = n := by omega
        intro h3
        rw [h3.1, h3.2] at h2
        simp at h2
    · intro h
      refine ⟨fun s hs => h s (by omega), ?_⟩
      have h1 := h n (by omega)
      cases hb : (ro n == r && co n == c)
      · rfl
      · rw [Bool.and_eq_true] at hb
        exact absurd ⟨by simpa using hb.1, by simpa using hb.2⟩ h1
theorem ct_or {f : Nat → Bool} {c0 : Nat} : ∀ {C : Nat}, c0 < C → f c0 = false → ct (fun c => f c || (c0 == c)) C = ct f C + 1
  | 0, h, _ => absurd h (Nat.not_lt_zero _)
  | C + 1, h, hf => by
    simp only [ct]
    by_cases hc : c0 = C
    · subst hc
      have e : ct (fun c => f c || (c0 == c)) c0 = ct f c0 := ct_cg (fun k hk => by
        have : (c0 == k) = false := by simp; omega
        rw [this, Bool.or_false])
      rw [e]
      simp [hf]
    · have ih := ct_or (C := C) (by omega) hf
      rw [ih]
      have : (c0 == C) = false := by simpa using hc
      simp only [this, Bool.or_false]
      omega
theorem ct_fil {ro co : Nat → Nat} {r C : Nat} : ∀ {n : Nat}, (∀ s, s < n → co s < C) → (∀ s t, s < t → t < n → ¬ (ro s = ro t ∧ co s = co t)) → ct (fil ro co r n) C = ct (fun s => ro s == r) n
  | 0, _, _ => by
    have : ∀ C, ct (fil ro co r 0) C = 0 := by
      intro C
      induction C with
      | zero => rfl
      | succ C ih =>
        simp only [ct]
        rw [ih]
        rfl
    exact this C
  | n + 1, h1, h2 => by
    have ih := ct_fil (r := r) (n := n) (fun s hs => h1 s (by omega)) (fun s t a b => h2 s t a (by omega))
    have e : ct (fun s => ro s == r) (n + 1) = ct (fun s => ro s == r) n + (if (ro n == r) = true then 1 else 0) := rfl
    rw [e, ← ih]
    by_cases hr : ro n = r
    · have hb : (ro n == r) = true := by simpa using hr
      rw [if_pos hb]
      have hf : fil ro co r n (co n) = false := fil_f.mpr (fun s hs h => h2 s n hs (by omega) ⟨h.1.trans hr.symm, h.2⟩)
      have e2 : ct (fil ro co r (n + 1)) C = ct (fun c => fil ro co r n c || (co n == c)) C := ct_cg (fun c _ => by
        show (fil ro co r n c || (ro n == r && co n == c)) = _
        rw [hb, Bool.true_and])
      rw [e2]
      exact ct_or (h1 n (by omega)) hf
    · have hb : (ro n == r) = false := by simpa using hr
      rw [if_neg (by rw [hb]; decide), Nat.add_zero]
      exact ct_cg (fun c _ => by
        show (fil ro co r n c || (ro n == r && co n == c)) = _
        rw [hb, Bool.false_and, Bool.or_false])
theorem ct_full (f : Nat → Bool) : ∀ C, ct f C < C ↔ ¬ ∀ c, c < C → f c = true
  | 0 => ⟨fun h => absurd h (Nat.not_lt_zero _), fun h => absurd (fun c hc => absurd hc (Nat.not_lt_zero c)) h⟩
  | C + 1 => by
    have ih := ct_full f C
    have hle := ct_le f C
    simp only [ct]
    constructor
    · intro h hall
      have h1 : ¬ ct f C < C := fun h2 => ih.mp h2 (fun c hc => hall c (by omega))
      rw [if_pos (hall C (by omega))] at h
      omega
    · intro h
      by_cases hc : f C = true
      · rw [if_pos hc]
        have : ct f C < C := ih.mpr (fun hall => h (fun c hc2 => by
          rcases Nat.lt_or_ge c C with h3 | h3
          · exact hall c h3
          · obtain rfl : c = C := by omega
            exact hc))
        omega
      · rw [if_neg hc]
        omega
abbrev freeC (st : RS) (r c : Nat) : Prop := ∀ s, s < st.2.2.1 → ¬ (st.2.2.2.1 s = r ∧ st.2.2.2.2.1 s = c)
theorem room_iff {st : RS} {k r : Nat} (h : RI st k) : ct (fun s => st.2.2.2.1 s == r) st.2.2.1 < st.2.1 ↔ ¬ ∀ c, c < st.2.1 → ¬ freeC st r c := by
  obtain ⟨h1, h2, h3, h4, h5, -⟩ := h
  rw [← ct_fil (C := st.2.1) (fun s hs => (h4 s hs).2) h5, ct_full]
  constructor
  · intro h6 h7
    apply h6
    intro c hc
    cases hb : fil st.2.2.2.1 st.2.2.2.2.1 r st.2.2.1 c
    · exact absurd (fil_f.mp hb) (h7 c hc)
    · rfl
  · intro h6 h7
    apply h6
    intro c hc hf
    have := fil_f.mpr hf
    rw [h7 c hc] at this
    cases this
theorem in16 {y : Int32} : ((1 : Int64) ≤ y.toInt64 ∧ y.toInt64 ≤ 6) ↔ ∃ j, 1 ≤ j ∧ j ≤ 6 ∧ y = nI j := by
  rw [← fig_1]
  rw [Int64.le_iff_toInt_le, Int64.le_iff_toInt_le, Int32.lt_iff_toInt_lt, Int32.le_iff_toInt_le, Int32.toInt_toInt64, show (1 : Int64).toInt = 1 from rfl, show (6 : Int64).toInt = 6 from rfl, show (nI 1).toInt = 1 from rfl, show (nI 6).toInt = 6 from rfl]
  omega
theorem fg16 {x : Int32} : (inN (fgI x) 7 ∧ 1 ≤ fgN x) ↔ ∃ j, 1 ≤ j ∧ j ≤ 6 ∧ fgI x = nI j := by
  constructor
  · rintro ⟨h1, h2⟩
    have h3 := fgN_eq (by decide) h1
    exact ⟨fgN x, h2, by omega, h3.2⟩
  · rintro ⟨j, h1, h2, h3⟩
    refine ⟨by rw [h3]; exact (inN_nI (by omega) (by decide)).mpr (by omega), ?_⟩
    unfold fgN
    rw [show x - nI 48 = nI j from h3, nI_clamp (by omega)]
    exact h1
section MR
variable {X : Cx} {d : Nat} {w : Wd}
theorem l_ie {st : RS} {r c : Nat} (hn : w.1 [] 21 = nI st.2.2.1) (hN : st.2.2.1 ≤ 20) (hC : ∀ s, s < st.2.2.1 → w.1 [22] s = nI (6 * st.2.2.2.1 s + st.2.2.2.2.1 s)) (hb : ∀ s, s < st.2.2.1 → st.2.2.2.1 s < 6 ∧ st.2.2.2.2.1 s < 6) (hr : r < 6) (hc : c < 6) : ∀ (f k : Nat), st.2.2.1 ≤ k + f → k ≤ st.2.2.1 → Wq X 1 d MX8_isEmptyAsRead 4 [(3, vI (nI k)), (2, vI (bI (∀ s, s < k → ¬ (st.2.2.2.1 s = r ∧ st.2.2.2.2.1 s = c)))), (0, vR 8 0 []), (1, vI (nI (6 * r + c)))] [] w (qI fun z w' => z = bI (freeC st r c) ∧ w' = w) := by
  intro f
  induction f with
  | zero =>
    intro k h1 h2
    refine R_iload_n (i := 3) (q := 5) dX8_isEmptyAsRead_4 rfl rfl rfl ?_
    refine R_aload_n (i := 0) (q := 6) dX8_isEmptyAsRead_5 rfl rfl rfl ?_
    refine R_getI' (q := 9) dX8_isEmptyAsRead_6 fl_X8_68 rfl (hn) rfl ?_
    refine R_icmp_geN (by omega) (by omega) (tgt := 38) (q := 12) dX8_isEmptyAsRead_9 (by decide) rfl (fun c1 => ?_) (fun c1 => ?_)
    · obtain rfl : k = st.2.2.1 := by omega
      refine R_iload_n (i := 2) (q := 39) dX8_isEmptyAsRead_38 rfl rfl rfl ?_
      refine R_rz dX8_isEmptyAsRead_39 rfl (bI_b _) ?_
      exact ⟨rfl, rfl⟩
    · omega
  | succ f ih =>
    intro k h1 h2
    refine R_iload_n (i := 3) (q := 5) dX8_isEmptyAsRead_4 rfl rfl rfl ?_
    refine R_aload_n (i := 0) (q := 6) dX8_isEmptyAsRead_5 rfl rfl rfl ?_
    refine R_getI' (q := 9) dX8_isEmptyAsRead_6 fl_X8_68 rfl (hn) rfl ?_
    refine R_icmp_geN (by omega) (by omega) (tgt := 38) (q := 12) dX8_isEmptyAsRead_9 (by decide) rfl (fun c1 => ?_) (fun c1 => ?_)
    · obtain rfl : k = st.2.2.1 := by omega
      refine R_iload_n (i := 2) (q := 39) dX8_isEmptyAsRead_38 rfl rfl rfl ?_
      refine R_rz dX8_isEmptyAsRead_39 rfl (bI_b _) ?_
      exact ⟨rfl, rfl⟩
    · have hbk := hb k c1
      have cont : Wq X 1 d MX8_isEmptyAsRead 31 [(3, vI (nI k)), (2, vI (bI (∀ s, s < k → ¬ (st.2.2.2.1 s = r ∧ st.2.2.2.2.1 s = c)))), (0, vR 8 0 []), (1, vI (nI (6 * r + c)))] [vI (bI (∀ s, s < k + 1 → ¬ (st.2.2.2.1 s = r ∧ st.2.2.2.2.1 s = c)))] w (qI fun z w' => z = bI (freeC st r c) ∧ w' = w) := by
        refine R_istore_n (i := 2) (q := 32) (loc' := [(2, _), (3, _), (0, _), (1, _)]) dX8_isEmptyAsRead_31 rfl (by decide) (by rfl) rfl ?_
        first | refine R_iincN (q := 35) (loc' := [(3, _), (2, _), (0, _), (1, _)]) dX8_isEmptyAsRead_32 (by rfl) (by decide) (by rfl) rfl ?_ | refine R_iinc (q := 35) (loc' := [(3, _), (2, _), (0, _), (1, _)]) dX8_isEmptyAsRead_32 (by rfl) (by rfl) (by decide) (by rfl) rfl ?_
        refine R_goto (q := 4) dX8_isEmptyAsRead_35 (by decide) ?_
        refine R_loc [0, 1, 2, 3] (loc' := [(3, _), (2, _), (0, _), (1, _)]) (by rfl) ?_
        exact ih (k + 1) (by omega) (by omega)
      refine R_iload_n (i := 2) (q := 13) dX8_isEmptyAsRead_12 rfl rfl rfl ?_
      refine R_if_eqB (tgt := 30) (q := 16) dX8_isEmptyAsRead_13 (by decide) rfl (fun c2 => ?_) (fun c2 => ?_)
      · rw [bI_f (c := ∀ s, s < k + 1 → ¬ (st.2.2.2.1 s = r ∧ st.2.2.2.2.1 s = c)) (fun h => c2 (fun s hs => h s (by omega)))] at cont
        refine R_iconst (v := nI 0) (q := 31) dX8_isEmptyAsRead_30 (by decide) rfl ?_
        exact cont
      · refine R_aload_n (i := 0) (q := 17) dX8_isEmptyAsRead_16 rfl rfl rfl ?_
        refine R_getR (q := 20) dX8_isEmptyAsRead_17 fl_X8_44 rfl (by decide) rfl ?_
        refine R_iload_n (i := 3) (q := 21) dX8_isEmptyAsRead_20 rfl rfl rfl ?_
        refine R_iald' (q := 22) dX8_isEmptyAsRead_21 (rfl) (by omega) (by decide) (hC k c1) rfl ?_
        refine R_iload_n (i := 1) (q := 23) dX8_isEmptyAsRead_22 rfl rfl rfl ?_
        refine R_icmp_eqN (by omega) (by omega) (tgt := 30) (q := 26) dX8_isEmptyAsRead_23 (by decide) rfl (fun c3 => ?_) (fun c3 => ?_)
        · rw [bI_f (c := ∀ s, s < k + 1 → ¬ (st.2.2.2.1 s = r ∧ st.2.2.2.2.1 s = c)) (fun h => h k (by omega) (by omega))] at cont
          refine R_iconst (v := nI 0) (q := 31) dX8_isEmptyAsRead_30 (by decide) rfl ?_
          exact cont
        · rw [bI_t (c := ∀ s, s < k + 1 → ¬ (st.2.2.2.1 s = r ∧ st.2.2.2.2.1 s = c)) (fun s hs => by
            rcases Nat.lt_or_ge s k with h | h
            · exact c2 s h
            · obtain rfl : s = k := by omega
              omega)] at cont
          refine R_iconst (v := nI 1) (q := 27) dX8_isEmptyAsRead_26 (by decide) rfl ?_
          refine R_goto (q := 31) dX8_isEmptyAsRead_27 (by decide) ?_
          exact cont
theorem c_isEmptyAsRead {st : RS} {r c : Nat} (hn : w.1 [] 21 = nI st.2.2.1) (hN : st.2.2.1 ≤ 20) (hC : ∀ s, s < st.2.2.1 → w.1 [22] s = nI (6 * st.2.2.2.1 s + st.2.2.2.2.1 s)) (hb : ∀ s, s < st.2.2.1 → st.2.2.2.1 s < 6 ∧ st.2.2.2.2.1 s < 6) (hr : r < 6) (hc : c < 6) : Ct X 1 d MX8_isEmptyAsRead [vR 8 0 [], vI (nI (6 * r + c))] w (qI fun z w' => z = bI (freeC st r c) ∧ w' = w) := by
  refine Ct.of (by decide) rfl (Nat.le_of_ble_eq_true rfl) ?_
  show Wq _ _ _ _ 0 [(0, _), (1, _)] [] _ _
  refine R_iconst (v := nI 1) (q := 1) dX8_isEmptyAsRead_0 (by decide) rfl ?_
  refine R_istore_n (i := 2) (q := 2) (loc' := [(2, _), (0, _), (1, _)]) dX8_isEmptyAsRead_1 rfl (by decide) (by rfl) rfl ?_
  refine R_iconst (v := nI 0) (q := 3) dX8_isEmptyAsRead_2 (by decide) rfl ?_
  refine R_istore_n (i := 3) (q := 4) (loc' := [(3, _), (2, _), (0, _), (1, _)]) dX8_isEmptyAsRead_3 rfl (by decide) (by rfl) rfl ?_
  have h := l_ie (X := X) (d := d) hn hN hC hb hr hc st.2.2.1 0 (by omega) (by omega)
  rw [bI_t (c := ∀ s, s < 0 → ¬ (st.2.2.2.1 s = r ∧ st.2.2.2.2.1 s = c)) (fun s hs => absurd hs (Nat.not_lt_zero s))] at h
  exact h
theorem l_hr {st : RS} {r C : Nat} (hCc : w.1 [] 20 = nI C) (hC6 : C ≤ 6) (hn : w.1 [] 21 = nI st.2.2.1) (hN : st.2.2.1 ≤ 20) (hC : ∀ s, s < st.2.2.1 → w.1 [22] s = nI (6 * st.2.2.2.1 s + st.2.2.2.2.1 s)) (hb : ∀ s, s < st.2.2.1 → st.2.2.2.1 s < 6 ∧ st.2.2.2.2.1 s < 6) (hr : r < 6) : ∀ (f k : Nat), C ≤ k + f → k ≤ C → Wq X 1 (d + 1) MX8_hasRoomAsRead 4 [(3, vI (nI k)), (2, vI (bI (¬ ∀ c, c < k → ¬ freeC st r c))), (0, vR 8 0 []), (1, vI (nI r))] [] w (qI fun z w' => z = bI (¬ ∀ c, c < C → ¬ freeC st r c) ∧ w' = w) := by
  intro f
  induction f with
  | zero =>
    intro k h1 h2
    refine R_iload_n (i := 3) (q := 5) dX8_hasRoomAsRead_4 rfl rfl rfl ?_
    refine R_aload_n (i := 0) (q := 6) dX8_hasRoomAsRead_5 rfl rfl rfl ?_
    refine R_getI' (q := 9) dX8_hasRoomAsRead_6 fl_X8_71 rfl (hCc) rfl ?_
    refine R_icmp_geN (by omega) (by omega) (tgt := 41) (q := 12) dX8_hasRoomAsRead_9 (by decide) rfl (fun c1 => ?_) (fun c1 => ?_)
    · obtain rfl : k = C := by omega
      refine R_iload_n (i := 2) (q := 42) dX8_hasRoomAsRead_41 rfl rfl rfl ?_
      refine R_rz dX8_hasRoomAsRead_42 rfl (bI_b _) ?_
      exact ⟨rfl, rfl⟩
    · omega
  | succ f ih =>
    intro k h1 h2
    refine R_iload_n (i := 3) (q := 5) dX8_hasRoomAsRead_4 rfl rfl rfl ?_
    refine R_aload_n (i := 0) (q := 6) dX8_hasRoomAsRead_5 rfl rfl rfl ?_
    refine R_getI' (q := 9) dX8_hasRoomAsRead_6 fl_X8_71 rfl (hCc) rfl ?_
    refine R_icmp_geN (by omega) (by omega) (tgt := 41) (q := 12) dX8_hasRoomAsRead_9 (by decide) rfl (fun c1 => ?_) (fun c1 => ?_)
    · obtain rfl : k = C := by omega
      refine R_iload_n (i := 2) (q := 42) dX8_hasRoomAsRead_41 rfl rfl rfl ?_
      refine R_rz dX8_hasRoomAsRead_42 rfl (bI_b _) ?_
      exact ⟨rfl, rfl⟩
    · have cont : Wq X 1 (d + 1) MX8_hasRoomAsRead 34 [(3, vI (nI k)), (2, vI (bI (¬ ∀ c, c < k → ¬ freeC st r c))), (0, vR 8 0 []), (1, vI (nI r))] [vI (bI (¬ ∀ c, c < k + 1 → ¬ freeC st r c))] w (qI fun z w' => z = bI (¬ ∀ c, c < C → ¬ freeC st r c) ∧ w' = w) := by
        refine R_istore_n (i := 2) (q := 35) (loc' := [(2, _), (3, _), (0, _), (1, _)]) dX8_hasRoomAsRead_34 rfl (by decide) (by rfl) rfl ?_
        first | refine R_iincN (q := 38) (loc' := [(3, _), (2, _), (0, _), (1, _)]) dX8_hasRoomAsRead_35 (by rfl) (by decide) (by rfl) rfl ?_ | refine R_iinc (q := 38) (loc' := [(3, _), (2, _), (0, _), (1, _)]) dX8_hasRoomAsRead_35 (by rfl) (by rfl) (by decide) (by rfl) rfl ?_
        refine R_goto (q := 4) dX8_hasRoomAsRead_38 (by decide) ?_
        refine R_loc [0, 1, 2, 3] (loc' := [(3, _), (2, _), (0, _), (1, _)]) (by rfl) ?_
        exact ih (k + 1) (by omega) (by omega)
      refine R_iload_n (i := 2) (q := 13) dX8_hasRoomAsRead_12 rfl rfl rfl ?_
      refine R_if_neB (tgt := 29) (q := 16) dX8_hasRoomAsRead_13 (by decide) rfl (fun c2 => ?_) (fun c2 => ?_)
      · rw [bI_t (c := ¬ ∀ c, c < k + 1 → ¬ freeC st r c) (fun h => c2 (fun c hc => h c (by omega)))] at cont
        refine R_iconst (v := nI 1) (q := 30) dX8_hasRoomAsRead_29 (by decide) rfl ?_
        refine R_goto (q := 34) dX8_hasRoomAsRead_30 (by decide) ?_
        exact cont
      · refine R_aload_n (i := 0) (q := 17) dX8_hasRoomAsRead_16 rfl rfl rfl ?_
        refine R_bipush (v := nI 6) (q := 19) dX8_hasRoomAsRead_17 (by decide) rfl ?_
        refine R_iload_n (i := 1) (q := 20) dX8_hasRoomAsRead_19 rfl rfl rfl ?_
        first | refine R_imulN (q := 21) dX8_hasRoomAsRead_20 rfl ?_ | refine R_imul (q := 21) dX8_hasRoomAsRead_20 rfl ?_
        refine R_iload_n (i := 3) (q := 22) dX8_hasRoomAsRead_21 rfl rfl rfl ?_
        first | refine R_iaddN (q := 23) dX8_hasRoomAsRead_22 rfl ?_ | refine R_iadd (q := 23) dX8_hasRoomAsRead_22 rfl ?_
        refine R_cV1i (M' := MX8_isEmptyAsRead) (q := 26) dX8_hasRoomAsRead_23 ml_X8_74 mk_X8_isEmptyAsRead (Nat.le_of_ble_eq_true rfl) rfl (c_isEmptyAsRead hn hN hC hb hr (by omega)) ?_
        rintro _ w ⟨rfl, rfl⟩
        refine R_if_eqB (tgt := 33) (q := 29) dX8_hasRoomAsRead_26 (by decide) rfl (fun c3 => ?_) (fun c3 => ?_)
        · rw [bI_f (c := ¬ ∀ c, c < k + 1 → ¬ freeC st r c) (fun h => h (fun c hc => by
            rcases Nat.lt_or_ge c k with h3 | h3
            · exact Classical.byContradiction (fun h4 => c2 (fun h5 => h4 (h5 c h3)))
            · obtain rfl : c = k := by omega
              exact c3))] at cont
          refine R_iconst (v := nI 0) (q := 34) dX8_hasRoomAsRead_33 (by decide) rfl ?_
          exact cont
        · rw [bI_t (c := ¬ ∀ c, c < k + 1 → ¬ freeC st r c) (fun h => h k (by omega) c3)] at cont
          refine R_iconst (v := nI 1) (q := 30) dX8_hasRoomAsRead_29 (by decide) rfl ?_
          refine R_goto (q := 34) dX8_hasRoomAsRead_30 (by decide) ?_
          exact cont
theorem c_hasRoomAsRead {st : RS} {r C : Nat} (hCc : w.1 [] 20 = nI C) (hC6 : C ≤ 6) (hn : w.1 [] 21 = nI st.2.2.1) (hN : st.2.2.1 ≤ 20) (hC : ∀ s, s < st.2.2.1 → w.1 [22] s = nI (6 * st.2.2.2.1 s + st.2.2.2.2.1 s)) (hb : ∀ s, s < st.2.2.1 → st.2.2.2.1 s < 6 ∧ st.2.2.2.2.1 s < 6) (hr : r < 6) : Ct X 1 (d + 1) MX8_hasRoomAsRead [vR 8 0 [], vI (nI r)] w (qI fun z w' => z = bI (¬ ∀ c, c < C → ¬ freeC st r c) ∧ w' = w) := by
  refine Ct.of (by decide) rfl (Nat.le_of_ble_eq_true rfl) ?_
  show Wq _ _ _ _ 0 [(0, _), (1, _)] [] _ _
  refine R_iconst (v := nI 0) (q := 1) dX8_hasRoomAsRead_0 (by decide) rfl ?_
  refine R_istore_n (i := 2) (q := 2) (loc' := [(2, _), (0, _), (1, _)]) dX8_hasRoomAsRead_1 rfl (by decide) (by rfl) rfl ?_
  refine R_iconst (v := nI 0) (q := 3) dX8_hasRoomAsRead_2 (by decide) rfl ?_
  refine R_istore_n (i := 3) (q := 4) (loc' := [(3, _), (2, _), (0, _), (1, _)]) dX8_hasRoomAsRead_3 rfl (by decide) (by rfl) rfl ?_
  have h := l_hr (X := X) (d := d) hCc hC6 hn hN hC hb hr C 0 (by omega) (by omega)
  rw [bI_f (c := ¬ ∀ c, c < 0 → ¬ freeC st r c) (fun h => h (fun c hc => absurd hc (Nat.not_lt_zero c)))] at h
  exact h
theorem c_mtake {st : RS} {k : Nat} {x : Int32} (hk1 : 1 ≤ k) (hk : k < 70) (hA : RdM w st k) : Ct X 1 (d + 2) MX8_take [vR 8 0 [], vI x] w (qI fun z w' => ((z = 1 ∧ ∃ st', rst st k x = some st' ∧ RdM w' st' (k + 1)) ∨ (z = 0 ∧ rst st k x = none)) ∧ Fm [[22]] KR w w') := by
  obtain ⟨mn, mc, mR, mC, mp, mr, hI⟩ := id hA
  obtain ⟨i1, i2, i3, i4, i5, i6, i7, i8⟩ := id hI
  have hb6 : ∀ s, s < st.2.2.1 → st.2.2.2.1 s < 6 ∧ st.2.2.2.2.1 s < 6 := fun s hs => by have := i4 s hs; omega
  refine Ct.of (by decide) rfl (Nat.le_of_ble_eq_true rfl) ?_
  show Wq _ _ _ _ 0 [(0, _), (1, _)] [] _ _
  refine R_iload_n (i := 1) (q := 1) dX8_take_0 rfl rfl rfl ?_
  refine R_bipush (v := nI 48) (q := 3) dX8_take_1 (by decide) rfl ?_
  refine R_isub (q := 4) dX8_take_3 rfl ?_
  refine R_istore_n (i := 2) (q := 5) (loc' := [(2, _), (0, _), (1, _)]) dX8_take_4 rfl (by decide) (by rfl) rfl ?_
  refine R_aload_n (i := 0) (q := 6) dX8_take_5 rfl rfl rfl ?_
  refine R_getI' (q := 9) dX8_take_6 fl_X8_78 rfl (mp) rfl ?_
  by_cases k1 : k = 1
  · subst k1
    have er : rst st 1 x = if inN (fgI x) 7 ∧ 1 ≤ fgN x then some (fgN x, st.2.1, st.2.2.1, st.2.2.2.1, st.2.2.2.2.1, st.2.2.2.2.2) else none := by
      unfold rst
      rw [if_neg (by decide), if_pos rfl]
    refine R_tableIn (q := 40) dX8_take_9 (by decide) (by decide) (by rfl) (by decide) ?_
    refine R_aload_n (i := 0) (q := 41) dX8_take_40 rfl rfl rfl ?_
    refine R_iload_n (i := 2) (q := 42) dX8_take_41 rfl rfl rfl ?_
    refine R_putI (q := 45) dX8_take_42 fl_X8_81 rfl rfl ?_
    refine R_aload_n (i := 0) (q := 46) dX8_take_45 rfl rfl rfl ?_
    refine R_iconst (v := nI 2) (q := 47) dX8_take_46 (by decide) rfl ?_
    refine R_putI (q := 50) dX8_take_47 fl_X8_78 rfl rfl ?_
    refine R_iload_n (i := 2) (q := 51) dX8_take_50 rfl rfl rfl ?_
    refine R_i2l (q := 52) dX8_take_51 rfl ?_
    refine R_lconst (v := 1) (q := 53) dX8_take_52 (by decide) rfl ?_
    refine R_ldc2 (q := 56) dX8_take_53 kc_X8_84 rfl ?_
    refine R_cS3i (M' := MX8_in) (q := 59) dX8_take_56 ml_X8_57 mk_X8_in (Nat.le_of_ble_eq_true rfl) rfl (c_in) ?_
    rintro _ w9 ⟨rfl, rfl⟩
    refine R_rz dX8_take_59 rfl (bI_b _) ?_
    refine ⟨?_, (Fm.f (by decide)).tr (Fm.f (by decide))⟩
    by_cases hin : inN (fgI x) 7 ∧ 1 ≤ fgN x
    · have e2 := er
      rw [if_pos hin] at e2
      refine Or.inl ⟨bI_t (in16.mpr (fg16.mp hin)), _, e2, ?_, ?_, ?_, ?_, ?_, ?_, RI_step hI e2⟩
      · exact (uI_ne (by decide)).trans ((uI_ne (by decide)).trans mn)
      · intro s hs
        exact (uI_nep (by decide)).trans ((uI_nep (by decide)).trans (mc s hs))
      · intro _
        exact (uI_ne (by decide)).trans ((uI_same _ _ _ _).trans (fgN_eq (by decide) hin.1).2)
      · intro h
        exact absurd h (by decide)
      · exact uI_same _ _ _ _
      · intro h
        exact absurd h (by decide)
    · exact Or.inr ⟨bI_f (fun h => hin (fg16.mpr (in16.mp h))), by rw [er, if_neg hin]⟩
  by_cases k2 : k = 2
  · subst k2
    have er : rst st 2 x = if inN (fgI x) 7 ∧ 1 ≤ fgN x then some (st.1, fgN x, st.2.2.1, st.2.2.2.1, st.2.2.2.2.1, st.2.2.2.2.2) else none := by
      unfold rst
      rw [if_neg (by decide), if_neg (by decide), if_pos rfl]
    refine R_tableIn (q := 60) dX8_take_9 (by decide) (by decide) (by rfl) (by decide) ?_
    refine R_aload_n (i := 0) (q := 61) dX8_take_60 rfl rfl rfl ?_
    refine R_iload_n (i := 2) (q := 62) dX8_take_61 rfl rfl rfl ?_
    refine R_putI (q := 65) dX8_take_62 fl_X8_71 rfl rfl ?_
    refine R_aload_n (i := 0) (q := 66) dX8_take_65 rfl rfl rfl ?_
    refine R_iconst (v := nI 0) (q := 67) dX8_take_66 (by decide) rfl ?_
    refine R_putI (q := 70) dX8_take_67 fl_X8_78 rfl rfl ?_
    refine R_iload_n (i := 2) (q := 71) dX8_take_70 rfl rfl rfl ?_
    refine R_i2l (q := 72) dX8_take_71 rfl ?_
    refine R_lconst (v := 1) (q := 73) dX8_take_72 (by decide) rfl ?_
    refine R_ldc2 (q := 76) dX8_take_73 kc_X8_84 rfl ?_
    refine R_cS3i (M' := MX8_in) (q := 79) dX8_take_76 ml_X8_57 mk_X8_in (Nat.le_of_ble_eq_true rfl) rfl (c_in) ?_
    rintro _ w9 ⟨rfl, rfl⟩
    refine R_rz dX8_take_79 rfl (bI_b _) ?_
    refine ⟨?_, (Fm.f (by decide)).tr (Fm.f (by decide))⟩
    by_cases hin : inN (fgI x) 7 ∧ 1 ≤ fgN x
    · have e2 := er
      rw [if_pos hin] at e2
      refine Or.inl ⟨bI_t (in16.mpr (fg16.mp hin)), _, e2, ?_, ?_, ?_, ?_, ?_, ?_, RI_step hI e2⟩
      · exact (uI_ne (by decide)).trans ((uI_ne (by decide)).trans mn)
      · intro s hs
        exact (uI_nep (by decide)).trans ((uI_nep (by decide)).trans (mc s hs))
      · intro _
        exact (uI_ne (by decide)).trans ((uI_ne (by decide)).trans (mR (by decide)))
      · intro _
        exact (uI_ne (by decide)).trans ((uI_same _ _ _ _).trans (fgN_eq (by decide) hin.1).2)
      · exact uI_same _ _ _ _
      · intro _ h
        exact absurd h (by decide)
    · exact Or.inr ⟨bI_f (fun h => hin (fg16.mpr (in16.mp h))), by rw [er, if_neg hin]⟩
  have k0 : ¬ k = 0 := by omega
  have hR9 := mR (by omega)
  have hC9 := mC (by omega)
  have hm3 : k % 3 < 3 := Nat.mod_lt _ (by decide)
  have hRC : st.1 * st.2.1 ≤ 6 * 6 := Nat.mul_le_mul i1.2 i2.2
  by_cases m0 : k % 3 = 0
  · have hp : prt k = 0 := by
      unfold prt
      rw [if_neg k1, if_neg k2, if_pos m0]
    rw [hp]
    have er : rst st k x = if x = nI 105 ∧ rsRoom st then some st else none := by
      unfold rst
      rw [if_neg k0, if_neg k1, if_neg k2, if_pos m0]
    have hp1 : prt (k + 1) = 3 := by
      unfold prt
      rw [if_neg (by omega), if_neg (by omega), if_neg (by omega), if_pos (by omega)]
    have hF : Fm [[22]] KR w (uI w [] 23 (nI 3)) := Fm.f (by decide)
    have hgood : x = nI 105 ∧ rsRoom st → RdM (uI w [] 23 (nI 3)) st (k + 1) := by
      intro hg
      have e2 : rst st k x = some st := by rw [er, if_pos hg]
      refine ⟨(uI_ne (by decide)).trans mn, fun s hs => (uI_nep (by decide)).trans (mc s hs), fun _ => (uI_ne (by decide)).trans hR9, fun _ => (uI_ne (by decide)).trans hC9, by rw [hp1]; exact uI_same _ _ _ _, fun _ h => absurd h (by omega), RI_step hI e2⟩
    refine R_tableOut (q := 189) dX8_take_9 (Or.inl (by decide)) (by decide) ?_
    refine R_aload_n (i := 0) (q := 190) dX8_take_189 rfl rfl rfl ?_
    refine R_iconst (v := nI 3) (q := 191) dX8_take_190 (by decide) rfl ?_
    refine R_putI (q := 194) dX8_take_191 fl_X8_78 rfl rfl ?_
    refine R_iload_n (i := 1) (q := 195) dX8_take_194 rfl rfl rfl ?_
    refine R_bipush (v := nI 105) (q := 197) dX8_take_195 (by decide) rfl ?_
    refine R_icmp_ne (tgt := 229) (q := 200) dX8_take_197 (by decide) rfl (fun c1 => ?_) (fun c1 => ?_)
    · refine R_iconst (v := nI 0) (q := 230) dX8_take_229 (by decide) rfl ?_
      refine R_rz dX8_take_230 rfl (by decide) ?_
      exact ⟨Or.inr ⟨rfl, by rw [er, if_neg (fun h => c1 h.1)]⟩, hF⟩
    · refine R_aload_n (i := 0) (q := 201) dX8_take_200 rfl rfl rfl ?_
      refine R_getI' (q := 204) dX8_take_201 fl_X8_68 rfl ((uI_ne (by decide)).trans mn) rfl ?_
      refine R_bipush (v := nI 20) (q := 206) dX8_take_204 (by decide) rfl ?_
      refine R_icmp_geN (by omega) (by omega) (tgt := 229) (q := 209) dX8_take_206 (by decide) rfl (fun c2 => ?_) (fun c2 => ?_)
      · refine R_iconst (v := nI 0) (q := 230) dX8_take_229 (by decide) rfl ?_
        refine R_rz dX8_take_230 rfl (by decide) ?_
        exact ⟨Or.inr ⟨rfl, by rw [er, if_neg (fun h => by have := h.2.1; omega)]⟩, hF⟩
      · refine R_aload_n (i := 0) (q := 210) dX8_take_209 rfl rfl rfl ?_
        refine R_getI' (q := 213) dX8_take_210 fl_X8_68 rfl ((uI_ne (by decide)).trans mn) rfl ?_
        refine R_aload_n (i := 0) (q := 214) dX8_take_213 rfl rfl rfl ?_
        refine R_getI' (q := 217) dX8_take_214 fl_X8_81 rfl ((uI_ne (by decide)).trans hR9) rfl ?_
        refine R_aload_n (i := 0) (q := 218) dX8_take_217 rfl rfl rfl ?_
        refine R_getI' (q := 221) dX8_take_218 fl_X8_71 rfl ((uI_ne (by decide)).trans hC9) rfl ?_
        first | refine R_imulN (q := 222) dX8_take_221 rfl ?_ | refine R_imul (q := 222) dX8_take_221 rfl ?_
        refine R_icmp_geN (by omega) (by omega) (tgt := 229) (q := 225) dX8_take_222 (by decide) rfl (fun c3 => ?_) (fun c3 => ?_)
        · refine R_iconst (v := nI 0) (q := 230) dX8_take_229 (by decide) rfl ?_
          refine R_rz dX8_take_230 rfl (by decide) ?_
          exact ⟨Or.inr ⟨rfl, by rw [er, if_neg (fun h => by have := h.2.2; omega)]⟩, hF⟩
        · refine R_iconst (v := nI 1) (q := 226) dX8_take_225 (by decide) rfl ?_
          refine R_goto (q := 230) dX8_take_226 (by decide) ?_
          refine R_rz dX8_take_230 rfl (by decide) ?_
          exact ⟨Or.inl ⟨rfl, st, by rw [er, if_pos ⟨c1, c2, c3⟩], hgood ⟨c1, c2, c3⟩⟩, hF⟩
  have hroom := i7 (by omega) m0
  by_cases m1 : k % 3 = 1
  · have hp : prt k = 3 := by
      unfold prt
      rw [if_neg k1, if_neg k2, if_neg m0, if_pos m1]
    rw [hp]
    have hp1 : prt (k + 1) = 4 := by
      unfold prt
      rw [if_neg (by omega), if_neg (by omega), if_neg (by omega), if_neg (by omega)]
    have er : rst st k x = if inN (fgI x) st.1 ∧ ct (fun s => st.2.2.2.1 s == fgN x) st.2.2.1 < st.2.1 then some (st.1, st.2.1, st.2.2.1, st.2.2.2.1, st.2.2.2.2.1, fgN x) else none := by
      unfold rst
      rw [if_neg k0, if_neg k1, if_neg k2, if_neg m0, if_pos m1]
    refine R_tableIn (q := 80) dX8_take_9 (by decide) (by decide) (by rfl) (by decide) ?_
    refine R_aload_n (i := 0) (q := 81) dX8_take_80 rfl rfl rfl ?_
    refine R_iload_n (i := 2) (q := 82) dX8_take_81 rfl rfl rfl ?_
    refine R_putI (q := 85) dX8_take_82 fl_X8_86 rfl rfl ?_
    refine R_aload_n (i := 0) (q := 86) dX8_take_85 rfl rfl rfl ?_
    refine R_iconst (v := nI 4) (q := 87) dX8_take_86 (by decide) rfl ?_
    refine R_putI (q := 90) dX8_take_87 fl_X8_78 rfl rfl ?_
    refine R_iload_n (i := 2) (q := 91) dX8_take_90 rfl rfl rfl ?_
    refine R_i2l (q := 92) dX8_take_91 rfl ?_
    refine R_lconst (v := 0) (q := 93) dX8_take_92 (by decide) rfl ?_
    refine R_aload_n (i := 0) (q := 94) dX8_take_93 rfl rfl rfl ?_
    refine R_getI' (q := 97) dX8_take_94 fl_X8_81 rfl ((uI_ne (by decide)).trans ((uI_ne (by decide)).trans hR9)) rfl ?_
    refine R_iconst (v := nI 1) (q := 98) dX8_take_97 (by decide) rfl ?_
    refine R_isub (q := 99) dX8_take_98 rfl ?_
    refine R_i2l (q := 100) dX8_take_99 rfl ?_
    refine R_cS3i (M' := MX8_in) (q := 103) dX8_take_100 ml_X8_57 mk_X8_in (Nat.le_of_ble_eq_true rfl) rfl (c_in) ?_
    rintro _ w9 ⟨rfl, rfl⟩
    rw [bI_iff (in64 (n := st.1) (by omega) (pred64 (by omega)))]
    have hF : Fm [[22]] KR w (uI (uI w [] 24 (x - nI 48)) [] 23 (nI 4)) := (Fm.f (by decide)).tr (Fm.f (by decide))
    refine R_if_eqB (tgt := 118) (q := 106) dX8_take_103 (by decide) rfl (fun c1 => ?_) (fun c1 => ?_)
    · refine R_iconst (v := nI 0) (q := 119) dX8_take_118 (by decide) rfl ?_
      refine R_rz dX8_take_119 rfl (by decide) ?_
      exact ⟨Or.inr ⟨rfl, by rw [er, if_neg (fun h => c1 h.1)]⟩, hF⟩
    · have hfg := fgN_eq (by omega) c1
      have hfe : x - nI 48 = nI (fgN x) := hfg.2
      rw [hfe] at hF ⊢
      refine R_aload_n (i := 0) (q := 107) dX8_take_106 rfl rfl rfl ?_
      refine R_iload_n (i := 2) (q := 108) dX8_take_107 rfl rfl rfl ?_
      refine R_cV1i (M' := MX8_hasRoomAsRead) (q := 111) dX8_take_108 ml_X8_89 mk_X8_hasRoomAsRead (Nat.le_of_ble_eq_true rfl) rfl (c_hasRoomAsRead (st := st) (r := fgN x) ((uI_ne (by decide)).trans ((uI_ne (by decide)).trans hC9)) i2.2 ((uI_ne (by decide)).trans ((uI_ne (by decide)).trans mn)) i3 (fun s hs => (uI_nep (by decide)).trans ((uI_nep (by decide)).trans (mc s hs))) hb6 (by omega)) ?_
      rintro _ w9 ⟨rfl, rfl⟩
      refine R_if_eqB (tgt := 118) (q := 114) dX8_take_111 (by decide) rfl (fun c2 => ?_) (fun c2 => ?_)
      · refine R_iconst (v := nI 0) (q := 119) dX8_take_118 (by decide) rfl ?_
        refine R_rz dX8_take_119 rfl (by decide) ?_
        exact ⟨Or.inr ⟨rfl, by rw [er, if_neg (fun h => c2 ((room_iff hI).mp h.2))]⟩, hF⟩
      · refine R_iconst (v := nI 1) (q := 115) dX8_take_114 (by decide) rfl ?_
        refine R_goto (q := 119) dX8_take_115 (by decide) ?_
        refine R_rz dX8_take_119 rfl (by decide) ?_
        have e2 := er
        rw [if_pos ⟨c1, (room_iff hI).mpr c2⟩] at e2
        refine ⟨Or.inl ⟨rfl, _, e2, (uI_ne (by decide)).trans ((uI_ne (by decide)).trans mn), fun s hs => (uI_nep (by decide)).trans ((uI_nep (by decide)).trans (mc s hs)), fun _ => (uI_ne (by decide)).trans ((uI_ne (by decide)).trans hR9), fun _ => (uI_ne (by decide)).trans ((uI_ne (by decide)).trans hC9), ?_, fun _ _ => (uI_ne (by decide)).trans (uI_same _ _ _ _), RI_step hI e2⟩, hF⟩
        rw [hp1]
        exact uI_same _ _ _ _
  have m2 : k % 3 = 2 := by omega
  have hp : prt k = 4 := by
    unfold prt
    rw [if_neg k1, if_neg k2, if_neg m0, if_neg m1]
  rw [hp]
  have hp1 : prt (k + 1) = 0 := by
    unfold prt
    rw [if_neg (by omega), if_neg (by omega), if_pos (by omega)]
  have er : rst st k x = if inN (fgI x) st.2.1 ∧ ∀ s, s < st.2.2.1 → ¬ (st.2.2.2.1 s = st.2.2.2.2.2 ∧ st.2.2.2.2.1 s = fgN x) then some (st.1, st.2.1, st.2.2.1 + 1, fnU st.2.2.2.1 st.2.2.1 st.2.2.2.2.2, fnU st.2.2.2.2.1 st.2.2.1 (fgN x), st.2.2.2.2.2) else none := by
    unfold rst
    rw [if_neg k0, if_neg k1, if_neg k2, if_neg m0, if_neg m1]
  have hcr := i8 (by omega) m2
  have hr9 := mr (by omega) m2
  refine R_tableIn (q := 120) dX8_take_9 (by decide) (by decide) (by rfl) (by decide) ?_
  refine R_iload_n (i := 2) (q := 121) dX8_take_120 rfl rfl rfl ?_
  refine R_i2l (q := 122) dX8_take_121 rfl ?_
  refine R_lconst (v := 0) (q := 123) dX8_take_122 (by decide) rfl ?_
  refine R_aload_n (i := 0) (q := 124) dX8_take_123 rfl rfl rfl ?_
  refine R_getI' (q := 127) dX8_take_124 fl_X8_71 rfl (hC9) rfl ?_
  refine R_iconst (v := nI 1) (q := 128) dX8_take_127 (by decide) rfl ?_
  refine R_isub (q := 129) dX8_take_128 rfl ?_
  refine R_i2l (q := 130) dX8_take_129 rfl ?_
  refine R_cS3i (M' := MX8_in) (q := 133) dX8_take_130 ml_X8_57 mk_X8_in (Nat.le_of_ble_eq_true rfl) rfl (c_in) ?_
  rintro _ w9 ⟨rfl, rfl⟩
  rw [bI_iff (in64 (n := st.2.1) (by omega) (pred64 (by omega)))]
  refine R_if_eqB (tgt := 152) (q := 136) dX8_take_133 (by decide) rfl (fun c1 => ?_) (fun c1 => ?_)
  · refine R_iconst (v := nI 0) (q := 153) dX8_take_152 (by decide) rfl ?_
    refine R_rz dX8_take_153 rfl (by decide) ?_
    exact ⟨Or.inr ⟨rfl, by rw [er, if_neg (fun h => c1 h.1)]⟩, Fm.rf⟩
  · have hfg := fgN_eq (by omega) c1
    have hfe : x - nI 48 = nI (fgN x) := hfg.2
    rw [hfe]
    refine R_aload_n (i := 0) (q := 137) dX8_take_136 rfl rfl rfl ?_
    refine R_bipush (v := nI 6) (q := 139) dX8_take_137 (by decide) rfl ?_
    refine R_aload_n (i := 0) (q := 140) dX8_take_139 rfl rfl rfl ?_
    refine R_getI' (q := 143) dX8_take_140 fl_X8_86 rfl (hr9) rfl ?_
    first | refine R_imulN (q := 144) dX8_take_143 rfl ?_ | refine R_imul (q := 144) dX8_take_143 rfl ?_
    refine R_iload_n (i := 2) (q := 145) dX8_take_144 rfl rfl rfl ?_
    first | refine R_iaddN (q := 146) dX8_take_145 rfl ?_ | refine R_iadd (q := 146) dX8_take_145 rfl ?_
    refine R_cV1i (M' := MX8_isEmptyAsRead) (q := 149) dX8_take_146 ml_X8_74 mk_X8_isEmptyAsRead (Nat.le_of_ble_eq_true rfl) rfl (c_isEmptyAsRead (st := st) (r := st.2.2.2.2.2) (c := fgN x) mn i3 mc hb6 (by omega) (by omega)) ?_
    rintro _ w9 ⟨rfl, rfl⟩
    refine R_if_neB (tgt := 154) (q := 152) dX8_take_149 (by decide) rfl (fun c2 => ?_) (fun c2 => ?_)
    · refine R_aload_n (i := 0) (q := 155) dX8_take_154 rfl rfl rfl ?_
      refine R_getR (q := 158) dX8_take_155 fl_X8_44 rfl (by decide) rfl ?_
      refine R_aload_n (i := 0) (q := 159) dX8_take_158 rfl rfl rfl ?_
      refine R_getI' (q := 162) dX8_take_159 fl_X8_68 rfl (mn) rfl ?_
      refine R_bipush (v := nI 6) (q := 164) dX8_take_162 (by decide) rfl ?_
      refine R_aload_n (i := 0) (q := 165) dX8_take_164 rfl rfl rfl ?_
      refine R_getI' (q := 168) dX8_take_165 fl_X8_86 rfl (hr9) rfl ?_
      first | refine R_imulN (q := 169) dX8_take_168 rfl ?_ | refine R_imul (q := 169) dX8_take_168 rfl ?_
      refine R_iload_n (i := 2) (q := 170) dX8_take_169 rfl rfl rfl ?_
      first | refine R_iaddN (q := 171) dX8_take_170 rfl ?_ | refine R_iadd (q := 171) dX8_take_170 rfl ?_
      refine R_iast (q := 172) dX8_take_171 (rfl) (by omega) (by decide) rfl ?_
      refine R_aload_n (i := 0) (q := 173) dX8_take_172 rfl rfl rfl ?_
      refine R_dup (q := 174) dX8_take_173 rfl rfl ?_
      refine R_getI' (q := 177) dX8_take_174 fl_X8_68 rfl ((uI_nep (by decide)).trans mn) rfl ?_
      refine R_iconst (v := nI 1) (q := 178) dX8_take_177 (by decide) rfl ?_
      first | refine R_iaddN (q := 179) dX8_take_178 rfl ?_ | refine R_iadd (q := 179) dX8_take_178 rfl ?_
      refine R_putI (q := 182) dX8_take_179 fl_X8_68 rfl rfl ?_
      refine R_aload_n (i := 0) (q := 183) dX8_take_182 rfl rfl rfl ?_
      refine R_iconst (v := nI 0) (q := 184) dX8_take_183 (by decide) rfl ?_
      refine R_putI (q := 187) dX8_take_184 fl_X8_78 rfl rfl ?_
      refine R_iconst (v := nI 1) (q := 188) dX8_take_187 (by decide) rfl ?_
      refine R_rz dX8_take_188 rfl (by decide) ?_
      have e2 := er
      rw [if_pos ⟨c1, c2⟩] at e2
      refine ⟨Or.inl ⟨rfl, _, e2, (uI_ne (by decide)).trans (uI_same _ _ _ _), ?_, fun _ => ?_, fun _ => ?_, ?_, fun _ h => absurd h (by omega), RI_step hI e2⟩, ((Fm.i (by decide) (by decide)).tr (Fm.f (by decide))).tr (Fm.f (by decide))⟩
      · intro s hs
        have hs : s < st.2.2.1 + 1 := hs
        rw [uI_nep (by decide), uI_nep (by decide)]
        show _ = nI (6 * fnU st.2.2.2.1 st.2.2.1 st.2.2.2.2.2 s + fnU st.2.2.2.2.1 st.2.2.1 (fgN x) s)
        unfold fnU
        by_cases hh : s = st.2.2.1
        · rw [if_pos hh, if_pos hh, hh]
          exact uI_same _ _ _ _
        · rw [if_neg hh, if_neg hh, uI_ne hh]
          exact mc s (by omega)
      · rw [uI_ne (by decide), uI_ne (by decide), uI_nep (by decide)]
        exact hR9
      · rw [uI_ne (by decide), uI_ne (by decide), uI_nep (by decide)]
        exact hC9
      · rw [hp1]
        exact uI_same _ _ _ _
    · refine R_iconst (v := nI 0) (q := 153) dX8_take_152 (by decide) rfl ?_
      refine R_rz dX8_take_153 rfl (by decide) ?_
      exact ⟨Or.inr ⟨rfl, by rw [er, if_neg (fun h => c2 h.2)]⟩, Fm.rf⟩
theorem l_rt {len : Nat} {tx : Nat → Int32} {w0 : Wd} (hlen : len ≤ 70) (hl0 : w0.1 [] 1 = nI len) (htx : ∀ i, i < len → w0.1 [0] i = tx i) : ∀ (j k : Nat) (w : Wd) (st : RS), len ≤ k + j → k ≤ len → 1 ≤ k → rdL tx k = some st → RdM w st k → Fm [[22]] KR w0 w → Wq X 1 (d + 3) MX8_readText 32 [(1, vI (nI k)), (0, vR 8 0 [])] [] w (qI fun x w' => RdQ tx len x (fun S => ∃ st, S = rsP st ∧ RdM w' st len) ∧ Fm [[22]] KR w0 w') := by
  have prt0 : ∀ k, 1 ≤ k → (prt k = 0 ↔ k % 3 = 0) := by
    intro k hk
    unfold prt
    by_cases h1 : k = 1
    · rw [if_pos h1]
      omega
    · rw [if_neg h1]
      by_cases h2 : k = 2
      · rw [if_pos h2]
        omega
      · rw [if_neg h2]
        by_cases h3 : k % 3 = 0
        · rw [if_pos h3]
          omega
        · rw [if_neg h3]
          split <;> omega
  have prt5 : ∀ k, prt k < 5 := by
    intro k
    unfold prt
    repeat' split
    all_goals omega
  intro j
  induction j with
  | zero =>
    intro k w st h1 h2 h3 hrd hA hF
    have hl9 : w.1 [] 1 = nI len := by rw [hF.2.2 1 (by decide)]; exact hl0
    refine R_iload_n (i := 1) (q := 33) dX8_readText_32 rfl rfl rfl ?_
    refine R_aload_n (i := 0) (q := 34) dX8_readText_33 rfl rfl rfl ?_
    refine R_getI' (q := 37) dX8_readText_34 fl_X8_65 rfl (hl9) rfl ?_
    refine R_icmp_geN (by omega) (by omega) (tgt := 61) (q := 40) dX8_readText_37 (by decide) rfl (fun c1 => ?_) (fun c1 => ?_)
    · obtain rfl : k = len := by omega
      have hp5 := prt5 k
      refine R_aload_n (i := 0) (q := 62) dX8_readText_61 rfl rfl rfl ?_
      refine R_getI' (q := 65) dX8_readText_62 fl_X8_78 rfl (hA.2.2.2.2.1) rfl ?_
      refine R_if_neN (by omega) (tgt := 73) (q := 68) dX8_readText_65 (by decide) rfl (fun c2 => ?_) (fun c2 => ?_)
      · refine R_aload_n (i := 0) (q := 74) dX8_readText_73 rfl rfl rfl ?_
        refine R_getI' (q := 77) dX8_readText_74 fl_X8_65 rfl (hl9) rfl ?_
        refine R_ri dX8_readText_77 rfl ?_
        exact ⟨Or.inr ⟨st, hrd, Or.inr ⟨fun h => c2 ((prt0 k h3).mpr h.2), rfl⟩⟩, hF⟩
      · refine R_bipush (v := (-9)) (q := 70) dX8_readText_68 (by decide) rfl ?_
        refine R_goto (q := 77) dX8_readText_70 (by decide) ?_
        refine R_ri dX8_readText_77 rfl ?_
        exact ⟨Or.inr ⟨st, hrd, Or.inl ⟨h3, (prt0 k h3).mp c2, rfl, st, rfl, hA⟩⟩, hF⟩
    · omega
  | succ j ih =>
    intro k w st h1 h2 h3 hrd hA hF
    have hl9 : w.1 [] 1 = nI len := by rw [hF.2.2 1 (by decide)]; exact hl0
    refine R_iload_n (i := 1) (q := 33) dX8_readText_32 rfl rfl rfl ?_
    refine R_aload_n (i := 0) (q := 34) dX8_readText_33 rfl rfl rfl ?_
    refine R_getI' (q := 37) dX8_readText_34 fl_X8_65 rfl (hl9) rfl ?_
    refine R_icmp_geN (by omega) (by omega) (tgt := 61) (q := 40) dX8_readText_37 (by decide) rfl (fun c1 => ?_) (fun c1 => ?_)
    · obtain rfl : k = len := by omega
      have hp5 := prt5 k
      refine R_aload_n (i := 0) (q := 62) dX8_readText_61 rfl rfl rfl ?_
      refine R_getI' (q := 65) dX8_readText_62 fl_X8_78 rfl (hA.2.2.2.2.1) rfl ?_
      refine R_if_neN (by omega) (tgt := 73) (q := 68) dX8_readText_65 (by decide) rfl (fun c2 => ?_) (fun c2 => ?_)
      · refine R_aload_n (i := 0) (q := 74) dX8_readText_73 rfl rfl rfl ?_
        refine R_getI' (q := 77) dX8_readText_74 fl_X8_65 rfl (hl9) rfl ?_
        refine R_ri dX8_readText_77 rfl ?_
        exact ⟨Or.inr ⟨st, hrd, Or.inr ⟨fun h => c2 ((prt0 k h3).mpr h.2), rfl⟩⟩, hF⟩
      · refine R_bipush (v := (-9)) (q := 70) dX8_readText_68 (by decide) rfl ?_
        refine R_goto (q := 77) dX8_readText_70 (by decide) ?_
        refine R_ri dX8_readText_77 rfl ?_
        exact ⟨Or.inr ⟨st, hrd, Or.inl ⟨h3, (prt0 k h3).mp c2, rfl, st, rfl, hA⟩⟩, hF⟩
    · have htx9 : w.1 [0] k = tx k := by rw [hF.2.1 [0] (by decide) (by decide)]; exact htx k c1
      refine R_aload_n (i := 0) (q := 41) dX8_readText_40 rfl rfl rfl ?_
      refine R_aload_n (i := 0) (q := 42) dX8_readText_41 rfl rfl rfl ?_
      refine R_getR (q := 45) dX8_readText_42 fl_X8_7 rfl (by decide) rfl ?_
      refine R_iload_n (i := 1) (q := 46) dX8_readText_45 rfl rfl rfl ?_
      refine R_iald' (q := 47) dX8_readText_46 (rfl) (by omega) (by decide) (htx9) rfl ?_
      refine R_cV1i (M' := MX8_take) (q := 50) dX8_readText_47 ml_X8_92 mk_X8_take (Nat.le_of_ble_eq_true rfl) rfl (c_mtake h3 (by omega) hA) ?_
      rintro z w1 ⟨hz, hF1⟩
      have hF2 := hF.tr hF1
      have hnx : rdL tx (k + 1) = rst st k (tx k) := by
        simp only [rdL, hrd]
      rcases hz with ⟨rfl, st', e, hA'⟩ | ⟨rfl, e⟩
      · refine R_if_ne (tgt := 55) (q := 53) dX8_readText_50 (by decide) rfl (fun c4 => ?_) (fun c4 => ?_)
        · first | refine R_iincN (q := 58) (loc' := [(1, _), (0, _)]) dX8_readText_55 (by rfl) (by decide) (by rfl) rfl ?_ | refine R_iinc (q := 58) (loc' := [(1, _), (0, _)]) dX8_readText_55 (by rfl) (by rfl) (by decide) (by rfl) rfl ?_
          refine R_goto (q := 32) dX8_readText_58 (by decide) ?_
          exact ih (k + 1) w1 st' (by omega) (by omega) (by omega) (by rw [hnx, e]) hA' hF2
        · exact absurd c4 (by decide)
      · refine R_if_ne (tgt := 55) (q := 53) dX8_readText_50 (by decide) rfl (fun c4 => ?_) (fun c4 => ?_)
        · exact absurd rfl c4
        · refine R_iload_n (i := 1) (q := 54) dX8_readText_53 rfl rfl rfl ?_
          refine R_ri dX8_readText_54 rfl ?_
          exact ⟨Or.inl ⟨k, c1, ⟨st, hrd⟩, by rw [hnx, e], rfl⟩, hF2⟩
theorem c_readText {len : Nat} {tx : Nat → Int32} (hlen : len ≤ 70) (hl0 : w.1 [] 1 = nI len) (htx : ∀ i, i < len → w.1 [0] i = tx i) : Ct X 1 (d + 3) MX8_readText [vR 8 0 []] w (qI fun x w' => RdQ tx len x (fun S => ∃ st, S = rsP st ∧ RdM w' st len) ∧ Fm [[22]] KR w w') := by
  have hF : Fm [[22]] KR w (uI (uI w [] 21 (nI 0)) [] 23 (nI 1)) := (Fm.f (by decide)).tr (Fm.f (by decide))
  have hl9 : (uI (uI w [] 21 (nI 0)) [] 23 (nI 1)).1 [] 1 = nI len := by rw [hF.2.2 1 (by decide)]; exact hl0
  have r0 : ∀ x, rst rs0 0 x = if x = nI 77 then some rs0 else none := by
    intro x
    unfold rst
    rw [if_pos rfl]
  have r1 : rdL tx 1 = if tx 0 = nI 77 then some rs0 else none := by
    show rst rs0 0 (tx 0) = _
    exact r0 _
  refine Ct.of (by decide) rfl (Nat.le_of_ble_eq_true rfl) ?_
  show Wq _ _ _ _ 0 [(0, _)] [] _ _
  refine R_aload_n (i := 0) (q := 1) dX8_readText_0 rfl rfl rfl ?_
  refine R_iconst (v := nI 0) (q := 2) dX8_readText_1 (by decide) rfl ?_
  refine R_putI (q := 5) dX8_readText_2 fl_X8_68 rfl rfl ?_
  refine R_aload_n (i := 0) (q := 6) dX8_readText_5 rfl rfl rfl ?_
  refine R_iconst (v := nI 1) (q := 7) dX8_readText_6 (by decide) rfl ?_
  refine R_putI (q := 10) dX8_readText_7 fl_X8_78 rfl rfl ?_
  refine R_aload_n (i := 0) (q := 11) dX8_readText_10 rfl rfl rfl ?_
  refine R_getI' (q := 14) dX8_readText_11 fl_X8_65 rfl (hl9) rfl ?_
  refine R_if_eqN (by omega) (tgt := 28) (q := 17) dX8_readText_14 (by decide) rfl (fun c1 => ?_) (fun c1 => ?_)
  · subst c1
    refine R_iconst (v := nI 0) (q := 29) dX8_readText_28 (by decide) rfl ?_
    refine R_ri dX8_readText_29 rfl ?_
    exact ⟨Or.inr ⟨rs0, rfl, Or.inr ⟨fun h => absurd h.1 (by decide), rfl⟩⟩, hF⟩
  · have htx9 : (uI (uI w [] 21 (nI 0)) [] 23 (nI 1)).1 [0] 0 = tx 0 := by rw [hF.2.1 [0] (by decide) (by decide)]; exact htx 0 (by omega)
    refine R_aload_n (i := 0) (q := 18) dX8_readText_17 rfl rfl rfl ?_
    refine R_getR (q := 21) dX8_readText_18 fl_X8_7 rfl (by decide) rfl ?_
    refine R_iconst (v := nI 0) (q := 22) dX8_readText_21 (by decide) rfl ?_
    refine R_iald' (q := 23) dX8_readText_22 (rfl) (by omega) (by decide) (htx9) rfl ?_
    refine R_bipush (v := nI 77) (q := 25) dX8_readText_23 (by decide) rfl ?_
    refine R_icmp_eq (tgt := 30) (q := 28) dX8_readText_25 (by decide) rfl (fun c2 => ?_) (fun c2 => ?_)
    · rw [if_pos c2] at r1
      refine R_iconst (v := nI 1) (q := 31) dX8_readText_30 (by decide) rfl ?_
      refine R_istore_n (i := 1) (q := 32) (loc' := [(1, _), (0, _)]) dX8_readText_31 rfl (by decide) (by rfl) rfl ?_
      refine l_rt hlen hl0 htx len 1 _ rs0 (by omega) (by omega) (by omega) r1 ⟨(uI_ne (by decide)).trans (uI_same _ _ _ _), fun s hs => absurd hs (Nat.not_lt_zero s), fun h => absurd h (by decide), fun h => absurd h (by decide), uI_same _ _ _ _, fun h => absurd h (by decide), RI_step RI_0 (show rst rs0 0 (tx 0) = some rs0 by rw [r0, if_pos c2])⟩ hF
    · rw [if_neg c2] at r1
      refine R_iconst (v := nI 0) (q := 29) dX8_readText_28 (by decide) rfl ?_
      refine R_ri dX8_readText_29 rfl ?_
      exact ⟨Or.inl ⟨0, by omega, ⟨rs0, rfl⟩, r1, rfl⟩, hF⟩
end MR
