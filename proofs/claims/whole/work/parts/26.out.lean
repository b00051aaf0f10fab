/-! what comes out -/
def bitN (m k : Nat) : Nat := m / 2 ^ k % 2
theorem shr_fin : ∀ m, m < 16 → ∀ k, k < 4 → (nI m >>> (nI k &&& 31)) &&& nI 1 = nI (bitN m k) := by decide
theorem bitN_lt (m k : Nat) : bitN m k < 2 := Nat.mod_lt _ (by decide)
/-- of a dot: what comes of its line's halves (a: the rows came, b: the columns) -/
def vl (S : Pic) (a b : Prop) [Decidable a] [Decidable b] (k : Nat) : Nat := if ¬ pdt S k < pN S then 0 else if a ∧ b then pdt S k else if a then gN (pro S) (pro S (pdt S k)) (pN S) else gN (pco S) (pco S (pdt S k)) (pN S)
abbrev rC (lo l : Nat) : Prop := bitN lo l = 0
abbrev cC (sh lo l : Nat) : Prop := bitN lo ((l + 4 - sh) % 4) = 0
def blk (sh lo l : Nat) : Bool := !(decide (rC lo l)) && !(decide (cC sh lo l))
/-- of a dot, if its line isn't blank -/
def vk (S : Pic) (sh lo k : Nat) : Nat := vl S (rC lo (k / 4)) (cC sh lo (k / 4)) k
/-- up: 0, if there is none, else the line and 1 -/
def uv (b : Nat → Bool) : Nat → Nat
  | 0 => 0
  | u + 1 => if b u then uv b u else u + 1
/-- down: 4, if there is none -/
def dv (b : Nat → Bool) : Nat → Nat → Nat
  | 0, k => k
  | f + 1, k => if k < 4 ∧ b k = true then dv b f (k + 1) else k
/-- between two lines -/
def bw (D : Nat → Nat) (u dn j : Nat) : Nat := if u = 0 then (if 4 ≤ dn then 0 else D (dn * 4 + j)) else if 4 ≤ dn then D ((u - 1) * 4 + j) else (D ((u - 1) * 4 + j) + D (dn * 4 + j)) / 2
def outN (S : Pic) (sh lo k : Nat) : Nat := if blk sh lo (k / 4) = true then bw (vk S sh lo) (uv (blk sh lo) (k / 4)) (dv (blk sh lo) 4 (k / 4 + 1)) (k % 4) else vk S sh lo k
def bmN (b : Nat → Bool) : Nat → Nat
  | 0 => 0
  | l + 1 => bmN b l + (if b l then 2 ^ l else 0)
def msN (S : Pic) (sh lo : Nat) : Nat := sm (fun k => sq (outN S sh lo k) (pdt S k)) 16
theorem bmN_lt (b : Nat → Bool) : ∀ l, bmN b l < 2 ^ l
  | 0 => Nat.le_of_ble_eq_true rfl
  | l + 1 => by
    have h := bmN_lt b l
    simp only [bmN, Nat.pow_succ]
    split <;> omega
theorem or_fin : ∀ l, l < 4 → ∀ m, m < 16 → m < 2 ^ l → (nI m ||| (nI 1 <<< (nI l &&& 31))) = nI (m + 2 ^ l) := by decide
theorem bit_bm (b : Nat → Bool) : ∀ l, l < 4 → bitN (bmN b 4) l = if b l then 1 else 0 := by
  intro l hl
  have h : ∀ b0 b1 b2 b3 : Bool, ∀ l, l < 4 → bitN (0 + (if b0 then 2 ^ 0 else 0) + (if b1 then 2 ^ 1 else 0) + (if b2 then 2 ^ 2 else 0) + (if b3 then 2 ^ 3 else 0)) l = if (if l = 0 then b0 else if l = 1 then b1 else if l = 2 then b2 else b3) then 1 else 0 := by decide
  have h2 := h (b 0) (b 1) (b 2) (b 3) l hl
  simp only [bmN]
  rw [h2]
  congr 1
  rcases (show l = 0 ∨ l = 1 ∨ l = 2 ∨ l = 3 by omega) with rfl | rfl | rfl | rfl <;> rfl
theorem vl_le {S : Pic} {a b : Prop} [Decidable a] [Decidable b] {k : Nat} : vl S a b k ≤ pN S := by
  unfold vl
  split
  · exact Nat.zero_le _
  · rename_i h
    have h : pdt S k < pN S := Classical.byContradiction h
    split
    · omega
    · split
      · have := gN_le (cH_pos (f := pro S) h rfl)
        omega
      · have := gN_le (cH_pos (f := pco S) h rfl)
        omega
theorem bw_le {D : Nat → Nat} {m u dn j : Nat} (h : ∀ k, D k ≤ m) : bw D u dn j ≤ m := by
  unfold bw
  have h1 := h ((u - 1) * 4 + j)
  have h2 := h (dn * 4 + j)
  split
  · split
    · exact Nat.zero_le _
    · exact h2
  · split
    · exact h1
    · omega
theorem outN_le {S : Pic} {sh lo k : Nat} : outN S sh lo k ≤ pN S := by
  unfold outN
  split
  · exact bw_le (fun k => vl_le)
  · exact vl_le
theorem uv_le (b : Nat → Bool) : ∀ l, uv b l ≤ l
  | 0 => Nat.le_refl _
  | l + 1 => by
    have := uv_le b l
    simp only [uv]
    split <;> omega
theorem uv_nb (b : Nat → Bool) : ∀ l, uv b l = 0 ∨ (0 < uv b l ∧ b (uv b l - 1) = false)
  | 0 => Or.inl rfl
  | l + 1 => by
    simp only [uv]
    split
    · exact uv_nb b l
    · rename_i h
      exact Or.inr ⟨by omega, by simpa using h⟩
theorem dv_nb (b : Nat → Bool) : ∀ (f k : Nat), 4 ≤ k + f → k ≤ 4 → 4 = dv b f k ∨ (k ≤ dv b f k ∧ dv b f k < 4 ∧ b (dv b f k) = false)
  | 0, k, h1, h2 => Or.inl (by show 4 = k; omega)
  | f + 1, k, h1, h2 => by
    simp only [dv]
    split
    · rename_i h
      rcases dv_nb b f (k + 1) (by omega) (by omega) with h3 | ⟨h3, h4, h5⟩
      · exact Or.inl h3
      · exact Or.inr ⟨by omega, h4, h5⟩
    · rename_i h
      rcases Nat.lt_or_ge k 4 with h3 | h3
      · exact Or.inr ⟨Nat.le_refl _, h3, by
          cases hb : b k
          · rfl
          · exact absurd ⟨h3, hb⟩ h⟩
      · exact Or.inl (by omega)
section OU
variable {X : Cx} {d : Nat} {p : List Nat} {w : Wd}
theorem c_came {lo k : Nat} (hl : lo < 16) (hk : k < 4) : Ct X 0 d MX2_came [vI (nI lo), vI (nI k)] w (qI fun z w' => z = bI (rC lo k) ∧ w' = w) := by
  refine Ct.of (by decide) rfl (Nat.le_of_ble_eq_true rfl) ?_
  show Wq _ _ _ _ 0 [(0, _), (1, _)] [] _ _
  refine R_iload_n (i := 0) (q := 1) dX2_came_0 rfl rfl rfl ?_
  refine R_iload_n (i := 1) (q := 2) dX2_came_1 rfl rfl rfl ?_
  refine R_ishr (q := 3) dX2_came_2 rfl ?_
  refine R_iconst (v := nI 1) (q := 4) dX2_came_3 (by decide) rfl ?_
  refine R_iand (q := 5) dX2_came_4 rfl ?_
  rw [shr_fin lo hl k hk]
  have := bitN_lt lo k
  refine R_if_neN (by omega) (tgt := 12) (q := 8) dX2_came_5 (by decide) rfl (fun c1 => ?_) (fun c1 => ?_)
  · refine R_iconst (v := nI 0) (q := 13) dX2_came_12 (by decide) rfl ?_
    refine R_rz dX2_came_13 rfl (by decide) ?_
    exact ⟨(bI_f c1).symm, rfl⟩
  · refine R_iconst (v := nI 1) (q := 9) dX2_came_8 (by decide) rfl ?_
    refine R_goto (q := 13) dX2_came_9 (by decide) ?_
    refine R_rz dX2_came_13 rfl (by decide) ?_
    exact ⟨(bI_t c1).symm, rfl⟩
theorem c_isBlank {m k : Nat} (hm : w.1 [7] 2 = nI m) (hl : m < 16) (hk : k < 4) : Ct X 0 d MX2_isBlank [vR 2 0 [7], vI (nI k)] w (qI fun z w' => z = bI (bitN m k = 1) ∧ w' = w) := by
  refine Ct.of (by decide) rfl (Nat.le_of_ble_eq_true rfl) ?_
  show Wq _ _ _ _ 0 [(0, _), (1, _)] [] _ _
  refine R_aload_n (i := 0) (q := 1) dX2_isBlank_0 rfl rfl rfl ?_
  refine R_getI' (q := 4) dX2_isBlank_1 fl_X2_37 rfl (hm) rfl ?_
  refine R_iload_n (i := 1) (q := 5) dX2_isBlank_4 rfl rfl rfl ?_
  refine R_ishr (q := 6) dX2_isBlank_5 rfl ?_
  refine R_iconst (v := nI 1) (q := 7) dX2_isBlank_6 (by decide) rfl ?_
  refine R_iand (q := 8) dX2_isBlank_7 rfl ?_
  rw [shr_fin m hl k hk]
  have := bitN_lt m k
  refine R_iconst (v := nI 1) (q := 9) dX2_isBlank_8 (by decide) rfl ?_
  refine R_icmp_neN (by omega) (by omega) (tgt := 16) (q := 12) dX2_isBlank_9 (by decide) rfl (fun c1 => ?_) (fun c1 => ?_)
  · refine R_iconst (v := nI 0) (q := 17) dX2_isBlank_16 (by decide) rfl ?_
    refine R_rz dX2_isBlank_17 rfl (by decide) ?_
    exact ⟨(bI_f c1).symm, rfl⟩
  · refine R_iconst (v := nI 1) (q := 13) dX2_isBlank_12 (by decide) rfl ?_
    refine R_goto (q := 17) dX2_isBlank_13 (by decide) ?_
    refine R_rz dX2_isBlank_17 rfl (by decide) ?_
    exact ⟨(bI_t c1).symm, rfl⟩
theorem l_ofill {S : Pic} {l : Nat} {a b : Prop} [Decidable a] [Decidable b] (hS : StA w p S) (hN : pN S ≤ 20) (hro : ∀ s, s < pN S → pro S s < 6 ∧ pco S s < 6) (hG : GuA w [0, 7] S) (hdt0 : ∀ k, k < 16 → pdt S k < 20) (hl : l < 4) (hp : p = [1] ∨ p = [2]) (hab : a ∨ b) : ∀ (j i : Nat), 4 * l + 4 ≤ i + j → i ≤ 4 * l + 4 → 4 * l ≤ i → Wq X 0 (d + 1) MX2_fill 5 [(5, vI (nI i)), (0, vR 2 0 [7]), (1, vR 5 0 p), (2, vI (nI l)), (3, vI (bI a)), (4, vI (bI b))] [] (uA w [1, 7] (fun k => if 4 * l ≤ k ∧ k < i then nI (vl S a b k) else w.1 [1, 7] k)) (qV fun w' => w' = uA w [1, 7] (fun k => if 4 * l ≤ k ∧ k < 4 * l + 4 then nI (vl S a b k) else w.1 [1, 7] k)) := by
  obtain ⟨hR, hC, hn, hsh, hlo, hr5, hc6, hdt⟩ := id hS
  have hne : ∀ f : Nat → Int32, ∀ q : List Nat, q ≠ [1, 7] → (uA w [1, 7] f).1 q = w.1 q := fun f q h => uA_ne h
  have hp0 : p ≠ [1, 7] := by rcases hp with rfl | rfl <;> decide
  have hp5 : 5 :: p ≠ [1, 7] := by rcases hp with rfl | rfl <;> decide
  have hp6 : 6 :: p ≠ [1, 7] := by rcases hp with rfl | rfl <;> decide
  have hp7 : 7 :: p ≠ [1, 7] := by rcases hp with rfl | rfl <;> decide
  have upd_eq : ∀ (i : Nat), 4 * l ≤ i → uI (uA w [1, 7] (fun k => if 4 * l ≤ k ∧ k < i then nI (vl S a b k) else w.1 [1, 7] k)) [1, 7] i (nI (vl S a b i)) = uA w [1, 7] (fun k => if 4 * l ≤ k ∧ k < i + 1 then nI (vl S a b k) else w.1 [1, 7] k) := by
    intro i hi
    unfold uI uA
    dsimp only
    congr 1
    funext q
    by_cases hq : q = [1, 7]
    · simp only [if_pos hq, if_true]
      funext j
      simp only [upd]
      by_cases hj : j = i
      · rw [if_pos hj, if_pos (by omega), hj]
      · rw [if_neg hj]
        by_cases h3 : 4 * l ≤ j ∧ j < i
        · rw [if_pos h3, if_pos (by omega)]
        · rw [if_neg h3, if_neg (by omega)]
    · simp only [if_neg hq]
  intro j
  induction j with
  | zero =>
    intro i h1 h2 h3
    refine R_iload (q := 7) dX2_fill_5 rfl rfl ?_
    refine R_iload_n (i := 2) (q := 8) dX2_fill_7 rfl rfl rfl ?_
    refine R_iconst (v := nI 1) (q := 9) dX2_fill_8 (by decide) rfl ?_
    first | refine R_iaddN (q := 10) dX2_fill_9 rfl ?_ | refine R_iadd (q := 10) dX2_fill_9 rfl ?_
    refine R_iconst (v := nI 4) (q := 11) dX2_fill_10 (by decide) rfl ?_
    first | refine R_imulN (q := 12) dX2_fill_11 rfl ?_ | refine R_imul (q := 12) dX2_fill_11 rfl ?_
    refine R_icmp_geN (by omega) (by omega) (tgt := 122) (q := 15) dX2_fill_12 (by decide) rfl (fun c1 => ?_) (fun c1 => ?_)
    · refine R_rv dX2_fill_122 rfl ?_
      have : i = 4 * l + 4 := by omega
      rw [this]
    · omega
  | succ j ih =>
    intro i h1 h2 h3
    refine R_iload (q := 7) dX2_fill_5 rfl rfl ?_
    refine R_iload_n (i := 2) (q := 8) dX2_fill_7 rfl rfl rfl ?_
    refine R_iconst (v := nI 1) (q := 9) dX2_fill_8 (by decide) rfl ?_
    first | refine R_iaddN (q := 10) dX2_fill_9 rfl ?_ | refine R_iadd (q := 10) dX2_fill_9 rfl ?_
    refine R_iconst (v := nI 4) (q := 11) dX2_fill_10 (by decide) rfl ?_
    first | refine R_imulN (q := 12) dX2_fill_11 rfl ?_ | refine R_imul (q := 12) dX2_fill_11 rfl ?_
    refine R_icmp_geN (by omega) (by omega) (tgt := 122) (q := 15) dX2_fill_12 (by decide) rfl (fun c1 => ?_) (fun c1 => ?_)
    · refine R_rv dX2_fill_122 rfl ?_
      have : i = 4 * l + 4 := by omega
      rw [this]
    · have hi16 : i < 16 := by omega
      have e7 := hdt i hi16
      have ed := hdt0 i hi16
      refine R_aload_n (i := 1) (q := 16) dX2_fill_15 rfl rfl rfl ?_
      refine R_getR (q := 19) dX2_fill_16 fl_X2_26 rfl (by decide) rfl ?_
      refine R_iload (q := 21) dX2_fill_19 rfl rfl ?_
      refine R_iald' (q := 22) dX2_fill_21 (rfl) (by omega) (by decide) ((congrFun (hne _ _ hp7) i).trans e7) rfl ?_
      refine R_istore (q := 24) (loc' := [(6, _), (5, _), (0, _), (1, _), (2, _), (3, _), (4, _)]) dX2_fill_22 (by decide) (by rfl) rfl ?_
      refine R_aload_n (i := 1) (q := 25) dX2_fill_24 rfl rfl rfl ?_
      refine R_iload (q := 27) dX2_fill_25 rfl rfl ?_
      refine R_cV1i (M' := MX5_hasShade) (q := 30) dX2_fill_27 ml_X2_57 mk_X5_hasShade (Nat.le_of_ble_eq_true rfl) rfl (c_hasShade (n := pN S) ((congrFun (hne _ _ hp0) 2).trans hn)) ?_
      rintro _ w9 ⟨rfl, rfl⟩
      refine R_if_neB (tgt := 44) (q := 33) dX2_fill_30 (by decide) rfl (fun c2 => ?_) (fun c2 => ?_)
      · have hs : pdt S i < pN S := (inN_nI (by omega) (by omega)).mp c2
        have hb := hro _ hs
        have hv : vl S a b i = if a ∧ b then pdt S i else if a then gN (pro S) (pro S (pdt S i)) (pN S) else gN (pco S) (pco S (pdt S i)) (pN S) := by
          unfold vl
          rw [if_neg (fun h => h hs)]
        refine R_iload_n (i := 3) (q := 45) dX2_fill_44 rfl rfl rfl ?_
        refine R_if_eqB (tgt := 65) (q := 48) dX2_fill_45 (by decide) rfl (fun c3 => ?_) (fun c3 => ?_)
        · have hbb : b := hab.resolve_left c3
          refine R_iload_n (i := 3) (q := 66) dX2_fill_65 rfl rfl rfl ?_
          refine R_if_eqB (tgt := 94) (q := 69) dX2_fill_66 (by decide) rfl (fun c5 => ?_) (fun c5 => ?_)
          · refine R_aload_n (i := 0) (q := 95) dX2_fill_94 rfl rfl rfl ?_
            refine R_getR (q := 98) dX2_fill_95 fl_X2_18 rfl (by decide) rfl ?_
            refine R_iload (q := 100) dX2_fill_98 rfl rfl ?_
            refine R_aload_n (i := 0) (q := 101) dX2_fill_100 rfl rfl rfl ?_
            refine R_getR (q := 104) dX2_fill_101 fl_X2_12 rfl (by decide) rfl ?_
            refine R_iconst (v := nI 1) (q := 105) dX2_fill_104 (by decide) rfl ?_
            refine R_aload_n (i := 1) (q := 106) dX2_fill_105 rfl rfl rfl ?_
            refine R_getR (q := 109) dX2_fill_106 fl_X2_67 rfl (by decide) rfl ?_
            refine R_iload (q := 111) dX2_fill_109 rfl rfl ?_
            refine R_iald' (q := 112) dX2_fill_111 (rfl) (by omega) (by decide) ((congrFun (hne _ _ hp6) _).trans (hc6 _ hs)) rfl ?_
            refine R_cV2i (M' := MX1_of) (q := 115) dX2_fill_112 ml_X2_63 mk_X1_of (Nat.le_of_ble_eq_true rfl) rfl (c_of (h := 1) (by decide) hb.2) ?_
            rintro _ w8 ⟨rfl, rfl⟩
            have e9 : (uA w [1, 7] (fun k => if 4 * l ≤ k ∧ k < i then nI (vl S a b k) else w.1 [1, 7] k)).1 [2, 0, 7] (1 * 6 + pco S (pdt S i)) = nI (vl S a b i) := by
              rw [uA_ne (by decide), hv, if_neg (fun h => c3 h.1), if_neg c3]
              exact (hG.2 _ hb.2).trans (gI_eq (cH_pos hs rfl))
            rw [e9]
            refine R_iast (q := 116) dX2_fill_115 (rfl) (by omega) (by decide) rfl ?_
            first | refine R_iincN (q := 119) (loc' := [(5, _), (6, _), (0, _), (1, _), (2, _), (3, _), (4, _)]) dX2_fill_116 (by rfl) (by decide) (by rfl) rfl ?_ | refine R_iinc (q := 119) (loc' := [(5, _), (6, _), (0, _), (1, _), (2, _), (3, _), (4, _)]) dX2_fill_116 (by rfl) (by rfl) (by decide) (by rfl) rfl ?_
            refine R_goto (q := 5) dX2_fill_119 (by decide) ?_
            rw [upd_eq i h3]
            refine R_loc [0, 2, 3, 4, 5, 6] (loc' := [(5, _), (0, _), (1, _), (2, _), (3, _), (4, _)]) (by rfl) ?_
            exact ih (i + 1) (by omega) (by omega) (by omega)
          · exact absurd c5 c3
        · refine R_iload (q := 50) dX2_fill_48 rfl rfl ?_
          refine R_if_eqB (tgt := 65) (q := 53) dX2_fill_50 (by decide) rfl (fun c4 => ?_) (fun c4 => ?_)
          · refine R_iload_n (i := 3) (q := 66) dX2_fill_65 rfl rfl rfl ?_
            refine R_if_eqB (tgt := 94) (q := 69) dX2_fill_66 (by decide) rfl (fun c5 => ?_) (fun c5 => ?_)
            · exact absurd c3 c5
            · refine R_aload_n (i := 0) (q := 70) dX2_fill_69 rfl rfl rfl ?_
              refine R_getR (q := 73) dX2_fill_70 fl_X2_18 rfl (by decide) rfl ?_
              refine R_iload (q := 75) dX2_fill_73 rfl rfl ?_
              refine R_aload_n (i := 0) (q := 76) dX2_fill_75 rfl rfl rfl ?_
              refine R_getR (q := 79) dX2_fill_76 fl_X2_12 rfl (by decide) rfl ?_
              refine R_iconst (v := nI 0) (q := 80) dX2_fill_79 (by decide) rfl ?_
              refine R_aload_n (i := 1) (q := 81) dX2_fill_80 rfl rfl rfl ?_
              refine R_getR (q := 84) dX2_fill_81 fl_X2_60 rfl (by decide) rfl ?_
              refine R_iload (q := 86) dX2_fill_84 rfl rfl ?_
              refine R_iald' (q := 87) dX2_fill_86 (rfl) (by omega) (by decide) ((congrFun (hne _ _ hp5) _).trans (hr5 _ hs)) rfl ?_
              refine R_cV2i (M' := MX1_of) (q := 90) dX2_fill_87 ml_X2_63 mk_X1_of (Nat.le_of_ble_eq_true rfl) rfl (c_of (h := 0) (by decide) hb.1) ?_
              rintro _ w8 ⟨rfl, rfl⟩
              have e9 : (uA w [1, 7] (fun k => if 4 * l ≤ k ∧ k < i then nI (vl S a b k) else w.1 [1, 7] k)).1 [2, 0, 7] (0 * 6 + pro S (pdt S i)) = nI (vl S a b i) := by
                rw [uA_ne (by decide), hv, if_neg (fun h => c4 h.2), if_pos c3, Nat.zero_mul, Nat.zero_add]
                exact (hG.1 _ hb.1).trans (gI_eq (cH_pos hs rfl))
              rw [e9]
              refine R_iast (q := 91) dX2_fill_90 (rfl) (by omega) (by decide) rfl ?_
              refine R_goto (q := 116) dX2_fill_91 (by decide) ?_
              first | refine R_iincN (q := 119) (loc' := [(5, _), (6, _), (0, _), (1, _), (2, _), (3, _), (4, _)]) dX2_fill_116 (by rfl) (by decide) (by rfl) rfl ?_ | refine R_iinc (q := 119) (loc' := [(5, _), (6, _), (0, _), (1, _), (2, _), (3, _), (4, _)]) dX2_fill_116 (by rfl) (by rfl) (by decide) (by rfl) rfl ?_
              refine R_goto (q := 5) dX2_fill_119 (by decide) ?_
              rw [upd_eq i h3]
              refine R_loc [0, 2, 3, 4, 5, 6] (loc' := [(5, _), (0, _), (1, _), (2, _), (3, _), (4, _)]) (by rfl) ?_
              exact ih (i + 1) (by omega) (by omega) (by omega)
          · refine R_aload_n (i := 0) (q := 54) dX2_fill_53 rfl rfl rfl ?_
            refine R_getR (q := 57) dX2_fill_54 fl_X2_18 rfl (by decide) rfl ?_
            refine R_iload (q := 59) dX2_fill_57 rfl rfl ?_
            refine R_iload (q := 61) dX2_fill_59 rfl rfl ?_
            refine R_iast (q := 62) dX2_fill_61 (rfl) (by omega) (by decide) rfl ?_
            refine R_goto (q := 116) dX2_fill_62 (by decide) ?_
            first | refine R_iincN (q := 119) (loc' := [(5, _), (6, _), (0, _), (1, _), (2, _), (3, _), (4, _)]) dX2_fill_116 (by rfl) (by decide) (by rfl) rfl ?_ | refine R_iinc (q := 119) (loc' := [(5, _), (6, _), (0, _), (1, _), (2, _), (3, _), (4, _)]) dX2_fill_116 (by rfl) (by rfl) (by decide) (by rfl) rfl ?_
            refine R_goto (q := 5) dX2_fill_119 (by decide) ?_
            have e9 : nI (pdt S i) = nI (vl S a b i) := by rw [hv, if_pos ⟨c3, c4⟩]
            rw [e9, upd_eq i h3]
            refine R_loc [0, 2, 3, 4, 5, 6] (loc' := [(5, _), (0, _), (1, _), (2, _), (3, _), (4, _)]) (by rfl) ?_
            exact ih (i + 1) (by omega) (by omega) (by omega)
      · refine R_aload_n (i := 0) (q := 34) dX2_fill_33 rfl rfl rfl ?_
        refine R_getR (q := 37) dX2_fill_34 fl_X2_18 rfl (by decide) rfl ?_
        refine R_iload (q := 39) dX2_fill_37 rfl rfl ?_
        refine R_iconst (v := nI 0) (q := 40) dX2_fill_39 (by decide) rfl ?_
        refine R_iast (q := 41) dX2_fill_40 (rfl) (by omega) (by decide) rfl ?_
        refine R_goto (q := 116) dX2_fill_41 (by decide) ?_
        first | refine R_iincN (q := 119) (loc' := [(5, _), (6, _), (0, _), (1, _), (2, _), (3, _), (4, _)]) dX2_fill_116 (by rfl) (by decide) (by rfl) rfl ?_ | refine R_iinc (q := 119) (loc' := [(5, _), (6, _), (0, _), (1, _), (2, _), (3, _), (4, _)]) dX2_fill_116 (by rfl) (by rfl) (by decide) (by rfl) rfl ?_
        refine R_goto (q := 5) dX2_fill_119 (by decide) ?_
        have e9 : nI 0 = nI (vl S a b i) := by
          unfold vl
          rw [if_pos (fun h => c2 ((inN_nI (by omega) (by omega)).mpr h))]
        rw [e9, upd_eq i h3]
        refine R_loc [0, 2, 3, 4, 5, 6] (loc' := [(5, _), (0, _), (1, _), (2, _), (3, _), (4, _)]) (by rfl) ?_
        exact ih (i + 1) (by omega) (by omega) (by omega)
theorem uA_id (w : Wd) (q : List Nat) (f : Nat → Int32) (h : ∀ k, f k = w.1 q k) : uA w q f = w := by
  have hf : f = w.1 q := funext h
  subst hf
  unfold uA
  have : (fun z => if z = q then w.1 q else w.1 z) = w.1 := by
    funext z
    by_cases hz : z = q
    · rw [if_pos hz, hz]
    · rw [if_neg hz]
  rw [this]
theorem c_ofill {S : Pic} {l : Nat} {a b : Prop} [Decidable a] [Decidable b] (hS : StA w p S) (hN : pN S ≤ 20) (hro : ∀ s, s < pN S → pro S s < 6 ∧ pco S s < 6) (hG : GuA w [0, 7] S) (hdt0 : ∀ k, k < 16 → pdt S k < 20) (hl : l < 4) (hp : p = [1] ∨ p = [2]) (hab : a ∨ b) : Ct X 0 (d + 1) MX2_fill [vR 2 0 [7], vR 5 0 p, vI (nI l), vI (bI a), vI (bI b)] w (qV fun w' => w' = uA w [1, 7] (fun k => if 4 * l ≤ k ∧ k < 4 * l + 4 then nI (vl S a b k) else w.1 [1, 7] k)) := by
  refine Ct.of (by decide) rfl (Nat.le_of_ble_eq_true rfl) ?_
  show Wq _ _ _ _ 0 [(0, _), (1, _), (2, _), (3, _), (4, _)] [] _ _
  refine R_iload_n (i := 2) (q := 1) dX2_fill_0 rfl rfl rfl ?_
  refine R_iconst (v := nI 4) (q := 2) dX2_fill_1 (by decide) rfl ?_
  first | refine R_imulN (q := 3) dX2_fill_2 rfl ?_ | refine R_imul (q := 3) dX2_fill_2 rfl ?_
  refine R_istore (q := 5) (loc' := [(5, _), (0, _), (1, _), (2, _), (3, _), (4, _)]) dX2_fill_3 (by decide) (by rfl) rfl ?_
  have h := l_ofill (X := X) (d := d) hS hN hro hG hdt0 hl hp hab 4 (4 * l) (by omega) (by omega) (by omega)
  rw [uA_id w [1, 7] (fun k => if 4 * l ≤ k ∧ k < 4 * l then nI (vl S a b k) else w.1 [1, 7] k) (fun k => if_neg (by omega))] at h
  rw [Nat.mul_comm] at h
  rw [Nat.mul_comm l 4]
  rw [Nat.mul_comm l 4] at h
  exact h
end OU
