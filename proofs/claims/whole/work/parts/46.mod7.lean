theorem OKr.step {T T' : Pic} {c a v : Nat} (h : OKr T) (e : jd T c a v = some T') : OKr T' ∧ pN T' = pN T := by
  unfold jd at e
  repeat' split at e
  all_goals first
    | (cases e; done)
    | (rename_i g; cases e; exact ⟨⟨h.1, h.2.1, (xor_fin _ h.2.2.1 _ g.2).2, h.2.2.2⟩, rfl⟩)
    | (rename_i g; cases e; exact ⟨⟨h.1, g.2, h.2.2⟩, rfl⟩)
    | (cases e; exact ⟨h, rfl⟩)
    | (rename_i g; cases e; exact ⟨⟨h.1.sw g.1 g.2.1, h.2.1, h.2.2⟩, rfl⟩)
abbrev F3 : List (List Nat) := [[6], [16], [17]]
section MH
variable {X : Cx} {d : Nat} {w : Wd} {A : Ab}
theorem c_judged {T : Pic} {c a v : Nat} (hn : w.1 [] 4 = nI (pN T)) (hT : RowA w [6] T) (hr : OKr T) (hc : c < 10) (ha : a < 10) (hv : v < 10) : Ct X 1 (d + 5) MX8_judged [vR 8 0 [], vI (nI c), vI (nI a), vI (nI v)] w (qI fun z w' => ((z = 1 ∧ ∃ T', jd T c a v = some T' ∧ RowA w' [6] T') ∨ (z = 0 ∧ jd T c a v = none)) ∧ Fr F3 w w') := by
  have hN := hr.1.1
  refine Ct.of (by decide) rfl (Nat.le_of_ble_eq_true rfl) ?_
  show Wq _ _ _ _ 0 [(0, _), (1, _), (2, _), (3, _)] [] _ _
  refine R_iload_n (i := 1) (q := 1) dX8_judged_0 rfl rfl rfl ?_
  by_cases hin : 1 ≤ c ∧ c ≤ 6
  · rcases (show c = 1 ∨ c = 2 ∨ c = 3 ∨ c = 4 ∨ c = 5 ∨ c = 6 by omega) with rfl | rfl | rfl | rfl | rfl | rfl
    · have e : jd T 1 a v = if a = 0 ∧ v < 4 then some (loP T v) else none := by
        unfold jd
        rw [if_pos rfl]
      rw [e]
      refine R_tableIn (q := 40) dX8_judged_1 (by decide) (by decide) (by rfl) (by decide) ?_
      refine R_iload_n (i := 2) (q := 41) dX8_judged_40 rfl rfl rfl ?_
      refine R_if_neN (by omega) (tgt := 51) (q := 44) dX8_judged_41 (by decide) rfl (fun c1 => ?_) (fun c1 => ?_)
      · refine R_iconst (v := nI 0) (q := 52) dX8_judged_51 (by decide) rfl ?_
        refine R_rz dX8_judged_52 rfl (by decide) ?_
        exact ⟨Or.inr ⟨rfl, if_neg (fun h => c1 h.1)⟩, Fr.rf⟩
      · refine R_iload_n (i := 3) (q := 45) dX8_judged_44 rfl rfl rfl ?_
        refine R_cS1i (M' := MX8_isFour) (q := 48) dX8_judged_45 ml_X8_177 mk_X8_isFour (Nat.le_of_ble_eq_true rfl) rfl (c_isFour) ?_
        rintro _ w ⟨rfl, rfl⟩
        refine R_if_neB (tgt := 53) (q := 51) dX8_judged_48 (by decide) rfl (fun c2 => ?_) (fun c2 => ?_)
        · have hv4 := (inN_nI (by omega) (by decide)).mp c2
          refine R_aload_n (i := 0) (q := 54) dX8_judged_53 rfl rfl rfl ?_
          refine R_getR (q := 57) dX8_judged_54 fl_X8_16 rfl (by decide) rfl ?_
          refine R_bipush (v := nI 37) (q := 59) dX8_judged_57 (by decide) rfl ?_
          refine R_dup2 (q := 60) dX8_judged_59 rfl rfl rfl ?_
          refine R_iald' (q := 61) dX8_judged_60 (rfl) (by omega) (by decide) (hT.2.2.2) rfl ?_
          refine R_iconst (v := nI 1) (q := 62) dX8_judged_61 (by decide) rfl ?_
          refine R_iload_n (i := 3) (q := 63) dX8_judged_62 rfl rfl rfl ?_
          refine R_ishl (q := 64) dX8_judged_63 rfl ?_
          refine R_ixor (q := 65) dX8_judged_64 rfl ?_
          rw [(xor_fin _ hr.2.2.1 v hv4).1]
          refine R_iast (q := 66) dX8_judged_65 (rfl) (by omega) (by decide) rfl ?_
          refine R_iconst (v := nI 1) (q := 67) dX8_judged_66 (by decide) rfl ?_
          refine R_rz dX8_judged_67 rfl (by decide) ?_
          exact ⟨Or.inl ⟨rfl, _, if_pos ⟨c1, hv4⟩, RowA_lo hN hT⟩, Fr.i (by decide)⟩
        · refine R_iconst (v := nI 0) (q := 52) dX8_judged_51 (by decide) rfl ?_
          refine R_rz dX8_judged_52 rfl (by decide) ?_
          exact ⟨Or.inr ⟨rfl, if_neg (fun h => c2 ((inN_nI (by omega) (by decide)).mpr h.2))⟩, Fr.rf⟩
    · have e : jd T 2 a v = if a = 0 ∧ v < 4 then some (shP T v) else none := by
        unfold jd
        rw [if_neg (by decide), if_pos rfl]
      rw [e]
      refine R_tableIn (q := 68) dX8_judged_1 (by decide) (by decide) (by rfl) (by decide) ?_
      refine R_iload_n (i := 2) (q := 69) dX8_judged_68 rfl rfl rfl ?_
      refine R_if_neN (by omega) (tgt := 79) (q := 72) dX8_judged_69 (by decide) rfl (fun c1 => ?_) (fun c1 => ?_)
      · refine R_iconst (v := nI 0) (q := 80) dX8_judged_79 (by decide) rfl ?_
        refine R_rz dX8_judged_80 rfl (by decide) ?_
        exact ⟨Or.inr ⟨rfl, if_neg (fun h => c1 h.1)⟩, Fr.rf⟩
      · refine R_iload_n (i := 3) (q := 73) dX8_judged_72 rfl rfl rfl ?_
        refine R_cS1i (M' := MX8_isFour) (q := 76) dX8_judged_73 ml_X8_177 mk_X8_isFour (Nat.le_of_ble_eq_true rfl) rfl (c_isFour) ?_
        rintro _ w ⟨rfl, rfl⟩
        refine R_if_neB (tgt := 81) (q := 79) dX8_judged_76 (by decide) rfl (fun c2 => ?_) (fun c2 => ?_)
        · have hv4 := (inN_nI (by omega) (by decide)).mp c2
          refine R_aload_n (i := 0) (q := 82) dX8_judged_81 rfl rfl rfl ?_
          refine R_getR (q := 85) dX8_judged_82 fl_X8_16 rfl (by decide) rfl ?_
          refine R_bipush (v := nI 36) (q := 87) dX8_judged_85 (by decide) rfl ?_
          refine R_iload_n (i := 3) (q := 88) dX8_judged_87 rfl rfl rfl ?_
          refine R_iast (q := 89) dX8_judged_88 (rfl) (by omega) (by decide) rfl ?_
          refine R_iconst (v := nI 1) (q := 90) dX8_judged_89 (by decide) rfl ?_
          refine R_rz dX8_judged_90 rfl (by decide) ?_
          exact ⟨Or.inl ⟨rfl, _, if_pos ⟨c1, hv4⟩, RowA_sh hN hT⟩, Fr.i (by decide)⟩
        · refine R_iconst (v := nI 0) (q := 80) dX8_judged_79 (by decide) rfl ?_
          refine R_rz dX8_judged_80 rfl (by decide) ?_
          exact ⟨Or.inr ⟨rfl, if_neg (fun h => c2 ((inN_nI (by omega) (by decide)).mpr h.2))⟩, Fr.rf⟩
    · have e : jd T 3 a v = if (a < 4 ∧ v < 4) ∧ outN T (pH T) (pL T) (4 * a + v) = pdt T (4 * a + v) then some T else none := by
        unfold jd
        rw [if_neg (by decide), if_neg (by decide), if_pos rfl, show a * 4 + v = 4 * a + v by omega]
      rw [e]
      refine R_tableIn (q := 91) dX8_judged_1 (by decide) (by decide) (by rfl) (by decide) ?_
      refine R_iload_n (i := 2) (q := 92) dX8_judged_91 rfl rfl rfl ?_
      refine R_cS1i (M' := MX8_isFour) (q := 95) dX8_judged_92 ml_X8_177 mk_X8_isFour (Nat.le_of_ble_eq_true rfl) rfl (c_isFour) ?_
      rintro _ w ⟨rfl, rfl⟩
      refine R_if_eqB (tgt := 105) (q := 98) dX8_judged_95 (by decide) rfl (fun c1 => ?_) (fun c1 => ?_)
      · refine R_iconst (v := nI 0) (q := 106) dX8_judged_105 (by decide) rfl ?_
        refine R_rz dX8_judged_106 rfl (by decide) ?_
        exact ⟨Or.inr ⟨rfl, if_neg (fun h => c1 ((inN_nI (by omega) (by decide)).mpr h.1.1))⟩, Fr.rf⟩
      · have ha4 := (inN_nI (by omega) (by decide)).mp c1
        refine R_iload_n (i := 3) (q := 99) dX8_judged_98 rfl rfl rfl ?_
        refine R_cS1i (M' := MX8_isFour) (q := 102) dX8_judged_99 ml_X8_177 mk_X8_isFour (Nat.le_of_ble_eq_true rfl) rfl (c_isFour) ?_
        rintro _ w ⟨rfl, rfl⟩
        refine R_if_neB (tgt := 107) (q := 105) dX8_judged_102 (by decide) rfl (fun c2 => ?_) (fun c2 => ?_)
        · have hv4 := (inN_nI (by omega) (by decide)).mp c2
          refine R_aload_n (i := 0) (q := 108) dX8_judged_107 rfl rfl rfl ?_
          refine R_aload_n (i := 0) (q := 109) dX8_judged_108 rfl rfl rfl ?_
          refine R_getR (q := 112) dX8_judged_109 fl_X8_16 rfl (by decide) rfl ?_
          refine R_aload_n (i := 0) (q := 113) dX8_judged_112 rfl rfl rfl ?_
          refine R_getR (q := 116) dX8_judged_113 fl_X8_16 rfl (by decide) rfl ?_
          refine R_bipush (v := nI 37) (q := 118) dX8_judged_116 (by decide) rfl ?_
          refine R_iald' (q := 119) dX8_judged_118 (rfl) (by omega) (by decide) (hT.2.2.2) rfl ?_
          refine R_cV2v (M' := MX8_layOut) (q := 122) dX8_judged_119 ml_X8_126 mk_X8_layOut (Nat.le_of_ble_eq_true rfl) rfl (c_layOut hn hr hT (Or.inr rfl) hr.2.2.1) ?_
          rintro w1 ⟨hL1, hF1⟩
          have hT1 := hT.fr hF1 (by decide)
          have hol := outN_le (S := T) (sh := pH T) (lo := pL T) (k := 4 * a + v)
          have hpd := hr.1.2.2 (4 * a + v) (by omega)
          refine R_aload_n (i := 0) (q := 123) dX8_judged_122 rfl rfl rfl ?_
          refine R_getR (q := 126) dX8_judged_123 fl_X8_35 rfl (by decide) rfl ?_
          refine R_iconst (v := nI 4) (q := 127) dX8_judged_126 (by decide) rfl ?_
          refine R_iload_n (i := 2) (q := 128) dX8_judged_127 rfl rfl rfl ?_
          first | refine R_imulN (q := 129) dX8_judged_128 rfl ?_ | refine R_imul (q := 129) dX8_judged_128 rfl ?_
          refine R_iload_n (i := 3) (q := 130) dX8_judged_129 rfl rfl rfl ?_
          first | refine R_iaddN (q := 131) dX8_judged_130 rfl ?_ | refine R_iadd (q := 131) dX8_judged_130 rfl ?_
          refine R_iald' (q := 132) dX8_judged_131 (rfl) (by omega) (by decide) (hL1.2 (4 * a + v) (by omega)) rfl ?_
          refine R_aload_n (i := 0) (q := 133) dX8_judged_132 rfl rfl rfl ?_
          refine R_getR (q := 136) dX8_judged_133 fl_X8_16 rfl (by decide) rfl ?_
          refine R_bipush (v := nI 20) (q := 138) dX8_judged_136 (by decide) rfl ?_
          refine R_iconst (v := nI 4) (q := 139) dX8_judged_138 (by decide) rfl ?_
          refine R_iload_n (i := 2) (q := 140) dX8_judged_139 rfl rfl rfl ?_
          first | refine R_imulN (q := 141) dX8_judged_140 rfl ?_ | refine R_imul (q := 141) dX8_judged_140 rfl ?_
          first | refine R_iaddN (q := 142) dX8_judged_141 rfl ?_ | refine R_iadd (q := 142) dX8_judged_141 rfl ?_
          refine R_iload_n (i := 3) (q := 143) dX8_judged_142 rfl rfl rfl ?_
          first | refine R_iaddN (q := 144) dX8_judged_143 rfl ?_ | refine R_iadd (q := 144) dX8_judged_143 rfl ?_
          refine R_iald' (q := 145) dX8_judged_144 (congrArg nI (show 20 + 4 * a + v = 20 + (4 * a + v) by omega)) (by omega) (by decide) (hT1.2.1 (4 * a + v) (by omega)) rfl ?_
          refine R_icmp_neN (by omega) (by omega) (tgt := 152) (q := 148) dX8_judged_145 (by decide) rfl (fun c3 => ?_) (fun c3 => ?_)
          · refine R_iconst (v := nI 0) (q := 153) dX8_judged_152 (by decide) rfl ?_
            refine R_rz dX8_judged_153 rfl (by decide) ?_
            exact ⟨Or.inr ⟨rfl, if_neg (fun h => c3 h.2)⟩, hF1.up (by decide)⟩
          · refine R_iconst (v := nI 1) (q := 149) dX8_judged_148 (by decide) rfl ?_
            refine R_goto (q := 153) dX8_judged_149 (by decide) ?_
            refine R_rz dX8_judged_153 rfl (by decide) ?_
            exact ⟨Or.inl ⟨rfl, _, if_pos ⟨⟨ha4, hv4⟩, c3⟩, hT1⟩, hF1.up (by decide)⟩
        · refine R_iconst (v := nI 0) (q := 106) dX8_judged_105 (by decide) rfl ?_
          refine R_rz dX8_judged_106 rfl (by decide) ?_
          exact ⟨Or.inr ⟨rfl, if_neg (fun h => c2 ((inN_nI (by omega) (by decide)).mpr h.1.2))⟩, Fr.rf⟩
    · have e : jd T 4 a v = if a = 0 ∧ v < 4 ∧ blk (pH T) (pL T) v = true then some T else none := by
        unfold jd
        rw [if_neg (by decide), if_neg (by decide), if_neg (by decide), if_pos rfl]
      rw [e]
      refine R_tableIn (q := 154) dX8_judged_1 (by decide) (by decide) (by rfl) (by decide) ?_
      refine R_iload_n (i := 2) (q := 155) dX8_judged_154 rfl rfl rfl ?_
      refine R_if_neN (by omega) (tgt := 165) (q := 158) dX8_judged_155 (by decide) rfl (fun c1 => ?_) (fun c1 => ?_)
      · refine R_iconst (v := nI 0) (q := 166) dX8_judged_165 (by decide) rfl ?_
        refine R_rz dX8_judged_166 rfl (by decide) ?_
        exact ⟨Or.inr ⟨rfl, if_neg (fun h => c1 h.1)⟩, Fr.rf⟩
      · refine R_iload_n (i := 3) (q := 159) dX8_judged_158 rfl rfl rfl ?_
        refine R_cS1i (M' := MX8_isFour) (q := 162) dX8_judged_159 ml_X8_177 mk_X8_isFour (Nat.le_of_ble_eq_true rfl) rfl (c_isFour) ?_
        rintro _ w ⟨rfl, rfl⟩
        refine R_if_neB (tgt := 167) (q := 165) dX8_judged_162 (by decide) rfl (fun c2 => ?_) (fun c2 => ?_)
        · have hv4 := (inN_nI (by omega) (by decide)).mp c2
          refine R_aload_n (i := 0) (q := 168) dX8_judged_167 rfl rfl rfl ?_
          refine R_aload_n (i := 0) (q := 169) dX8_judged_168 rfl rfl rfl ?_
          refine R_getR (q := 172) dX8_judged_169 fl_X8_16 rfl (by decide) rfl ?_
          refine R_aload_n (i := 0) (q := 173) dX8_judged_172 rfl rfl rfl ?_
          refine R_getR (q := 176) dX8_judged_173 fl_X8_16 rfl (by decide) rfl ?_
          refine R_bipush (v := nI 37) (q := 178) dX8_judged_176 (by decide) rfl ?_
          refine R_iald' (q := 179) dX8_judged_178 (rfl) (by omega) (by decide) (hT.2.2.2) rfl ?_
          refine R_cV2v (M' := MX8_layOut) (q := 182) dX8_judged_179 ml_X8_126 mk_X8_layOut (Nat.le_of_ble_eq_true rfl) rfl (c_layOut hn hr hT (Or.inr rfl) hr.2.2.1) ?_
          rintro w1 ⟨hL1, hF1⟩
          have hT1 := hT.fr hF1 (by decide)
          refine R_aload_n (i := 0) (q := 183) dX8_judged_182 rfl rfl rfl ?_
          refine R_getR (q := 186) dX8_judged_183 fl_X8_38 rfl (by decide) rfl ?_
          refine R_iload_n (i := 3) (q := 187) dX8_judged_186 rfl rfl rfl ?_
          refine R_zald' (q := 188) dX8_judged_187 (rfl) (by omega) (by decide) (hL1.1 v hv4) rfl ?_
          refine R_rz dX8_judged_188 rfl (bI_b _) ?_
          by_cases hb : blk (pH T) (pL T) v = true
          · exact ⟨Or.inl ⟨bI_t hb, _, if_pos ⟨c1, hv4, hb⟩, hT1⟩, hF1.up (by decide)⟩
          · exact ⟨Or.inr ⟨bI_f hb, if_neg (fun h => hb h.2.2)⟩, hF1.up (by decide)⟩
        · refine R_iconst (v := nI 0) (q := 166) dX8_judged_165 (by decide) rfl ?_
          refine R_rz dX8_judged_166 rfl (by decide) ?_
          exact ⟨Or.inr ⟨rfl, if_neg (fun h => c2 ((inN_nI (by omega) (by decide)).mpr h.2.1))⟩, Fr.rf⟩
    · have e : jd T 5 a v = if a < pN T ∧ v < pN T ∧ a ≠ v then some (swP T a v) else none := by
        unfold jd
        rw [if_neg (by decide), if_neg (by decide), if_neg (by decide), if_neg (by decide), if_pos rfl]
      rw [e]
      refine R_tableIn (q := 189) dX8_judged_1 (by decide) (by decide) (by rfl) (by decide) ?_
      refine R_aload_n (i := 0) (q := 190) dX8_judged_189 rfl rfl rfl ?_
      refine R_iload_n (i := 2) (q := 191) dX8_judged_190 rfl rfl rfl ?_
      refine R_cV1i (M' := MX8_isShade) (q := 194) dX8_judged_191 ml_X8_164 mk_X8_isShade (Nat.le_of_ble_eq_true rfl) rfl (c_isShade hn hN) ?_
      rintro _ w ⟨rfl, rfl⟩
      refine R_if_eqB (tgt := 210) (q := 197) dX8_judged_194 (by decide) rfl (fun c1 => ?_) (fun c1 => ?_)
      · refine R_iconst (v := nI 0) (q := 211) dX8_judged_210 (by decide) rfl ?_
        refine R_rz dX8_judged_211 rfl (by decide) ?_
        exact ⟨Or.inr ⟨rfl, if_neg (fun h => c1 ((inN_nI (by omega) (by omega)).mpr h.1))⟩, Fr.rf⟩
      · have ha2 := (inN_nI (by omega) (by omega)).mp c1
        refine R_aload_n (i := 0) (q := 198) dX8_judged_197 rfl rfl rfl ?_
        refine R_iload_n (i := 3) (q := 199) dX8_judged_198 rfl rfl rfl ?_
        refine R_cV1i (M' := MX8_isShade) (q := 202) dX8_judged_199 ml_X8_164 mk_X8_isShade (Nat.le_of_ble_eq_true rfl) rfl (c_isShade hn hN) ?_
        rintro _ w ⟨rfl, rfl⟩
        refine R_if_eqB (tgt := 210) (q := 205) dX8_judged_202 (by decide) rfl (fun c2 => ?_) (fun c2 => ?_)
        · refine R_iconst (v := nI 0) (q := 211) dX8_judged_210 (by decide) rfl ?_
          refine R_rz dX8_judged_211 rfl (by decide) ?_
          exact ⟨Or.inr ⟨rfl, if_neg (fun h => c2 ((inN_nI (by omega) (by omega)).mpr h.2.1))⟩, Fr.rf⟩
        · have hv2 := (inN_nI (by omega) (by omega)).mp c2
          refine R_iload_n (i := 2) (q := 206) dX8_judged_205 rfl rfl rfl ?_
          refine R_iload_n (i := 3) (q := 207) dX8_judged_206 rfl rfl rfl ?_
          refine R_icmp_neN (by omega) (by omega) (tgt := 212) (q := 210) dX8_judged_207 (by decide) rfl (fun c3 => ?_) (fun c3 => ?_)
          · refine R_aload_n (i := 0) (q := 213) dX8_judged_212 rfl rfl rfl ?_
            refine R_getR (q := 216) dX8_judged_213 fl_X8_16 rfl (by decide) rfl ?_
            refine R_iload_n (i := 2) (q := 217) dX8_judged_216 rfl rfl rfl ?_
            refine R_iload_n (i := 3) (q := 218) dX8_judged_217 rfl rfl rfl ?_
            refine R_cS3v (M' := MX8_changeOn) (q := 221) dX8_judged_218 ml_X8_138 mk_X8_changeOn (Nat.le_of_ble_eq_true rfl) rfl (c_changeOn hN ha2 hv2 hT) ?_
            rintro w1 ⟨hS1, hF1⟩
            refine R_iconst (v := nI 1) (q := 222) dX8_judged_221 (by decide) rfl ?_
            refine R_rz dX8_judged_222 rfl (by decide) ?_
            exact ⟨Or.inl ⟨rfl, _, if_pos ⟨ha2, hv2, c3⟩, hS1⟩, hF1.up (by decide)⟩
          · refine R_iconst (v := nI 0) (q := 211) dX8_judged_210 (by decide) rfl ?_
            refine R_rz dX8_judged_211 rfl (by decide) ?_
            exact ⟨Or.inr ⟨rfl, if_neg (fun h => h.2.2 c3)⟩, Fr.rf⟩
    · have e : jd T 6 a v = if msN T (pH T) (pL T) ≤ 10 * a + v then some T else none := by
        unfold jd
        rw [if_neg (by decide), if_neg (by decide), if_neg (by decide), if_neg (by decide), if_neg (by decide), if_pos rfl]
      rw [e]
      refine R_tableIn (q := 223) dX8_judged_1 (by decide) (by decide) (by rfl) (by decide) ?_
      refine R_aload_n (i := 0) (q := 224) dX8_judged_223 rfl rfl rfl ?_
      refine R_aload_n (i := 0) (q := 225) dX8_judged_224 rfl rfl rfl ?_
      refine R_getR (q := 228) dX8_judged_225 fl_X8_16 rfl (by decide) rfl ?_
      refine R_aload_n (i := 0) (q := 229) dX8_judged_228 rfl rfl rfl ?_
      refine R_getR (q := 232) dX8_judged_229 fl_X8_16 rfl (by decide) rfl ?_
      refine R_bipush (v := nI 37) (q := 234) dX8_judged_232 (by decide) rfl ?_
      refine R_iald' (q := 235) dX8_judged_234 (rfl) (by omega) (by decide) (hT.2.2.2) rfl ?_
      refine R_cV2i (M' := MX8_missBy) (q := 238) dX8_judged_235 ml_X8_142 mk_X8_missBy (Nat.le_of_ble_eq_true rfl) rfl (c_mmissBy hn hr hT (Or.inr rfl) hr.2.2.1) ?_
      rintro _ w1 ⟨rfl, hF⟩
      have hT1 := hT.fr hF (by decide)
      have hb := msN_bd (sh := pH T) (lo := pL T) hr.1
      refine R_bipush (v := nI 10) (q := 240) dX8_judged_238 (by decide) rfl ?_
      refine R_iload_n (i := 2) (q := 241) dX8_judged_240 rfl rfl rfl ?_
      first | refine R_imulN (q := 242) dX8_judged_241 rfl ?_ | refine R_imul (q := 242) dX8_judged_241 rfl ?_
      refine R_iload_n (i := 3) (q := 243) dX8_judged_242 rfl rfl rfl ?_
      first | refine R_iaddN (q := 244) dX8_judged_243 rfl ?_ | refine R_iadd (q := 244) dX8_judged_243 rfl ?_
      refine R_icmp_gtN (by omega) (by omega) (tgt := 251) (q := 247) dX8_judged_244 (by decide) rfl (fun c1 => ?_) (fun c1 => ?_)
      · refine R_iconst (v := nI 0) (q := 252) dX8_judged_251 (by decide) rfl ?_
        refine R_rz dX8_judged_252 rfl (by decide) ?_
        exact ⟨Or.inr ⟨rfl, if_neg (by omega)⟩, hF.up (by decide)⟩
      · refine R_iconst (v := nI 1) (q := 248) dX8_judged_247 (by decide) rfl ?_
        refine R_goto (q := 252) dX8_judged_248 (by decide) ?_
        refine R_rz dX8_judged_252 rfl (by decide) ?_
        exact ⟨Or.inl ⟨rfl, _, if_pos c1, hT1⟩, hF.up (by decide)⟩
  · have e : jd T c a v = none := by
      unfold jd
      rw [if_neg (by omega), if_neg (by omega), if_neg (by omega), if_neg (by omega), if_neg (by omega), if_neg (by omega)]
    rw [e]
    refine R_tableOut (q := 253) dX8_judged_1 (by rw [nI_toInt (by omega)]; omega) (by decide) ?_
    refine R_iconst (v := nI 0) (q := 254) dX8_judged_253 (by decide) rfl ?_
    refine R_rz dX8_judged_254 rfl (by decide) ?_
    exact ⟨Or.inr ⟨rfl, rfl⟩, Fr.rf⟩
theorem l_thou {n : Nat} (hn : n ≤ 4) : ∀ (f k : Nat), n ≤ k + f → k ≤ n → Wq X 1 d MX8_thousands 4 [(3, vI (nI k)), (1, vL (lN (1000 ^ k))), (0, vI (nI n))] [] w (qL fun z w' => z = lN (1000 ^ n) ∧ w' = w) := by
  intro f
  induction f with
  | zero =>
    intro k h1 h2
    refine R_iload_n (i := 3) (q := 5) dX8_thousands_4 rfl rfl rfl ?_
    refine R_iload_n (i := 0) (q := 6) dX8_thousands_5 rfl rfl rfl ?_
    refine R_icmp_geN (by omega) (by omega) (tgt := 21) (q := 9) dX8_thousands_6 (by decide) rfl (fun c1 => ?_) (fun c1 => ?_)
    · obtain rfl : k = n := by omega
      refine R_lload_n (i := 1) (q := 22) dX8_thousands_21 rfl rfl rfl ?_
      refine R_rl dX8_thousands_22 rfl ?_
      exact ⟨rfl, rfl⟩
    · omega
  | succ f ih =>
    intro k h1 h2
    refine R_iload_n (i := 3) (q := 5) dX8_thousands_4 rfl rfl rfl ?_
    refine R_iload_n (i := 0) (q := 6) dX8_thousands_5 rfl rfl rfl ?_
    refine R_icmp_geN (by omega) (by omega) (tgt := 21) (q := 9) dX8_thousands_6 (by decide) rfl (fun c1 => ?_) (fun c1 => ?_)
    · obtain rfl : k = n := by omega
      refine R_lload_n (i := 1) (q := 22) dX8_thousands_21 rfl rfl rfl ?_
      refine R_rl dX8_thousands_22 rfl ?_
      exact ⟨rfl, rfl⟩
    · refine R_lload_n (i := 1) (q := 10) dX8_thousands_9 rfl rfl rfl ?_
      refine R_ldc2 (q := 13) dX8_thousands_10 kc_X8_190 rfl ?_
      refine R_lmul (q := 14) dX8_thousands_13 rfl ?_
      rw [show (1000 : Int64) = lN 1000 from rfl, lN_mul, ← Nat.pow_succ]
      refine R_lstore_n (i := 1) (q := 15) (loc' := [(1, _), (3, _), (0, _)]) dX8_thousands_14 rfl (by decide) (by rfl) rfl ?_
      first | refine R_iincN (q := 18) (loc' := [(3, _), (1, _), (0, _)]) dX8_thousands_15 (by rfl) (by decide) (by rfl) rfl ?_ | refine R_iinc (q := 18) (loc' := [(3, _), (1, _), (0, _)]) dX8_thousands_15 (by rfl) (by rfl) (by decide) (by rfl) rfl ?_
      refine R_goto (q := 4) dX8_thousands_18 (by decide) ?_
      refine R_loc [0, 1, 2] (loc' := [(3, _), (1, _), (0, _)]) (by rfl) ?_
      exact ih (k + 1) (by omega) (by omega)
theorem c_thousands {n : Nat} (hn : n ≤ 4) : Ct X 1 d MX8_thousands [vI (nI n)] w (qL fun z w' => z = lN (1000 ^ n) ∧ w' = w) := by
  refine Ct.of (by decide) rfl (Nat.le_of_ble_eq_true rfl) ?_
  show Wq _ _ _ _ 0 [(0, _)] [] _ _
  refine R_lconst (v := 1) (q := 1) dX8_thousands_0 (by decide) rfl ?_
  refine R_lstore_n (i := 1) (q := 2) (loc' := [(1, _), (0, _)]) dX8_thousands_1 rfl (by decide) (by rfl) rfl ?_
  refine R_iconst (v := nI 0) (q := 3) dX8_thousands_2 (by decide) rfl ?_
  refine R_istore_n (i := 3) (q := 4) (loc' := [(3, _), (1, _), (0, _)]) dX8_thousands_3 rfl (by decide) (by rfl) rfl ?_
  exact l_thou hn n 0 (by omega) (by omega)
theorem l_mjudge {w0 : Wd} {r n : Nat} (hn : 1 ≤ n ∧ n ≤ 4) (hr : r < 1000 ^ n) : ∀ (f k : Nat) (w : Wd) (T : Pic), k + f = n → w.1 [] 4 = nI (pN T) → RowA w [6] T → OKr T → Fr F3 w0 w → Wq X 1 (d + 6) MX8_judge 43 [(4, vI (nI k)), (0, vR 8 0 []), (1, vI (nI n)), (2, vL (lN r))] [] w (qI fun z w' => z = jdG r n f k T ∧ Fr F3 w0 w') := by
  have hr63 : r < 2 ^ 63 := by
    have : 1000 ^ n ≤ 1000 ^ 4 := Nat.pow_le_pow_right (by decide) hn.2
    omega
  intro f
  induction f with
  | zero =>
    intro k w T h1 h4 hT hj hF
    refine R_iload (q := 45) dX8_judge_43 rfl rfl ?_
    refine R_iload_n (i := 1) (q := 46) dX8_judge_45 rfl rfl rfl ?_
    refine R_icmp_geN (by omega) (by omega) (tgt := 101) (q := 49) dX8_judge_46 (by decide) rfl (fun c1 => ?_) (fun c1 => ?_)
    · refine R_bipush (v := (-9)) (q := 103) dX8_judge_101 (by decide) rfl ?_
      refine R_ri dX8_judge_103 rfl ?_
      exact ⟨rfl, hF⟩
    · omega
  | succ f ih =>
    intro k w T h1 h4 hT hj hF
    refine R_iload (q := 45) dX8_judge_43 rfl rfl ?_
    refine R_iload_n (i := 1) (q := 46) dX8_judge_45 rfl rfl rfl ?_
    refine R_icmp_geN (by omega) (by omega) (tgt := 101) (q := 49) dX8_judge_46 (by decide) rfl (fun c1 => ?_) (fun c1 => ?_)
    · omega
    · have hp : 1000 ^ (n - 1 - k) < 2 ^ 63 := by
        have : 1000 ^ (n - 1 - k) ≤ 1000 ^ 4 := Nat.pow_le_pow_right (by decide) (by omega)
        omega
      have hp0 : 0 < 1000 ^ (n - 1 - k) := Nat.pow_pos (by decide)
      have hdg : dg r n k < 1000 := Nat.mod_lt _ (by decide)
      refine R_lload_n (i := 2) (q := 50) dX8_judge_49 rfl rfl rfl ?_
      refine R_iload_n (i := 1) (q := 51) dX8_judge_50 rfl rfl rfl ?_
      refine R_iconst (v := nI 1) (q := 52) dX8_judge_51 (by decide) rfl ?_
      refine R_isubN (by omega) (q := 53) dX8_judge_52 rfl ?_
      refine R_iload (q := 55) dX8_judge_53 rfl rfl ?_
      refine R_isubN (by omega) (q := 56) dX8_judge_55 rfl ?_
      refine R_cS1l (M' := MX8_thousands) (q := 59) dX8_judge_56 ml_X8_194 mk_X8_thousands (Nat.le_of_ble_eq_true rfl) rfl (c_thousands (n := n - 1 - k) (by omega)) ?_
      rintro _ w ⟨rfl, rfl⟩
      refine R_ldiv (q := 60) dX8_judge_59 (by rw [show (0 : Int64) = lN 0 from rfl, pk_lEQ hp (by decide)]; omega) rfl ?_
      rw [pk_lDiv hr63 hp0 hp]
      refine R_ldc2 (q := 63) dX8_judge_60 kc_X8_190 rfl ?_
      rw [show (1000 : Int64) = lN 1000 from rfl]
      refine R_lrem (q := 64) dX8_judge_63 (by decide) rfl ?_
      have hdv : r / 1000 ^ (n - 1 - k) < 2 ^ 63 := Nat.lt_of_le_of_lt (Nat.div_le_self _ _) hr63
      rw [pk_lRem hdv (by decide) (by decide)]
      refine R_l2i (q := 65) dX8_judge_64 rfl ?_
      rw [lN_i]
      rw [show nI (r / 1000 ^ (n - 1 - k) % 1000) = nI (dg r n k) from rfl]
      refine R_istore (q := 67) (loc' := [(5, _), (4, _), (0, _), (1, _), (2, _)]) dX8_judge_65 (by decide) (by rfl) rfl ?_
      refine R_aload_n (i := 0) (q := 68) dX8_judge_67 rfl rfl rfl ?_
      refine R_iload (q := 70) dX8_judge_68 rfl rfl ?_
      refine R_bipush (v := nI 100) (q := 72) dX8_judge_70 (by decide) rfl ?_
      refine R_idivN (by omega) (by omega) (by omega) (q := 73) dX8_judge_72 rfl ?_
      refine R_iload (q := 75) dX8_judge_73 rfl rfl ?_
      refine R_bipush (v := nI 10) (q := 77) dX8_judge_75 (by decide) rfl ?_
      refine R_idivN (by omega) (by omega) (by omega) (q := 78) dX8_judge_77 rfl ?_
      refine R_bipush (v := nI 10) (q := 80) dX8_judge_78 (by decide) rfl ?_
      refine R_iremN (by omega) (by omega) (by omega) (q := 81) dX8_judge_80 rfl ?_
      refine R_iload (q := 83) dX8_judge_81 rfl rfl ?_
      refine R_bipush (v := nI 10) (q := 85) dX8_judge_83 (by decide) rfl ?_
      refine R_iremN (by omega) (by omega) (by omega) (q := 86) dX8_judge_85 rfl ?_
      have hd1 : dg r n k / 100 < 10 := by omega
      have hd2 : dg r n k / 10 % 10 < 10 := Nat.mod_lt _ (by decide)
      have hd3 : dg r n k % 10 < 10 := Nat.mod_lt _ (by decide)
      refine R_cV3i (M' := MX8_judged) (q := 89) dX8_judge_86 ml_X8_198 mk_X8_judged (Nat.le_of_ble_eq_true rfl) rfl (c_judged h4 hT hj hd1 hd2 hd3) ?_
      rintro z w1 ⟨hz, hF1⟩
      simp only [jdG]
      rcases hz with ⟨rfl, T', e, hT'⟩ | ⟨rfl, e⟩
      · rw [e]
        refine R_if_ne (tgt := 95) (q := 92) dX8_judge_89 (by decide) rfl (fun c2 => ?_) (fun c2 => ?_)
        · first | refine R_iincN (q := 98) (loc' := [(4, _), (5, _), (0, _), (1, _), (2, _)]) dX8_judge_95 (by rfl) (by decide) (by rfl) rfl ?_ | refine R_iinc (q := 98) (loc' := [(4, _), (5, _), (0, _), (1, _), (2, _)]) dX8_judge_95 (by rfl) (by rfl) (by decide) (by rfl) rfl ?_
          refine R_goto (q := 43) dX8_judge_98 (by decide) ?_
          refine R_loc [0, 2, 3, 4] (loc' := [(4, _), (0, _), (1, _), (2, _)]) (by rfl) ?_
          refine ih (k + 1) w1 T' (by omega) ?_ hT' (hj.step e).1 (hF.tr hF1)
          rw [hF1.2 _ (by decide), (hj.step e).2]
          exact h4
        · exact absurd c2 (by decide)
      · rw [e]
        refine R_if_ne (tgt := 95) (q := 92) dX8_judge_89 (by decide) rfl (fun c2 => ?_) (fun c2 => ?_)
        · exact absurd rfl c2
        · refine R_iload (q := 94) dX8_judge_92 rfl rfl ?_
          refine R_ri dX8_judge_94 rfl ?_
          exact ⟨rfl, hF.tr hF1⟩
theorem c_mjudge {n : Int32} {row : Int64} (hR : ModR w A) (hA : AOK A) : Ct X 1 (d + 6) MX8_judge [vR 8 0 [], vI n, vL row] w (qI fun z w' => z = opJudge A n row ∧ ModR w' A) := by
  obtain ⟨h1, h2, h3, h4, h5, h6⟩ := id hR
  unfold opJudge
  have n5 : ((1 : Int64) ≤ n.toInt64 ∧ n.toInt64 ≤ 4) ↔ (inN n 5 ∧ ¬ n = 0) := by
    have e : n = 0 ↔ n.toInt = 0 := by
      rw [← Int32.toInt_inj]
      rfl
    rw [e]
    unfold inN
    rw [Int64.le_iff_toInt_le, Int64.le_iff_toInt_le, Int32.toInt_toInt64, Int32.lt_iff_toInt_lt, Int32.le_iff_toInt_le, show (1 : Int64).toInt = 1 from rfl, show (4 : Int64).toInt = 4 from rfl, show (nI 5).toInt = 5 from rfl, show (0 : Int32).toInt = 0 from rfl]
    omega
  refine Ct.of (by decide) rfl (Nat.le_of_ble_eq_true rfl) ?_
  show Wq _ _ _ _ 0 [(0, _), (1, _), (2, _)] [] _ _
  refine R_iload_n (i := 1) (q := 1) dX8_judge_0 rfl rfl rfl ?_
  refine R_i2l (q := 2) dX8_judge_1 rfl ?_
  refine R_lconst (v := 1) (q := 3) dX8_judge_2 (by decide) rfl ?_
  refine R_ldc2 (q := 6) dX8_judge_3 kc_X8_192 rfl ?_
  refine R_cS3i (M' := MX8_in) (q := 9) dX8_judge_6 ml_X8_57 mk_X8_in (Nat.le_of_ble_eq_true rfl) rfl (c_in) ?_
  rintro _ w ⟨rfl, rfl⟩
  rw [bI_iff n5]
  refine R_if_eqB (tgt := 26) (q := 12) dX8_judge_9 (by decide) rfl (fun c1 => ?_) (fun c1 => ?_)
  · rw [if_neg (fun h => c1 h.1)]
    refine R_bipush (v := (-2)) (q := 28) dX8_judge_26 (by decide) rfl ?_
    refine R_ri dX8_judge_28 rfl ?_
    exact ⟨rfl, hR⟩
  · obtain ⟨m, hm, rfl⟩ := inN_ex (by decide) c1.1
    have hm0 : m ≠ 0 := fun h => c1.2 (by rw [h]; rfl)
    have hp : 1000 ^ m < 2 ^ 63 := by
      have : 1000 ^ m ≤ 1000 ^ 4 := Nat.pow_le_pow_right (by decide) (by omega)
      omega
    have hp0 : 0 < 1000 ^ m := Nat.pow_pos (by decide)
    rw [cl_nI (by omega), dEl_p m hm]
    have hrow : ((0 : Int64) ≤ row ∧ row ≤ lN (1000 ^ m) - 1) ↔ (¬ row < 0 ∧ row < lN (1000 ^ m)) := by
      rw [show (1 : Int64) = lN 1 from rfl, lN_sub (by omega), Int64.le_iff_toInt_le, Int64.le_iff_toInt_le, Int64.lt_iff_toInt_lt, Int64.lt_iff_toInt_lt, pk_lT (by omega), pk_lT hp, show (0 : Int64).toInt = 0 from rfl]
      omega
    refine R_lload_n (i := 2) (q := 13) dX8_judge_12 rfl rfl rfl ?_
    refine R_lconst (v := 0) (q := 14) dX8_judge_13 (by decide) rfl ?_
    refine R_iload_n (i := 1) (q := 15) dX8_judge_14 rfl rfl rfl ?_
    refine R_cS1l (M' := MX8_thousands) (q := 18) dX8_judge_15 ml_X8_194 mk_X8_thousands (Nat.le_of_ble_eq_true rfl) rfl (c_thousands (n := m) (by omega)) ?_
    rintro _ w ⟨rfl, rfl⟩
    refine R_lconst (v := 1) (q := 19) dX8_judge_18 (by decide) rfl ?_
    refine R_lsub (q := 20) dX8_judge_19 rfl ?_
    refine R_cS3i (M' := MX8_in) (q := 23) dX8_judge_20 ml_X8_57 mk_X8_in (Nat.le_of_ble_eq_true rfl) rfl (c_in) ?_
    rintro _ w ⟨rfl, rfl⟩
    rw [bI_iff hrow]
    refine R_if_neB (tgt := 29) (q := 26) dX8_judge_23 (by decide) rfl (fun c2 => ?_) (fun c2 => ?_)
    · rw [if_pos ⟨c1, c2⟩]
      obtain ⟨r, hr, rfl⟩ := pk_lOf c2.1
      have hlt2 := (pk_lLT hr hp).mp c2.2
      rw [show rN (lN r) = r by unfold rN; rw [pk_lT hr]; rfl]
      refine R_aload_n (i := 0) (q := 30) dX8_judge_29 rfl rfl rfl ?_
      refine R_getR (q := 33) dX8_judge_30 fl_X8_13 rfl (by decide) rfl ?_
      refine R_aload_n (i := 0) (q := 34) dX8_judge_33 rfl rfl rfl ?_
      refine R_getR (q := 37) dX8_judge_34 fl_X8_16 rfl (by decide) rfl ?_
      refine R_cS2v (M' := MX8_copy) (q := 40) dX8_judge_37 ml_X8_134 mk_X8_copy (Nat.le_of_ble_eq_true rfl) rfl (c_mcopy (by decide) hA.2.1.2.2.1 h2.2) ?_
      rintro w1 ⟨hS1, hF1⟩
      refine R_iconst (v := nI 0) (q := 41) dX8_judge_40 (by decide) rfl ?_
      refine R_istore (q := 43) (loc' := [(4, _), (0, _), (1, _), (2, _)]) dX8_judge_41 (by decide) (by rfl) rfl ?_
      refine R_loc [0, 1, 2, 3] (loc' := [(4, _), (0, _), (1, _), (2, _)]) (by rfl) ?_
      refine Wq_mono (l_mjudge (w0 := w) ⟨by omega, by omega⟩ hlt2 m 0 w1 (aP A) (by omega) (by rw [hF1.2 _ (by decide)]; exact h2.1.2.2) hS1 hA.2.1.r (hF1.up (by decide))) ?_
      rintro z w2 ⟨g1, g2⟩
      exact ⟨g1, hR.sc (g2.m (by decide) (by decide))⟩
    · rw [if_neg (fun h => c2 h.2)]
      refine R_bipush (v := (-2)) (q := 28) dX8_judge_26 (by decide) rfl ?_
      refine R_ri dX8_judge_28 rfl ?_
      exact ⟨rfl, hR⟩
def onN (m : Nat) : Nat → Nat
  | 0 => 0
  | k + 1 => onN m k + bitN m k
theorem onN_4 (m : Nat) : onN m 4 = pcN m := by
  simp only [onN, pcN]
  omega
theorem pcN_le (m : Nat) : pcN m ≤ 4 := by
  have h0 := bitN_lt m 0
  have h1 := bitN_lt m 1
  have h2 := bitN_lt m 2
  have h3 := bitN_lt m 3
  unfold pcN
  omega
theorem l_ones {m : Nat} (hm : m < 16) : ∀ (f k : Nat), 4 ≤ k + f → k ≤ 4 → Wq X 1 d MX8_ones 4 [(2, vI (nI k)), (1, vI (nI (onN m k))), (0, vI (nI m))] [] w (qI fun z w' => z = nI (pcN m) ∧ w' = w) := by
  intro f
  induction f with
  | zero =>
    intro k h1 h2
    refine R_iload_n (i := 2) (q := 5) dX8_ones_4 rfl rfl rfl ?_
    refine R_iconst (v := nI 4) (q := 6) dX8_ones_5 (by decide) rfl ?_
    refine R_icmp_geN (by omega) (by omega) (tgt := 23) (q := 9) dX8_ones_6 (by decide) rfl (fun c1 => ?_) (fun c1 => ?_)
    · obtain rfl : k = 4 := by omega
      refine R_iload_n (i := 1) (q := 24) dX8_ones_23 rfl rfl rfl ?_
      refine R_ri dX8_ones_24 rfl ?_
      exact ⟨by rw [onN_4], rfl⟩
    · omega
  | succ f ih =>
    intro k h1 h2
    refine R_iload_n (i := 2) (q := 5) dX8_ones_4 rfl rfl rfl ?_
    refine R_iconst (v := nI 4) (q := 6) dX8_ones_5 (by decide) rfl ?_
    refine R_icmp_geN (by omega) (by omega) (tgt := 23) (q := 9) dX8_ones_6 (by decide) rfl (fun c1 => ?_) (fun c1 => ?_)
    · obtain rfl : k = 4 := by omega
      refine R_iload_n (i := 1) (q := 24) dX8_ones_23 rfl rfl rfl ?_
      refine R_ri dX8_ones_24 rfl ?_
      exact ⟨by rw [onN_4], rfl⟩
    · refine R_iload_n (i := 1) (q := 10) dX8_ones_9 rfl rfl rfl ?_
      refine R_iload_n (i := 0) (q := 11) dX8_ones_10 rfl rfl rfl ?_
      refine R_iload_n (i := 2) (q := 12) dX8_ones_11 rfl rfl rfl ?_
      refine R_ishr (q := 13) dX8_ones_12 rfl ?_
      refine R_iconst (v := nI 1) (q := 14) dX8_ones_13 (by decide) rfl ?_
      refine R_iand (q := 15) dX8_ones_14 rfl ?_
      rw [shr_fin m hm k c1]
      first | refine R_iaddN (q := 16) dX8_ones_15 rfl ?_ | refine R_iadd (q := 16) dX8_ones_15 rfl ?_
      refine R_istore_n (i := 1) (q := 17) (loc' := [(1, _), (2, _), (0, _)]) dX8_ones_16 rfl (by decide) (by rfl) rfl ?_
      first | refine R_iincN (q := 20) (loc' := [(2, _), (1, _), (0, _)]) dX8_ones_17 (by rfl) (by decide) (by rfl) rfl ?_ | refine R_iinc (q := 20) (loc' := [(2, _), (1, _), (0, _)]) dX8_ones_17 (by rfl) (by rfl) (by decide) (by rfl) rfl ?_
      refine R_goto (q := 4) dX8_ones_20 (by decide) ?_
      refine R_loc [0, 1, 2] (loc' := [(2, _), (1, _), (0, _)]) (by rfl) ?_
      exact ih (k + 1) (by omega) (by omega)
theorem c_ones {m : Nat} (hm : m < 16) : Ct X 1 d MX8_ones [vI (nI m)] w (qI fun z w' => z = nI (pcN m) ∧ w' = w) := by
  refine Ct.of (by decide) rfl (Nat.le_of_ble_eq_true rfl) ?_
  show Wq _ _ _ _ 0 [(0, _)] [] _ _
  refine R_iconst (v := nI 0) (q := 1) dX8_ones_0 (by decide) rfl ?_
  refine R_istore_n (i := 1) (q := 2) (loc' := [(1, _), (0, _)]) dX8_ones_1 rfl (by decide) (by rfl) rfl ?_
  refine R_iconst (v := nI 0) (q := 3) dX8_ones_2 (by decide) rfl ?_
  refine R_istore_n (i := 2) (q := 4) (loc' := [(2, _), (1, _), (0, _)]) dX8_ones_3 rfl (by decide) (by rfl) rfl ?_
  exact l_ones hm 4 0 (by omega) (by omega)
theorem l_power {x n : Nat} (hn : n ≤ 4) : ∀ (f k : Nat), n ≤ k + f → k ≤ n → Wq X 1 d MX8_power 4 [(3, vI (nI k)), (2, vI (nI (x ^ k))), (0, vI (nI x)), (1, vI (nI n))] [] w (qI fun z w' => z = nI (x ^ n) ∧ w' = w) := by
  intro f
  induction f with
  | zero =>
    intro k h1 h2
    refine R_iload_n (i := 3) (q := 5) dX8_power_4 rfl rfl rfl ?_
    refine R_iload_n (i := 1) (q := 6) dX8_power_5 rfl rfl rfl ?_
    refine R_icmp_geN (by omega) (by omega) (tgt := 19) (q := 9) dX8_power_6 (by decide) rfl (fun c1 => ?_) (fun c1 => ?_)
    · obtain rfl : k = n := by omega
      refine R_iload_n (i := 2) (q := 20) dX8_power_19 rfl rfl rfl ?_
      refine R_ri dX8_power_20 rfl ?_
      exact ⟨rfl, rfl⟩
    · omega
  | succ f ih =>
    intro k h1 h2
    refine R_iload_n (i := 3) (q := 5) dX8_power_4 rfl rfl rfl ?_
    refine R_iload_n (i := 1) (q := 6) dX8_power_5 rfl rfl rfl ?_
    refine R_icmp_geN (by omega) (by omega) (tgt := 19) (q := 9) dX8_power_6 (by decide) rfl (fun c1 => ?_) (fun c1 => ?_)
    · obtain rfl : k = n := by omega
      refine R_iload_n (i := 2) (q := 20) dX8_power_19 rfl rfl rfl ?_
      refine R_ri dX8_power_20 rfl ?_
      exact ⟨rfl, rfl⟩
    · refine R_iload_n (i := 2) (q := 10) dX8_power_9 rfl rfl rfl ?_
      refine R_iload_n (i := 0) (q := 11) dX8_power_10 rfl rfl rfl ?_
      first | refine R_imulN (q := 12) dX8_power_11 rfl ?_ | refine R_imul (q := 12) dX8_power_11 rfl ?_
      refine R_istore_n (i := 2) (q := 13) (loc' := [(2, _), (3, _), (0, _), (1, _)]) dX8_power_12 rfl (by decide) (by rfl) rfl ?_
      first | refine R_iincN (q := 16) (loc' := [(3, _), (2, _), (0, _), (1, _)]) dX8_power_13 (by rfl) (by decide) (by rfl) rfl ?_ | refine R_iinc (q := 16) (loc' := [(3, _), (2, _), (0, _), (1, _)]) dX8_power_13 (by rfl) (by rfl) (by decide) (by rfl) rfl ?_
      refine R_goto (q := 4) dX8_power_16 (by decide) ?_
      refine R_loc [0, 1, 2, 3] (loc' := [(3, _), (2, _), (0, _), (1, _)]) (by rfl) ?_
      exact ih (k + 1) (by omega) (by omega)
theorem c_power {x n : Nat} (hn : n ≤ 4) : Ct X 1 d MX8_power [vI (nI x), vI (nI n)] w (qI fun z w' => z = nI (x ^ n) ∧ w' = w) := by
  refine Ct.of (by decide) rfl (Nat.le_of_ble_eq_true rfl) ?_
  show Wq _ _ _ _ 0 [(0, _), (1, _)] [] _ _
  refine R_iconst (v := nI 1) (q := 1) dX8_power_0 (by decide) rfl ?_
  refine R_istore_n (i := 2) (q := 2) (loc' := [(2, _), (0, _), (1, _)]) dX8_power_1 rfl (by decide) (by rfl) rfl ?_
  refine R_iconst (v := nI 0) (q := 3) dX8_power_2 (by decide) rfl ?_
  refine R_istore_n (i := 3) (q := 4) (loc' := [(3, _), (2, _), (0, _), (1, _)]) dX8_power_3 rfl (by decide) (by rfl) rfl ?_
  exact l_power hn n 0 (by omega) (by omega)
def fcG (n : Nat) : Nat → Nat → Nat → Nat
  | 0, _, p => p
  | f + 1, k, p => if n < k then p else fcG n f (k + 1) (p * k)
theorem l_fac {n : Nat} (hn : n ≤ 4) : ∀ (f k p : Nat), n < k + f → k ≤ 10 → Wq X 1 d MX8_factorial 4 [(2, vI (nI k)), (1, vI (nI p)), (0, vI (nI n))] [] w (qI fun z w' => z = nI (fcG n f k p) ∧ w' = w) := by
  intro f
  induction f with
  | zero =>
    intro k p h1 h2
    refine R_iload_n (i := 2) (q := 5) dX8_factorial_4 rfl rfl rfl ?_
    refine R_iload_n (i := 0) (q := 6) dX8_factorial_5 rfl rfl rfl ?_
    refine R_icmp_gtN (by omega) (by omega) (tgt := 19) (q := 9) dX8_factorial_6 (by decide) rfl (fun c1 => ?_) (fun c1 => ?_)
    · refine R_iload_n (i := 1) (q := 20) dX8_factorial_19 rfl rfl rfl ?_
      refine R_ri dX8_factorial_20 rfl ?_
      exact ⟨rfl, rfl⟩
    · omega
  | succ f ih =>
    intro k p h1 h2
    simp only [fcG]
    refine R_iload_n (i := 2) (q := 5) dX8_factorial_4 rfl rfl rfl ?_
    refine R_iload_n (i := 0) (q := 6) dX8_factorial_5 rfl rfl rfl ?_
    refine R_icmp_gtN (by omega) (by omega) (tgt := 19) (q := 9) dX8_factorial_6 (by decide) rfl (fun c1 => ?_) (fun c1 => ?_)
    · rw [if_pos c1]
      refine R_iload_n (i := 1) (q := 20) dX8_factorial_19 rfl rfl rfl ?_
      refine R_ri dX8_factorial_20 rfl ?_
      exact ⟨rfl, rfl⟩
    · rw [if_neg (by omega)]
      refine R_iload_n (i := 1) (q := 10) dX8_factorial_9 rfl rfl rfl ?_
      refine R_iload_n (i := 2) (q := 11) dX8_factorial_10 rfl rfl rfl ?_
      first | refine R_imulN (q := 12) dX8_factorial_11 rfl ?_ | refine R_imul (q := 12) dX8_factorial_11 rfl ?_
      refine R_istore_n (i := 1) (q := 13) (loc' := [(1, _), (2, _), (0, _)]) dX8_factorial_12 rfl (by decide) (by rfl) rfl ?_
      first | refine R_iincN (q := 16) (loc' := [(2, _), (1, _), (0, _)]) dX8_factorial_13 (by rfl) (by decide) (by rfl) rfl ?_ | refine R_iinc (q := 16) (loc' := [(2, _), (1, _), (0, _)]) dX8_factorial_13 (by rfl) (by rfl) (by decide) (by rfl) rfl ?_
      refine R_goto (q := 4) dX8_factorial_16 (by decide) ?_
      refine R_loc [0, 1, 2] (loc' := [(2, _), (1, _), (0, _)]) (by rfl) ?_
      exact ih (k + 1) (p * k) (by omega) (by omega)
theorem c_factorial {n : Nat} (hn : n ≤ 4) : Ct X 1 d MX8_factorial [vI (nI n)] w (qI fun z w' => z = nI (fcG n 4 2 1) ∧ w' = w) := by
  refine Ct.of (by decide) rfl (Nat.le_of_ble_eq_true rfl) ?_
  show Wq _ _ _ _ 0 [(0, _)] [] _ _
  refine R_iconst (v := nI 1) (q := 1) dX8_factorial_0 (by decide) rfl ?_
  refine R_istore_n (i := 1) (q := 2) (loc' := [(1, _), (0, _)]) dX8_factorial_1 rfl (by decide) (by rfl) rfl ?_
  refine R_iconst (v := nI 2) (q := 3) dX8_factorial_2 (by decide) rfl ?_
  refine R_istore_n (i := 2) (q := 4) (loc' := [(2, _), (1, _), (0, _)]) dX8_factorial_3 rfl (by decide) (by rfl) rfl ?_
  exact l_fac hn 4 2 1 (by omega) (by omega)
theorem l_mfr {P Q b g : Nat} {u : Int32} (hg0 : 0 < g) (hg1 : g < 2 ^ 31) (hb0 : g = Nat.gcd (dst P Q) b) : ∀ (y x : Nat), x < 2 ^ 31 → y < 2 ^ 31 → Nat.gcd x y = g → Wq X 1 d MX8_fraction 14 [(4, vI (nI y)), (3, vI (nI x)), (0, vI (nI P - nI Q)), (1, vI (nI b)), (2, vI u)] [] w (qI fun z w' => z = frD P Q b u ∧ w' = w) := by
  intro y
  induction y using Nat.strongRecOn with
  | ind y ih =>
    intro x hx hy hg
    refine R_iload (q := 16) dX8_fraction_14 rfl rfl ?_
    refine R_if_eqN (by omega) (tgt := 35) (q := 19) dX8_fraction_16 (by decide) rfl (fun c1 => ?_) (fun c1 => ?_)
    · subst c1
      rw [Nat.gcd_zero_right] at hg
      subst hg
      unfold frD
      rw [← hb0]
      refine R_iload_n (i := 2) (q := 36) dX8_fraction_35 rfl rfl rfl ?_
      refine R_if_eq (tgt := 45) (q := 39) dX8_fraction_36 (by decide) rfl (fun c2 => ?_) (fun c2 => ?_)
      · rw [if_pos c2]
        refine R_iload_n (i := 1) (q := 46) dX8_fraction_45 rfl rfl rfl ?_
        refine R_iload_n (i := 3) (q := 47) dX8_fraction_46 rfl rfl rfl ?_
        refine R_idiv (q := 48) dX8_fraction_47 (nI_ne0 hg0 hg1) rfl ?_
        refine R_ri dX8_fraction_48 rfl ?_
        exact ⟨rfl, rfl⟩
      · rw [if_neg c2]
        refine R_iload_n (i := 0) (q := 40) dX8_fraction_39 rfl rfl rfl ?_
        refine R_iload_n (i := 3) (q := 41) dX8_fraction_40 rfl rfl rfl ?_
        refine R_idiv (q := 42) dX8_fraction_41 (nI_ne0 hg0 hg1) rfl ?_
        refine R_goto (q := 48) dX8_fraction_42 (by decide) ?_
        refine R_ri dX8_fraction_48 rfl ?_
        exact ⟨rfl, rfl⟩
    · refine R_iload_n (i := 3) (q := 20) dX8_fraction_19 rfl rfl rfl ?_
      refine R_iload (q := 22) dX8_fraction_20 rfl rfl ?_
      refine R_iremN (by omega) (by omega) (by omega) (q := 23) dX8_fraction_22 rfl ?_
      refine R_istore (q := 25) (loc' := [(5, _), (4, _), (3, _), (0, _), (1, _), (2, _)]) dX8_fraction_23 (by decide) (by rfl) rfl ?_
      refine R_iload (q := 27) dX8_fraction_25 rfl rfl ?_
      refine R_istore_n (i := 3) (q := 28) (loc' := [(3, _), (5, _), (4, _), (0, _), (1, _), (2, _)]) dX8_fraction_27 rfl (by decide) (by rfl) rfl ?_
      refine R_iload (q := 30) dX8_fraction_28 rfl rfl ?_
      refine R_istore (q := 32) (loc' := [(4, _), (3, _), (5, _), (0, _), (1, _), (2, _)]) dX8_fraction_30 (by decide) (by rfl) rfl ?_
      refine R_goto (q := 14) dX8_fraction_32 (by decide) ?_
      refine R_loc [0, 1, 3, 4, 5] (loc' := [(4, _), (3, _), (0, _), (1, _), (2, _)]) (by rfl) ?_
      have hm := Nat.mod_lt x (show 0 < y by omega)
      refine ih (x % y) hm y hy (by omega) ?_
      rw [← hg, Nat.gcd_comm y, ← Nat.gcd_rec, Nat.gcd_comm]
theorem c_mfraction {P Q b : Nat} {u : Int32} (hP : P < 2 ^ 30) (hQ : Q < 2 ^ 30) (hb0 : 0 < b) (hb : b ≤ 10000) : Ct X 1 d MX8_fraction [vI (nI P - nI Q), vI (nI b), vI u] w (qI fun z w' => z = frD P Q b u ∧ w' = w) := by
  have hd : dst P Q < 2 ^ 31 := by unfold dst; split <;> omega
  have hg0 : 0 < Nat.gcd (dst P Q) b := Nat.gcd_pos_of_pos_right _ hb0
  have hg1 : Nat.gcd (dst P Q) b ≤ b := Nat.le_of_dvd hb0 (Nat.gcd_dvd_right _ _)
  have hab := abs_dst hP hQ
  have hle : (0 : Int32) ≤ nI P - nI Q ↔ ¬ nI P - nI Q < 0 := by
    rw [Int32.lt_iff_toInt_lt, Int32.le_iff_toInt_le]
    omega
  refine Ct.of (by decide) rfl (Nat.le_of_ble_eq_true rfl) ?_
  show Wq _ _ _ _ 0 [(0, _), (1, _), (2, _)] [] _ _
  refine R_iload_n (i := 0) (q := 1) dX8_fraction_0 rfl rfl rfl ?_
  refine R_if_ge (tgt := 9) (q := 4) dX8_fraction_1 (by decide) rfl (fun c1 => ?_) (fun c1 => ?_)
  · rw [if_neg (hle.mp c1)] at hab
    refine R_iload_n (i := 0) (q := 10) dX8_fraction_9 rfl rfl rfl ?_
    refine R_val hab ?_
    refine R_istore_n (i := 3) (q := 11) (loc' := [(3, _), (0, _), (1, _), (2, _)]) dX8_fraction_10 rfl (by decide) (by rfl) rfl ?_
    refine R_iload_n (i := 1) (q := 12) dX8_fraction_11 rfl rfl rfl ?_
    refine R_istore (q := 14) (loc' := [(4, _), (3, _), (0, _), (1, _), (2, _)]) dX8_fraction_12 (by decide) (by rfl) rfl ?_
    exact l_mfr hg0 (by omega) rfl b (dst P Q) hd (by omega) rfl
  · rw [if_pos (Classical.byContradiction (fun h => c1 (hle.mpr h)))] at hab
    refine R_iload_n (i := 0) (q := 5) dX8_fraction_4 rfl rfl rfl ?_
    refine R_ineg (q := 6) dX8_fraction_5 rfl ?_
    refine R_val hab ?_
    refine R_goto (q := 10) dX8_fraction_6 (by decide) ?_
    refine R_istore_n (i := 3) (q := 11) (loc' := [(3, _), (0, _), (1, _), (2, _)]) dX8_fraction_10 rfl (by decide) (by rfl) rfl ?_
    refine R_iload_n (i := 1) (q := 12) dX8_fraction_11 rfl rfl rfl ?_
    refine R_istore (q := 14) (loc' := [(4, _), (3, _), (0, _), (1, _), (2, _)]) dX8_fraction_12 (by decide) (by rfl) rfl ?_
    exact l_mfr hg0 (by omega) rfl b (dst P Q) hd (by omega) rfl
end MH
