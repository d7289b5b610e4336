theorem and31 (x : Int32) : ∃ c, c < 32 ∧ x &&& 31 = nI c := by
  refine ⟨(x &&& 31).toBitVec.toNat, ?_, (i32_back _).symm⟩
  show ((Int32.toBitVec _) &&& (31#32)).toNat < 32
  rw [BitVec.toNat_and]
  exact Nat.lt_of_le_of_lt Nat.and_le_right (by decide)
theorem sml6 : ∀ n, n < 6 → nI n - 6 < 0 := by decide
theorem zb_0 (sm : Nat → Nat) : zb sm 0 = fun _ => 0 := by
  funext j
  unfold zb
  rw [if_neg (by omega)]
set_option maxRecDepth 100000 in
theorem c_La_l {E : mn_En} (hL : E.2.2.2.2.2.1 ≤ 3072) (h6 : 6 ≤ E.2.2.2.2.2.1) : ∀ (fu i : Nat) (g0 : mn_H), i ≤ E.2.2.2.2.2.1 → E.2.2.2.2.2.1 - i < fu → Cpl g0 → mn_R E MLa_law 8 181 0 0 18 [(0, .ref 0), (1, .ref 1), (2, .ref 152), (3, .int (nI i))] [] g0 (fun x g' => x = some (.int 1)) := by
  intro fu
  induction fu with
  | zero => intro i g0 h1 h2; exact absurd h2 (by omega)
  | succ fu ih =>
    intro i g0 h1 h2 hC
    refine mn_iload_n 3 dLa_law_18 rfl rfl ?_
    refine mn_aload_n 0 dLa_law_19 rfl rfl ?_
    refine mn_slen dLa_law_20 ?_
    refine mn_bipush (v := 6) dLa_law_21 (by decide) ?_
    refine mn_isub (z := nI (E.2.2.2.2.2.1 - 6)) dLa_law_23 (pk_sub (a := E.2.2.2.2.2.1) (b := 6) (by omega)) ?_
    refine mn_icmp_gt 657 dLa_law_24 (by decide) (fun c1 => ?_) (fun c1 => ?_)
    · have c1 := (nI_ltI (a := (E.2.2.2.2.2.1 - 6)) (b := i) (by omega) (by omega)).mp c1
      refine mn_iconst (v := 1) dLa_law_657 (by decide) ?_
      exact mn_zret rfl rfl dLa_law_658 rfl
    · have c1 := _root_.mt (nI_ltI (a := (E.2.2.2.2.2.1 - 6)) (b := i) (by omega) (by omega)).mpr c1
      refine mn_aload_n 0 dLa_law_27 rfl rfl ?_
      refine mn_iload_n 3 dLa_law_28 rfl rfl ?_
      refine mn_sldN (j := i) (by omega) (by omega) dLa_law_29 ?_
      refine mn_bipush (v := 31) dLa_law_30 (by decide) ?_
      refine mn_iand (z := (E.2.2.2.2.2.2 i) &&& 31) dLa_law_32 rfl ?_
      obtain ⟨c, hc, ec⟩ := and31 (E.2.2.2.2.2.2 i)
      rw [ec]
      match c, hc with
      | 0, _ =>
        refine mn_tableIn (off := 91) 124 dLa_law_33 (by decide) (by decide) (by decide) (by decide) ?_
        refine mn_aload_n 1 dLa_law_124 rfl rfl ?_
        refine mn_aload_n 0 dLa_law_125 rfl rfl ?_
        refine mn_iload_n 3 dLa_law_126 rfl rfl ?_
        refine mn_iconst (v := 1) dLa_law_127 (by decide) ?_
        refine mn_iadd (z := nI (i + 1)) dLa_law_128 (nI_add i 1) ?_
        refine mn_sldN (j := i + 1) (by omega) (by omega) dLa_law_129 ?_
        refine mn_aload_n 0 dLa_law_130 rfl rfl ?_
        refine mn_iload_n 3 dLa_law_131 rfl rfl ?_
        refine mn_iconst (v := 2) dLa_law_132 (by decide) ?_
        refine mn_iadd (z := nI (i + 2)) dLa_law_133 (nI_add i 2) ?_
        refine mn_sldN (j := i + 2) (by omega) (by omega) dLa_law_134 ?_
        refine mn_aload_n 0 dLa_law_135 rfl rfl ?_
        refine mn_iload_n 3 dLa_law_136 rfl rfl ?_
        refine mn_iconst (v := 3) dLa_law_137 (by decide) ?_
        refine mn_iadd (z := nI (i + 3)) dLa_law_138 (nI_add i 3) ?_
        refine mn_sldN (j := i + 3) (by omega) (by omega) dLa_law_139 ?_
        refine mn_aload_n 0 dLa_law_140 rfl rfl ?_
        refine mn_iload_n 3 dLa_law_141 rfl rfl ?_
        refine mn_iconst (v := 4) dLa_law_142 (by decide) ?_
        refine mn_iadd (z := nI (i + 4)) dLa_law_143 (nI_add i 4) ?_
        refine mn_sldN (j := i + 4) (by omega) (by omega) dLa_law_144 ?_
        refine mn_aload_n 0 dLa_law_145 rfl rfl ?_
        refine mn_iload_n 3 dLa_law_146 rfl rfl ?_
        refine mn_iconst (v := 5) dLa_law_147 (by decide) ?_
        refine mn_iadd (z := nI (i + 5)) dLa_law_148 (nI_add i 5) ?_
        refine mn_sldN (j := i + 5) (by omega) (by omega) dLa_law_149 ?_
        obtain ⟨v, C1, hX, hY⟩ := pr_feed (E := E) hC (E.2.2.2.2.2.2 (i + 1)) (E.2.2.2.2.2.2 (i + 2)) (E.2.2.2.2.2.2 (i + 3)) (E.2.2.2.2.2.2 (i + 4)) (E.2.2.2.2.2.2 (i + 5))
        have hCV : gV g0 := by obtain ⟨_, _, _, _, _, _, _, _, _, _, _, _, _, _, _, _, _, _, _, hv, -⟩ := hC; exact hv
        refine mn_callV (d' := 2) (w' := 44) (nc' := 0) (ns' := 0) (As := [.int (E.2.2.2.2.2.2 (i + 1)), .int (E.2.2.2.2.2.2 (i + 2)), .int (E.2.2.2.2.2.2 (i + 3)), .int (E.2.2.2.2.2.2 (i + 4)), .int (E.2.2.2.2.2.2 (i + 5))]) (st := []) okVS_feed lLa_13 dLa_law_150 hCV rfl rfl rfl rfl (Nat.le_of_ble_eq_true rfl) (Nat.le_of_ble_eq_true rfl) (by decide) hX (fun v1 g1 hq1 => ?_)
        obtain ⟨rfl, hq1⟩ := hq1
        obtain ⟨⟨fs, hfs⟩, hY⟩ := hY g1 hq1
        show mn_R E MLa_law 8 181 _ _ 153 [(0, .ref 0), (1, .ref 1), (2, .ref 152), (3, .int (nI i))] [.int v] g1 _
        refine mn_aload_n 2 dLa_law_153 rfl rfl ?_
        refine mn_aload_n 0 dLa_law_154 rfl rfl ?_
        refine mn_iload_n 3 dLa_law_155 rfl rfl ?_
        refine mn_iconst (v := 1) dLa_law_156 (by decide) ?_
        refine mn_iadd (z := nI (i + 1)) dLa_law_157 (nI_add i 1) ?_
        refine mn_sldN (j := i + 1) (by omega) (by omega) dLa_law_158 ?_
        refine mn_aload_n 0 dLa_law_159 rfl rfl ?_
        refine mn_iload_n 3 dLa_law_160 rfl rfl ?_
        refine mn_iconst (v := 2) dLa_law_161 (by decide) ?_
        refine mn_iadd (z := nI (i + 2)) dLa_law_162 (nI_add i 2) ?_
        refine mn_sldN (j := i + 2) (by omega) (by omega) dLa_law_163 ?_
        refine mn_aload_n 0 dLa_law_164 rfl rfl ?_
        refine mn_iload_n 3 dLa_law_165 rfl rfl ?_
        refine mn_iconst (v := 3) dLa_law_166 (by decide) ?_
        refine mn_iadd (z := nI (i + 3)) dLa_law_167 (nI_add i 3) ?_
        refine mn_sldN (j := i + 3) (by omega) (by omega) dLa_law_168 ?_
        refine mn_aload_n 0 dLa_law_169 rfl rfl ?_
        refine mn_iload_n 3 dLa_law_170 rfl rfl ?_
        refine mn_iconst (v := 4) dLa_law_171 (by decide) ?_
        refine mn_iadd (z := nI (i + 4)) dLa_law_172 (nI_add i 4) ?_
        refine mn_sldN (j := i + 4) (by omega) (by omega) dLa_law_173 ?_
        refine mn_aload_n 0 dLa_law_174 rfl rfl ?_
        refine mn_iload_n 3 dLa_law_175 rfl rfl ?_
        refine mn_iconst (v := 5) dLa_law_176 (by decide) ?_
        refine mn_iadd (z := nI (i + 5)) dLa_law_177 (nI_add i 5) ?_
        refine mn_sldN (j := i + 5) (by omega) (by omega) dLa_law_178 ?_
        refine mn_callV (d' := 0) (w' := 0) (nc' := 0) (ns' := 0) (As := [.int (E.2.2.2.2.2.2 (i + 1)), .int (E.2.2.2.2.2.2 (i + 2)), .int (E.2.2.2.2.2.2 (i + 3)), .int (E.2.2.2.2.2.2 (i + 4)), .int (E.2.2.2.2.2.2 (i + 5))]) (st := [.int v]) okMo_feed lLa_17 dLa_law_179 hfs rfl rfl rfl rfl (Nat.le_of_ble_eq_true rfl) (Nat.le_of_ble_eq_true rfl) (by decide) hY (fun v2 g2 hq2 => ?_)
        obtain ⟨rfl, hC2⟩ := hq2
        show mn_R E MLa_law 8 181 _ _ 182 [(0, .ref 0), (1, .ref 1), (2, .ref 152), (3, .int (nI i))] [.int v, .int v] g2 _
        refine mn_icmp_eq 651 dLa_law_182 (by decide) (fun c2 => ?_) (fun c2 => ?_)
        · refine mn_iinc (v := nI (i + 6)) (ls' := [(0, .ref 0), (1, .ref 1), (2, .ref 152), (3, .int (nI (i + 6)))]) 3 dLa_law_651 rfl (nI_add i 6) (by decide) rfl ?_
          refine mn_goto 18 dLa_law_654 (by decide) ?_
          refine mn_R.sub [0, 1, 2, 3] (ls' := [(0, .ref 0), (1, .ref 1), (2, .ref 152), (3, .int (nI (i + 6)))]) rfl ?_
          exact ih (i + 6) g2 (by omega) (by omega) hC2
        · exact absurd rfl c2
      | 1, _ =>
        refine mn_tableIn (off := 154) 187 dLa_law_33 (by decide) (by decide) (by decide) (by decide) ?_
        refine mn_aload_n 1 dLa_law_187 rfl rfl ?_
        refine mn_aload_n 0 dLa_law_188 rfl rfl ?_
        refine mn_iload_n 3 dLa_law_189 rfl rfl ?_
        refine mn_iconst (v := 1) dLa_law_190 (by decide) ?_
        refine mn_iadd (z := nI (i + 1)) dLa_law_191 (nI_add i 1) ?_
        refine mn_sldN (j := i + 1) (by omega) (by omega) dLa_law_192 ?_
        obtain ⟨v, C1, hX, hY⟩ := pr_end (E := E) hC (E.2.2.2.2.2.2 (i + 1))
        have hCV : gV g0 := by obtain ⟨_, _, _, _, _, _, _, _, _, _, _, _, _, _, _, _, _, _, _, hv, -⟩ := hC; exact hv
        refine mn_callV (d' := 0) (w' := 0) (nc' := 0) (ns' := 0) (As := [.int (E.2.2.2.2.2.2 (i + 1))]) (st := []) okVS_end lLa_18 dLa_law_193 hCV rfl rfl rfl rfl (Nat.le_of_ble_eq_true rfl) (Nat.le_of_ble_eq_true rfl) (by decide) hX (fun v1 g1 hq1 => ?_)
        obtain ⟨rfl, hq1⟩ := hq1
        obtain ⟨⟨fs, hfs⟩, hY⟩ := hY g1 hq1
        show mn_R E MLa_law 8 181 _ _ 196 [(0, .ref 0), (1, .ref 1), (2, .ref 152), (3, .int (nI i))] [.int v] g1 _
        refine mn_aload_n 2 dLa_law_196 rfl rfl ?_
        refine mn_aload_n 0 dLa_law_197 rfl rfl ?_
        refine mn_iload_n 3 dLa_law_198 rfl rfl ?_
        refine mn_iconst (v := 1) dLa_law_199 (by decide) ?_
        refine mn_iadd (z := nI (i + 1)) dLa_law_200 (nI_add i 1) ?_
        refine mn_sldN (j := i + 1) (by omega) (by omega) dLa_law_201 ?_
        refine mn_callV (d' := 1) (w' := 22) (nc' := 0) (ns' := 0) (As := [.int (E.2.2.2.2.2.2 (i + 1))]) (st := [.int v]) okMo_end lLa_22 dLa_law_202 hfs rfl rfl rfl rfl (Nat.le_of_ble_eq_true rfl) (Nat.le_of_ble_eq_true rfl) (by decide) hY (fun v2 g2 hq2 => ?_)
        obtain ⟨rfl, hC2⟩ := hq2
        show mn_R E MLa_law 8 181 _ _ 205 [(0, .ref 0), (1, .ref 1), (2, .ref 152), (3, .int (nI i))] [.int v, .int v] g2 _
        refine mn_icmp_eq 651 dLa_law_205 (by decide) (fun c3 => ?_) (fun c3 => ?_)
        · refine mn_iinc (v := nI (i + 6)) (ls' := [(0, .ref 0), (1, .ref 1), (2, .ref 152), (3, .int (nI (i + 6)))]) 3 dLa_law_651 rfl (nI_add i 6) (by decide) rfl ?_
          refine mn_goto 18 dLa_law_654 (by decide) ?_
          refine mn_R.sub [0, 1, 2, 3] (ls' := [(0, .ref 0), (1, .ref 1), (2, .ref 152), (3, .int (nI (i + 6)))]) rfl ?_
          exact ih (i + 6) g2 (by omega) (by omega) hC2
        · exact absurd rfl c3
      | 2, _ =>
        refine mn_tableIn (off := 177) 210 dLa_law_33 (by decide) (by decide) (by decide) (by decide) ?_
        refine mn_aload_n 1 dLa_law_210 rfl rfl ?_
        obtain ⟨v, C1, hX, hY⟩ := pr_entry (E := E) hC 
        have hCV : gV g0 := by obtain ⟨_, _, _, _, _, _, _, _, _, _, _, _, _, _, _, _, _, _, _, hv, -⟩ := hC; exact hv
        refine mn_callV (d' := 4) (w' := 88) (nc' := 0) (ns' := 0) (As := []) (st := []) okVS_entry lLa_23 dLa_law_211 hCV rfl rfl rfl rfl (Nat.le_of_ble_eq_true rfl) (Nat.le_of_ble_eq_true rfl) (by decide) hX (fun v1 g1 hq1 => ?_)
        obtain ⟨rfl, hq1⟩ := hq1
        obtain ⟨⟨fs, hfs⟩, hY⟩ := hY g1 hq1
        show mn_R E MLa_law 8 181 _ _ 214 [(0, .ref 0), (1, .ref 1), (2, .ref 152), (3, .int (nI i))] [.int v] g1 _
        refine mn_aload_n 2 dLa_law_214 rfl rfl ?_
        refine mn_callV (d' := 2) (w' := 45) (nc' := 0) (ns' := 0) (As := []) (st := [.int v]) okMo_entry lLa_27 dLa_law_215 hfs rfl rfl rfl rfl (Nat.le_of_ble_eq_true rfl) (Nat.le_of_ble_eq_true rfl) (by decide) hY (fun v2 g2 hq2 => ?_)
        obtain ⟨rfl, hC2⟩ := hq2
        show mn_R E MLa_law 8 181 _ _ 218 [(0, .ref 0), (1, .ref 1), (2, .ref 152), (3, .int (nI i))] [.int v, .int v] g2 _
        refine mn_icmp_eq 651 dLa_law_218 (by decide) (fun c4 => ?_) (fun c4 => ?_)
        · refine mn_iinc (v := nI (i + 6)) (ls' := [(0, .ref 0), (1, .ref 1), (2, .ref 152), (3, .int (nI (i + 6)))]) 3 dLa_law_651 rfl (nI_add i 6) (by decide) rfl ?_
          refine mn_goto 18 dLa_law_654 (by decide) ?_
          refine mn_R.sub [0, 1, 2, 3] (ls' := [(0, .ref 0), (1, .ref 1), (2, .ref 152), (3, .int (nI (i + 6)))]) rfl ?_
          exact ih (i + 6) g2 (by omega) (by omega) hC2
        · exact absurd rfl c4
      | 3, _ =>
        refine mn_tableIn (off := 190) 223 dLa_law_33 (by decide) (by decide) (by decide) (by decide) ?_
        refine mn_aload_n 1 dLa_law_223 rfl rfl ?_
        obtain ⟨v, C1, hX, hY⟩ := pr_clear (E := E) hC 
        have hCV : gV g0 := by obtain ⟨_, _, _, _, _, _, _, _, _, _, _, _, _, _, _, _, _, _, _, hv, -⟩ := hC; exact hv
        refine mn_callV (d' := 3) (w' := 63) (nc' := 0) (ns' := 0) (As := []) (st := []) okVS_clear lLa_28 dLa_law_224 hCV rfl rfl rfl rfl (Nat.le_of_ble_eq_true rfl) (Nat.le_of_ble_eq_true rfl) (by decide) hX (fun v1 g1 hq1 => ?_)
        obtain ⟨rfl, hq1⟩ := hq1
        obtain ⟨⟨fs, hfs⟩, hY⟩ := hY g1 hq1
        show mn_R E MLa_law 8 181 _ _ 227 [(0, .ref 0), (1, .ref 1), (2, .ref 152), (3, .int (nI i))] [.int v] g1 _
        refine mn_aload_n 2 dLa_law_227 rfl rfl ?_
        refine mn_callV (d' := 0) (w' := 0) (nc' := 0) (ns' := 0) (As := []) (st := [.int v]) okMo_clear lLa_31 dLa_law_228 hfs rfl rfl rfl rfl (Nat.le_of_ble_eq_true rfl) (Nat.le_of_ble_eq_true rfl) (by decide) hY (fun v2 g2 hq2 => ?_)
        obtain ⟨rfl, hC2⟩ := hq2
        show mn_R E MLa_law 8 181 _ _ 231 [(0, .ref 0), (1, .ref 1), (2, .ref 152), (3, .int (nI i))] [.int v, .int v] g2 _
        refine mn_icmp_eq 651 dLa_law_231 (by decide) (fun c5 => ?_) (fun c5 => ?_)
        · refine mn_iinc (v := nI (i + 6)) (ls' := [(0, .ref 0), (1, .ref 1), (2, .ref 152), (3, .int (nI (i + 6)))]) 3 dLa_law_651 rfl (nI_add i 6) (by decide) rfl ?_
          refine mn_goto 18 dLa_law_654 (by decide) ?_
          refine mn_R.sub [0, 1, 2, 3] (ls' := [(0, .ref 0), (1, .ref 1), (2, .ref 152), (3, .int (nI (i + 6)))]) rfl ?_
          exact ih (i + 6) g2 (by omega) (by omega) hC2
        · exact absurd rfl c5
      | 4, _ =>
        refine mn_tableIn (off := 203) 236 dLa_law_33 (by decide) (by decide) (by decide) (by decide) ?_
        refine mn_aload_n 1 dLa_law_236 rfl rfl ?_
        refine mn_aload_n 0 dLa_law_237 rfl rfl ?_
        refine mn_iload_n 3 dLa_law_238 rfl rfl ?_
        refine mn_iconst (v := 1) dLa_law_239 (by decide) ?_
        refine mn_iadd (z := nI (i + 1)) dLa_law_240 (nI_add i 1) ?_
        refine mn_sldN (j := i + 1) (by omega) (by omega) dLa_law_241 ?_
        refine mn_aload_n 0 dLa_law_242 rfl rfl ?_
        refine mn_iload_n 3 dLa_law_243 rfl rfl ?_
        refine mn_iconst (v := 2) dLa_law_244 (by decide) ?_
        refine mn_iadd (z := nI (i + 2)) dLa_law_245 (nI_add i 2) ?_
        refine mn_sldN (j := i + 2) (by omega) (by omega) dLa_law_246 ?_
        obtain ⟨v, C1, hX, hY⟩ := pr_rule (E := E) hC (E.2.2.2.2.2.2 (i + 1)) (E.2.2.2.2.2.2 (i + 2))
        have hCV : gV g0 := by obtain ⟨_, _, _, _, _, _, _, _, _, _, _, _, _, _, _, _, _, _, _, hv, -⟩ := hC; exact hv
        refine mn_callV (d' := 2) (w' := 44) (nc' := 0) (ns' := 0) (As := [.int (E.2.2.2.2.2.2 (i + 1)), .int (E.2.2.2.2.2.2 (i + 2))]) (st := []) okVS_rule lLa_32 dLa_law_247 hCV rfl rfl rfl rfl (Nat.le_of_ble_eq_true rfl) (Nat.le_of_ble_eq_true rfl) (by decide) hX (fun v1 g1 hq1 => ?_)
        obtain ⟨rfl, hq1⟩ := hq1
        obtain ⟨⟨fs, hfs⟩, hY⟩ := hY g1 hq1
        show mn_R E MLa_law 8 181 _ _ 250 [(0, .ref 0), (1, .ref 1), (2, .ref 152), (3, .int (nI i))] [.int v] g1 _
        refine mn_aload_n 2 dLa_law_250 rfl rfl ?_
        refine mn_aload_n 0 dLa_law_251 rfl rfl ?_
        refine mn_iload_n 3 dLa_law_252 rfl rfl ?_
        refine mn_iconst (v := 1) dLa_law_253 (by decide) ?_
        refine mn_iadd (z := nI (i + 1)) dLa_law_254 (nI_add i 1) ?_
        refine mn_sldN (j := i + 1) (by omega) (by omega) dLa_law_255 ?_
        refine mn_aload_n 0 dLa_law_256 rfl rfl ?_
        refine mn_iload_n 3 dLa_law_257 rfl rfl ?_
        refine mn_iconst (v := 2) dLa_law_258 (by decide) ?_
        refine mn_iadd (z := nI (i + 2)) dLa_law_259 (nI_add i 2) ?_
        refine mn_sldN (j := i + 2) (by omega) (by omega) dLa_law_260 ?_
        refine mn_callV (d' := 1) (w' := 22) (nc' := 0) (ns' := 0) (As := [.int (E.2.2.2.2.2.2 (i + 1)), .int (E.2.2.2.2.2.2 (i + 2))]) (st := [.int v]) okMo_rule lLa_36 dLa_law_261 hfs rfl rfl rfl rfl (Nat.le_of_ble_eq_true rfl) (Nat.le_of_ble_eq_true rfl) (by decide) hY (fun v2 g2 hq2 => ?_)
        obtain ⟨rfl, hC2⟩ := hq2
        show mn_R E MLa_law 8 181 _ _ 264 [(0, .ref 0), (1, .ref 1), (2, .ref 152), (3, .int (nI i))] [.int v, .int v] g2 _
        refine mn_icmp_eq 651 dLa_law_264 (by decide) (fun c6 => ?_) (fun c6 => ?_)
        · refine mn_iinc (v := nI (i + 6)) (ls' := [(0, .ref 0), (1, .ref 1), (2, .ref 152), (3, .int (nI (i + 6)))]) 3 dLa_law_651 rfl (nI_add i 6) (by decide) rfl ?_
          refine mn_goto 18 dLa_law_654 (by decide) ?_
          refine mn_R.sub [0, 1, 2, 3] (ls' := [(0, .ref 0), (1, .ref 1), (2, .ref 152), (3, .int (nI (i + 6)))]) rfl ?_
          exact ih (i + 6) g2 (by omega) (by omega) hC2
        · exact absurd rfl c6
      | 5, _ =>
        refine mn_tableIn (off := 236) 269 dLa_law_33 (by decide) (by decide) (by decide) (by decide) ?_
        refine mn_aload_n 1 dLa_law_269 rfl rfl ?_
        obtain ⟨v, C1, hX, hY⟩ := pr_volumes (E := E) hC 
        have hCV : gV g0 := by obtain ⟨_, _, _, _, _, _, _, _, _, _, _, _, _, _, _, _, _, _, _, hv, -⟩ := hC; exact hv
        refine mn_callV (d' := 2) (w' := 42) (nc' := 0) (ns' := 0) (As := []) (st := []) okVS_volumes lLa_37 dLa_law_270 hCV rfl rfl rfl rfl (Nat.le_of_ble_eq_true rfl) (Nat.le_of_ble_eq_true rfl) (by decide) hX (fun v1 g1 hq1 => ?_)
        obtain ⟨rfl, hq1⟩ := hq1
        obtain ⟨⟨fs, hfs⟩, hY⟩ := hY g1 hq1
        show mn_R E MLa_law 8 181 _ _ 273 [(0, .ref 0), (1, .ref 1), (2, .ref 152), (3, .int (nI i))] [.int v] g1 _
        refine mn_aload_n 2 dLa_law_273 rfl rfl ?_
        refine mn_callV (d' := 2) (w' := 40) (nc' := 0) (ns' := 0) (As := []) (st := [.int v]) okMo_volumes lLa_40 dLa_law_274 hfs rfl rfl rfl rfl (Nat.le_of_ble_eq_true rfl) (Nat.le_of_ble_eq_true rfl) (by decide) hY (fun v2 g2 hq2 => ?_)
        obtain ⟨rfl, hC2⟩ := hq2
        show mn_R E MLa_law 8 181 _ _ 277 [(0, .ref 0), (1, .ref 1), (2, .ref 152), (3, .int (nI i))] [.int v, .int v] g2 _
        refine mn_icmp_eq 651 dLa_law_277 (by decide) (fun c7 => ?_) (fun c7 => ?_)
        · refine mn_iinc (v := nI (i + 6)) (ls' := [(0, .ref 0), (1, .ref 1), (2, .ref 152), (3, .int (nI (i + 6)))]) 3 dLa_law_651 rfl (nI_add i 6) (by decide) rfl ?_
          refine mn_goto 18 dLa_law_654 (by decide) ?_
          refine mn_R.sub [0, 1, 2, 3] (ls' := [(0, .ref 0), (1, .ref 1), (2, .ref 152), (3, .int (nI (i + 6)))]) rfl ?_
          exact ih (i + 6) g2 (by omega) (by omega) hC2
        · exact absurd rfl c7
      | 6, _ =>
        refine mn_tableIn (off := 249) 282 dLa_law_33 (by decide) (by decide) (by decide) (by decide) ?_
        refine mn_aload_n 1 dLa_law_282 rfl rfl ?_
        refine mn_aload_n 0 dLa_law_283 rfl rfl ?_
        refine mn_iload_n 3 dLa_law_284 rfl rfl ?_
        refine mn_iconst (v := 1) dLa_law_285 (by decide) ?_
        refine mn_iadd (z := nI (i + 1)) dLa_law_286 (nI_add i 1) ?_
        refine mn_sldN (j := i + 1) (by omega) (by omega) dLa_law_287 ?_
        refine mn_aload_n 0 dLa_law_288 rfl rfl ?_
        refine mn_iload_n 3 dLa_law_289 rfl rfl ?_
        refine mn_iconst (v := 2) dLa_law_290 (by decide) ?_
        refine mn_iadd (z := nI (i + 2)) dLa_law_291 (nI_add i 2) ?_
        refine mn_sldN (j := i + 2) (by omega) (by omega) dLa_law_292 ?_
        obtain ⟨v, C1, hX, hY⟩ := pr_byteOf (E := E) hC (E.2.2.2.2.2.2 (i + 1)) (E.2.2.2.2.2.2 (i + 2))
        have hCV : gV g0 := by obtain ⟨_, _, _, _, _, _, _, _, _, _, _, _, _, _, _, _, _, _, _, hv, -⟩ := hC; exact hv
        refine mn_callV (d' := 4) (w' := 94) (nc' := 0) (ns' := 0) (As := [.int (E.2.2.2.2.2.2 (i + 1)), .int (E.2.2.2.2.2.2 (i + 2))]) (st := []) okVS_byteOf lLa_41 dLa_law_293 hCV rfl rfl rfl rfl (Nat.le_of_ble_eq_true rfl) (Nat.le_of_ble_eq_true rfl) (by decide) hX (fun v1 g1 hq1 => ?_)
        obtain ⟨rfl, hq1⟩ := hq1
        obtain ⟨⟨fs, hfs⟩, hY⟩ := hY g1 hq1
        show mn_R E MLa_law 8 181 _ _ 296 [(0, .ref 0), (1, .ref 1), (2, .ref 152), (3, .int (nI i))] [.int v] g1 _
        refine mn_aload_n 2 dLa_law_296 rfl rfl ?_
        refine mn_aload_n 0 dLa_law_297 rfl rfl ?_
        refine mn_iload_n 3 dLa_law_298 rfl rfl ?_
        refine mn_iconst (v := 1) dLa_law_299 (by decide) ?_
        refine mn_iadd (z := nI (i + 1)) dLa_law_300 (nI_add i 1) ?_
        refine mn_sldN (j := i + 1) (by omega) (by omega) dLa_law_301 ?_
        refine mn_aload_n 0 dLa_law_302 rfl rfl ?_
        refine mn_iload_n 3 dLa_law_303 rfl rfl ?_
        refine mn_iconst (v := 2) dLa_law_304 (by decide) ?_
        refine mn_iadd (z := nI (i + 2)) dLa_law_305 (nI_add i 2) ?_
        refine mn_sldN (j := i + 2) (by omega) (by omega) dLa_law_306 ?_
        refine mn_callV (d' := 4) (w' := 98) (nc' := 0) (ns' := 0) (As := [.int (E.2.2.2.2.2.2 (i + 1)), .int (E.2.2.2.2.2.2 (i + 2))]) (st := [.int v]) okMo_byteOf lLa_44 dLa_law_307 hfs rfl rfl rfl rfl (Nat.le_of_ble_eq_true rfl) (Nat.le_of_ble_eq_true rfl) (by decide) hY (fun v2 g2 hq2 => ?_)
        obtain ⟨rfl, hC2⟩ := hq2
        show mn_R E MLa_law 8 181 _ _ 310 [(0, .ref 0), (1, .ref 1), (2, .ref 152), (3, .int (nI i))] [.int v, .int v] g2 _
        refine mn_icmp_eq 651 dLa_law_310 (by decide) (fun c8 => ?_) (fun c8 => ?_)
        · refine mn_iinc (v := nI (i + 6)) (ls' := [(0, .ref 0), (1, .ref 1), (2, .ref 152), (3, .int (nI (i + 6)))]) 3 dLa_law_651 rfl (nI_add i 6) (by decide) rfl ?_
          refine mn_goto 18 dLa_law_654 (by decide) ?_
          refine mn_R.sub [0, 1, 2, 3] (ls' := [(0, .ref 0), (1, .ref 1), (2, .ref 152), (3, .int (nI (i + 6)))]) rfl ?_
          exact ih (i + 6) g2 (by omega) (by omega) hC2
        · exact absurd rfl c8
      | 7, _ =>
        refine mn_tableIn (off := 282) 315 dLa_law_33 (by decide) (by decide) (by decide) (by decide) ?_
        refine mn_aload_n 1 dLa_law_315 rfl rfl ?_
        refine mn_aload_n 0 dLa_law_316 rfl rfl ?_
        refine mn_iload_n 3 dLa_law_317 rfl rfl ?_
        refine mn_iconst (v := 1) dLa_law_318 (by decide) ?_
        refine mn_iadd (z := nI (i + 1)) dLa_law_319 (nI_add i 1) ?_
        refine mn_sldN (j := i + 1) (by omega) (by omega) dLa_law_320 ?_
        obtain ⟨v, C1, hX, hY⟩ := pr_write (E := E) hC (E.2.2.2.2.2.2 (i + 1))
        have hCV : gV g0 := by obtain ⟨_, _, _, _, _, _, _, _, _, _, _, _, _, _, _, _, _, _, _, hv, -⟩ := hC; exact hv
        refine mn_callV (d' := 5) (w' := 120) (nc' := 0) (ns' := 0) (As := [.int (E.2.2.2.2.2.2 (i + 1))]) (st := []) okVS_write lLa_45 dLa_law_321 hCV rfl rfl rfl rfl (Nat.le_of_ble_eq_true rfl) (Nat.le_of_ble_eq_true rfl) (by decide) hX (fun v1 g1 hq1 => ?_)
        obtain ⟨rfl, hq1⟩ := hq1
        obtain ⟨⟨fs, hfs⟩, hY⟩ := hY g1 hq1
        show mn_R E MLa_law 8 181 _ _ 324 [(0, .ref 0), (1, .ref 1), (2, .ref 152), (3, .int (nI i))] [.int v] g1 _
        refine mn_aload_n 2 dLa_law_324 rfl rfl ?_
        refine mn_aload_n 0 dLa_law_325 rfl rfl ?_
        refine mn_iload_n 3 dLa_law_326 rfl rfl ?_
        refine mn_iconst (v := 1) dLa_law_327 (by decide) ?_
        refine mn_iadd (z := nI (i + 1)) dLa_law_328 (nI_add i 1) ?_
        refine mn_sldN (j := i + 1) (by omega) (by omega) dLa_law_329 ?_
        refine mn_callV (d' := 4) (w' := 98) (nc' := 0) (ns' := 0) (As := [.int (E.2.2.2.2.2.2 (i + 1))]) (st := [.int v]) okMo_write lLa_48 dLa_law_330 hfs rfl rfl rfl rfl (Nat.le_of_ble_eq_true rfl) (Nat.le_of_ble_eq_true rfl) (by decide) hY (fun v2 g2 hq2 => ?_)
        obtain ⟨rfl, hC2⟩ := hq2
        show mn_R E MLa_law 8 181 _ _ 333 [(0, .ref 0), (1, .ref 1), (2, .ref 152), (3, .int (nI i))] [.int v, .int v] g2 _
        refine mn_icmp_eq 651 dLa_law_333 (by decide) (fun c9 => ?_) (fun c9 => ?_)
        · refine mn_iinc (v := nI (i + 6)) (ls' := [(0, .ref 0), (1, .ref 1), (2, .ref 152), (3, .int (nI (i + 6)))]) 3 dLa_law_651 rfl (nI_add i 6) (by decide) rfl ?_
          refine mn_goto 18 dLa_law_654 (by decide) ?_
          refine mn_R.sub [0, 1, 2, 3] (ls' := [(0, .ref 0), (1, .ref 1), (2, .ref 152), (3, .int (nI (i + 6)))]) rfl ?_
          exact ih (i + 6) g2 (by omega) (by omega) hC2
        · exact absurd rfl c9
      | 8, _ =>
        refine mn_tableIn (off := 305) 338 dLa_law_33 (by decide) (by decide) (by decide) (by decide) ?_
        refine mn_aload_n 1 dLa_law_338 rfl rfl ?_
        refine mn_aload_n 0 dLa_law_339 rfl rfl ?_
        refine mn_iload_n 3 dLa_law_340 rfl rfl ?_
        refine mn_iconst (v := 1) dLa_law_341 (by decide) ?_
        refine mn_iadd (z := nI (i + 1)) dLa_law_342 (nI_add i 1) ?_
        refine mn_sldN (j := i + 1) (by omega) (by omega) dLa_law_343 ?_
        obtain ⟨v, C1, hX, hY⟩ := pr_lose (E := E) hC (E.2.2.2.2.2.2 (i + 1))
        have hCV : gV g0 := by obtain ⟨_, _, _, _, _, _, _, _, _, _, _, _, _, _, _, _, _, _, _, hv, -⟩ := hC; exact hv
        refine mn_callV (d' := 1) (w' := 21) (nc' := 0) (ns' := 0) (As := [.int (E.2.2.2.2.2.2 (i + 1))]) (st := []) okVS_lose lLa_49 dLa_law_344 hCV rfl rfl rfl rfl (Nat.le_of_ble_eq_true rfl) (Nat.le_of_ble_eq_true rfl) (by decide) hX (fun v1 g1 hq1 => ?_)
        obtain ⟨rfl, hq1⟩ := hq1
        obtain ⟨⟨fs, hfs⟩, hY⟩ := hY g1 hq1
        show mn_R E MLa_law 8 181 _ _ 347 [(0, .ref 0), (1, .ref 1), (2, .ref 152), (3, .int (nI i))] [.int v] g1 _
        refine mn_aload_n 2 dLa_law_347 rfl rfl ?_
        refine mn_aload_n 0 dLa_law_348 rfl rfl ?_
        refine mn_iload_n 3 dLa_law_349 rfl rfl ?_
        refine mn_iconst (v := 1) dLa_law_350 (by decide) ?_
        refine mn_iadd (z := nI (i + 1)) dLa_law_351 (nI_add i 1) ?_
        refine mn_sldN (j := i + 1) (by omega) (by omega) dLa_law_352 ?_
        refine mn_callV (d' := 2) (w' := 43) (nc' := 0) (ns' := 0) (As := [.int (E.2.2.2.2.2.2 (i + 1))]) (st := [.int v]) okMo_lose lLa_52 dLa_law_353 hfs rfl rfl rfl rfl (Nat.le_of_ble_eq_true rfl) (Nat.le_of_ble_eq_true rfl) (by decide) hY (fun v2 g2 hq2 => ?_)
        obtain ⟨rfl, hC2⟩ := hq2
        show mn_R E MLa_law 8 181 _ _ 356 [(0, .ref 0), (1, .ref 1), (2, .ref 152), (3, .int (nI i))] [.int v, .int v] g2 _
        refine mn_icmp_eq 651 dLa_law_356 (by decide) (fun c10 => ?_) (fun c10 => ?_)
        · refine mn_iinc (v := nI (i + 6)) (ls' := [(0, .ref 0), (1, .ref 1), (2, .ref 152), (3, .int (nI (i + 6)))]) 3 dLa_law_651 rfl (nI_add i 6) (by decide) rfl ?_
          refine mn_goto 18 dLa_law_654 (by decide) ?_
          refine mn_R.sub [0, 1, 2, 3] (ls' := [(0, .ref 0), (1, .ref 1), (2, .ref 152), (3, .int (nI (i + 6)))]) rfl ?_
          exact ih (i + 6) g2 (by omega) (by omega) hC2
        · exact absurd rfl c10
      | 9, _ =>
        refine mn_tableIn (off := 328) 361 dLa_law_33 (by decide) (by decide) (by decide) (by decide) ?_
        refine mn_aload_n 1 dLa_law_361 rfl rfl ?_
        refine mn_aload_n 0 dLa_law_362 rfl rfl ?_
        refine mn_iload_n 3 dLa_law_363 rfl rfl ?_
        refine mn_iconst (v := 1) dLa_law_364 (by decide) ?_
        refine mn_iadd (z := nI (i + 1)) dLa_law_365 (nI_add i 1) ?_
        refine mn_sldN (j := i + 1) (by omega) (by omega) dLa_law_366 ?_
        refine mn_aload_n 0 dLa_law_367 rfl rfl ?_
        refine mn_iload_n 3 dLa_law_368 rfl rfl ?_
        refine mn_iconst (v := 2) dLa_law_369 (by decide) ?_
        refine mn_iadd (z := nI (i + 2)) dLa_law_370 (nI_add i 2) ?_
        refine mn_sldN (j := i + 2) (by omega) (by omega) dLa_law_371 ?_
        refine mn_aload_n 0 dLa_law_372 rfl rfl ?_
        refine mn_iload_n 3 dLa_law_373 rfl rfl ?_
        refine mn_iconst (v := 3) dLa_law_374 (by decide) ?_
        refine mn_iadd (z := nI (i + 3)) dLa_law_375 (nI_add i 3) ?_
        refine mn_sldN (j := i + 3) (by omega) (by omega) dLa_law_376 ?_
        obtain ⟨v, C1, hX, hY⟩ := pr_poke (E := E) hC (E.2.2.2.2.2.2 (i + 1)) (E.2.2.2.2.2.2 (i + 2)) (E.2.2.2.2.2.2 (i + 3))
        have hCV : gV g0 := by obtain ⟨_, _, _, _, _, _, _, _, _, _, _, _, _, _, _, _, _, _, _, hv, -⟩ := hC; exact hv
        refine mn_callV (d' := 1) (w' := 22) (nc' := 0) (ns' := 0) (As := [.int (E.2.2.2.2.2.2 (i + 1)), .int (E.2.2.2.2.2.2 (i + 2)), .int (E.2.2.2.2.2.2 (i + 3))]) (st := []) okVS_poke lLa_53 dLa_law_377 hCV rfl rfl rfl rfl (Nat.le_of_ble_eq_true rfl) (Nat.le_of_ble_eq_true rfl) (by decide) hX (fun v1 g1 hq1 => ?_)
        obtain ⟨rfl, hq1⟩ := hq1
        obtain ⟨⟨fs, hfs⟩, hY⟩ := hY g1 hq1
        show mn_R E MLa_law 8 181 _ _ 380 [(0, .ref 0), (1, .ref 1), (2, .ref 152), (3, .int (nI i))] [.int v] g1 _
        refine mn_aload_n 2 dLa_law_380 rfl rfl ?_
        refine mn_aload_n 0 dLa_law_381 rfl rfl ?_
        refine mn_iload_n 3 dLa_law_382 rfl rfl ?_
        refine mn_iconst (v := 1) dLa_law_383 (by decide) ?_
        refine mn_iadd (z := nI (i + 1)) dLa_law_384 (nI_add i 1) ?_
        refine mn_sldN (j := i + 1) (by omega) (by omega) dLa_law_385 ?_
        refine mn_aload_n 0 dLa_law_386 rfl rfl ?_
        refine mn_iload_n 3 dLa_law_387 rfl rfl ?_
        refine mn_iconst (v := 2) dLa_law_388 (by decide) ?_
        refine mn_iadd (z := nI (i + 2)) dLa_law_389 (nI_add i 2) ?_
        refine mn_sldN (j := i + 2) (by omega) (by omega) dLa_law_390 ?_
        refine mn_aload_n 0 dLa_law_391 rfl rfl ?_
        refine mn_iload_n 3 dLa_law_392 rfl rfl ?_
        refine mn_iconst (v := 3) dLa_law_393 (by decide) ?_
        refine mn_iadd (z := nI (i + 3)) dLa_law_394 (nI_add i 3) ?_
        refine mn_sldN (j := i + 3) (by omega) (by omega) dLa_law_395 ?_
        refine mn_callV (d' := 2) (w' := 43) (nc' := 0) (ns' := 0) (As := [.int (E.2.2.2.2.2.2 (i + 1)), .int (E.2.2.2.2.2.2 (i + 2)), .int (E.2.2.2.2.2.2 (i + 3))]) (st := [.int v]) okMo_poke lLa_57 dLa_law_396 hfs rfl rfl rfl rfl (Nat.le_of_ble_eq_true rfl) (Nat.le_of_ble_eq_true rfl) (by decide) hY (fun v2 g2 hq2 => ?_)
        obtain ⟨rfl, hC2⟩ := hq2
        show mn_R E MLa_law 8 181 _ _ 399 [(0, .ref 0), (1, .ref 1), (2, .ref 152), (3, .int (nI i))] [.int v, .int v] g2 _
        refine mn_icmp_eq 651 dLa_law_399 (by decide) (fun c11 => ?_) (fun c11 => ?_)
        · refine mn_iinc (v := nI (i + 6)) (ls' := [(0, .ref 0), (1, .ref 1), (2, .ref 152), (3, .int (nI (i + 6)))]) 3 dLa_law_651 rfl (nI_add i 6) (by decide) rfl ?_
          refine mn_goto 18 dLa_law_654 (by decide) ?_
          refine mn_R.sub [0, 1, 2, 3] (ls' := [(0, .ref 0), (1, .ref 1), (2, .ref 152), (3, .int (nI (i + 6)))]) rfl ?_
          exact ih (i + 6) g2 (by omega) (by omega) hC2
        · exact absurd rfl c11
      | 10, _ =>
        refine mn_tableIn (off := 371) 404 dLa_law_33 (by decide) (by decide) (by decide) (by decide) ?_
        refine mn_aload_n 1 dLa_law_404 rfl rfl ?_
        refine mn_aload_n 0 dLa_law_405 rfl rfl ?_
        refine mn_iload_n 3 dLa_law_406 rfl rfl ?_
        refine mn_iconst (v := 1) dLa_law_407 (by decide) ?_
        refine mn_iadd (z := nI (i + 1)) dLa_law_408 (nI_add i 1) ?_
        refine mn_sldN (j := i + 1) (by omega) (by omega) dLa_law_409 ?_
        refine mn_aload_n 0 dLa_law_410 rfl rfl ?_
        refine mn_iload_n 3 dLa_law_411 rfl rfl ?_
        refine mn_iconst (v := 2) dLa_law_412 (by decide) ?_
        refine mn_iadd (z := nI (i + 2)) dLa_law_413 (nI_add i 2) ?_
        refine mn_sldN (j := i + 2) (by omega) (by omega) dLa_law_414 ?_
        obtain ⟨v, C1, hX, hY⟩ := pr_swap (E := E) hC (E.2.2.2.2.2.2 (i + 1)) (E.2.2.2.2.2.2 (i + 2))
        have hCV : gV g0 := by obtain ⟨_, _, _, _, _, _, _, _, _, _, _, _, _, _, _, _, _, _, _, hv, -⟩ := hC; exact hv
        refine mn_callV (d' := 2) (w' := 45) (nc' := 0) (ns' := 0) (As := [.int (E.2.2.2.2.2.2 (i + 1)), .int (E.2.2.2.2.2.2 (i + 2))]) (st := []) okVS_swap lLa_58 dLa_law_415 hCV rfl rfl rfl rfl (Nat.le_of_ble_eq_true rfl) (Nat.le_of_ble_eq_true rfl) (by decide) hX (fun v1 g1 hq1 => ?_)
        obtain ⟨rfl, hq1⟩ := hq1
        obtain ⟨⟨fs, hfs⟩, hY⟩ := hY g1 hq1
        show mn_R E MLa_law 8 181 _ _ 418 [(0, .ref 0), (1, .ref 1), (2, .ref 152), (3, .int (nI i))] [.int v] g1 _
        refine mn_aload_n 2 dLa_law_418 rfl rfl ?_
        refine mn_aload_n 0 dLa_law_419 rfl rfl ?_
        refine mn_iload_n 3 dLa_law_420 rfl rfl ?_
        refine mn_iconst (v := 1) dLa_law_421 (by decide) ?_
        refine mn_iadd (z := nI (i + 1)) dLa_law_422 (nI_add i 1) ?_
        refine mn_sldN (j := i + 1) (by omega) (by omega) dLa_law_423 ?_
        refine mn_aload_n 0 dLa_law_424 rfl rfl ?_
        refine mn_iload_n 3 dLa_law_425 rfl rfl ?_
        refine mn_iconst (v := 2) dLa_law_426 (by decide) ?_
        refine mn_iadd (z := nI (i + 2)) dLa_law_427 (nI_add i 2) ?_
        refine mn_sldN (j := i + 2) (by omega) (by omega) dLa_law_428 ?_
        refine mn_callV (d' := 2) (w' := 43) (nc' := 0) (ns' := 0) (As := [.int (E.2.2.2.2.2.2 (i + 1)), .int (E.2.2.2.2.2.2 (i + 2))]) (st := [.int v]) okMo_swap lLa_61 dLa_law_429 hfs rfl rfl rfl rfl (Nat.le_of_ble_eq_true rfl) (Nat.le_of_ble_eq_true rfl) (by decide) hY (fun v2 g2 hq2 => ?_)
        obtain ⟨rfl, hC2⟩ := hq2
        show mn_R E MLa_law 8 181 _ _ 432 [(0, .ref 0), (1, .ref 1), (2, .ref 152), (3, .int (nI i))] [.int v, .int v] g2 _
        refine mn_icmp_eq 651 dLa_law_432 (by decide) (fun c12 => ?_) (fun c12 => ?_)
        · refine mn_iinc (v := nI (i + 6)) (ls' := [(0, .ref 0), (1, .ref 1), (2, .ref 152), (3, .int (nI (i + 6)))]) 3 dLa_law_651 rfl (nI_add i 6) (by decide) rfl ?_
          refine mn_goto 18 dLa_law_654 (by decide) ?_
          refine mn_R.sub [0, 1, 2, 3] (ls' := [(0, .ref 0), (1, .ref 1), (2, .ref 152), (3, .int (nI (i + 6)))]) rfl ?_
          exact ih (i + 6) g2 (by omega) (by omega) hC2
        · exact absurd rfl c12
      | 11, _ =>
        refine mn_tableIn (off := 404) 437 dLa_law_33 (by decide) (by decide) (by decide) (by decide) ?_
        refine mn_aload_n 1 dLa_law_437 rfl rfl ?_
        refine mn_aload_n 0 dLa_law_438 rfl rfl ?_
        refine mn_iload_n 3 dLa_law_439 rfl rfl ?_
        refine mn_iconst (v := 1) dLa_law_440 (by decide) ?_
        refine mn_iadd (z := nI (i + 1)) dLa_law_441 (nI_add i 1) ?_
        refine mn_sldN (j := i + 1) (by omega) (by omega) dLa_law_442 ?_
        refine mn_aload_n 0 dLa_law_443 rfl rfl ?_
        refine mn_iload_n 3 dLa_law_444 rfl rfl ?_
        refine mn_iconst (v := 2) dLa_law_445 (by decide) ?_
        refine mn_iadd (z := nI (i + 2)) dLa_law_446 (nI_add i 2) ?_
        refine mn_sldN (j := i + 2) (by omega) (by omega) dLa_law_447 ?_
        obtain ⟨v, C1, hX, hY⟩ := pr_copy (E := E) hC (E.2.2.2.2.2.2 (i + 1)) (E.2.2.2.2.2.2 (i + 2))
        have hCV : gV g0 := by obtain ⟨_, _, _, _, _, _, _, _, _, _, _, _, _, _, _, _, _, _, _, hv, -⟩ := hC; exact hv
        refine mn_callV (d' := 2) (w' := 47) (nc' := 0) (ns' := 0) (As := [.int (E.2.2.2.2.2.2 (i + 1)), .int (E.2.2.2.2.2.2 (i + 2))]) (st := []) okVS_copy lLa_62 dLa_law_448 hCV rfl rfl rfl rfl (Nat.le_of_ble_eq_true rfl) (Nat.le_of_ble_eq_true rfl) (by decide) hX (fun v1 g1 hq1 => ?_)
        obtain ⟨rfl, hq1⟩ := hq1
        obtain ⟨⟨fs, hfs⟩, hY⟩ := hY g1 hq1
        show mn_R E MLa_law 8 181 _ _ 451 [(0, .ref 0), (1, .ref 1), (2, .ref 152), (3, .int (nI i))] [.int v] g1 _
        refine mn_aload_n 2 dLa_law_451 rfl rfl ?_
        refine mn_aload_n 0 dLa_law_452 rfl rfl ?_
        refine mn_iload_n 3 dLa_law_453 rfl rfl ?_
        refine mn_iconst (v := 1) dLa_law_454 (by decide) ?_
        refine mn_iadd (z := nI (i + 1)) dLa_law_455 (nI_add i 1) ?_
        refine mn_sldN (j := i + 1) (by omega) (by omega) dLa_law_456 ?_
        refine mn_aload_n 0 dLa_law_457 rfl rfl ?_
        refine mn_iload_n 3 dLa_law_458 rfl rfl ?_
        refine mn_iconst (v := 2) dLa_law_459 (by decide) ?_
        refine mn_iadd (z := nI (i + 2)) dLa_law_460 (nI_add i 2) ?_
        refine mn_sldN (j := i + 2) (by omega) (by omega) dLa_law_461 ?_
        refine mn_callV (d' := 2) (w' := 43) (nc' := 0) (ns' := 0) (As := [.int (E.2.2.2.2.2.2 (i + 1)), .int (E.2.2.2.2.2.2 (i + 2))]) (st := [.int v]) okMo_copy lLa_65 dLa_law_462 hfs rfl rfl rfl rfl (Nat.le_of_ble_eq_true rfl) (Nat.le_of_ble_eq_true rfl) (by decide) hY (fun v2 g2 hq2 => ?_)
        obtain ⟨rfl, hC2⟩ := hq2
        show mn_R E MLa_law 8 181 _ _ 465 [(0, .ref 0), (1, .ref 1), (2, .ref 152), (3, .int (nI i))] [.int v, .int v] g2 _
        refine mn_icmp_eq 651 dLa_law_465 (by decide) (fun c13 => ?_) (fun c13 => ?_)
        · refine mn_iinc (v := nI (i + 6)) (ls' := [(0, .ref 0), (1, .ref 1), (2, .ref 152), (3, .int (nI (i + 6)))]) 3 dLa_law_651 rfl (nI_add i 6) (by decide) rfl ?_
          refine mn_goto 18 dLa_law_654 (by decide) ?_
          refine mn_R.sub [0, 1, 2, 3] (ls' := [(0, .ref 0), (1, .ref 1), (2, .ref 152), (3, .int (nI (i + 6)))]) rfl ?_
          exact ih (i + 6) g2 (by omega) (by omega) hC2
        · exact absurd rfl c13
      | 12, _ =>
        refine mn_tableIn (off := 437) 470 dLa_law_33 (by decide) (by decide) (by decide) (by decide) ?_
        refine mn_aload_n 1 dLa_law_470 rfl rfl ?_
        refine mn_aload_n 0 dLa_law_471 rfl rfl ?_
        refine mn_iload_n 3 dLa_law_472 rfl rfl ?_
        refine mn_iconst (v := 1) dLa_law_473 (by decide) ?_
        refine mn_iadd (z := nI (i + 1)) dLa_law_474 (nI_add i 1) ?_
        refine mn_sldN (j := i + 1) (by omega) (by omega) dLa_law_475 ?_
        refine mn_aload_n 0 dLa_law_476 rfl rfl ?_
        refine mn_iload_n 3 dLa_law_477 rfl rfl ?_
        refine mn_iconst (v := 2) dLa_law_478 (by decide) ?_
        refine mn_iadd (z := nI (i + 2)) dLa_law_479 (nI_add i 2) ?_
        refine mn_sldN (j := i + 2) (by omega) (by omega) dLa_law_480 ?_
        obtain ⟨v, C1, hX, hY⟩ := pr_slot (E := E) hC (E.2.2.2.2.2.2 (i + 1)) (E.2.2.2.2.2.2 (i + 2))
        have hCV : gV g0 := by obtain ⟨_, _, _, _, _, _, _, _, _, _, _, _, _, _, _, _, _, _, _, hv, -⟩ := hC; exact hv
        refine mn_callV (d' := 4) (w' := 88) (nc' := 0) (ns' := 0) (As := [.int (E.2.2.2.2.2.2 (i + 1)), .int (E.2.2.2.2.2.2 (i + 2))]) (st := []) okVS_slot lLa_66 dLa_law_481 hCV rfl rfl rfl rfl (Nat.le_of_ble_eq_true rfl) (Nat.le_of_ble_eq_true rfl) (by decide) hX (fun v1 g1 hq1 => ?_)
        obtain ⟨rfl, hq1⟩ := hq1
        obtain ⟨⟨fs, hfs⟩, hY⟩ := hY g1 hq1
        show mn_R E MLa_law 8 181 _ _ 484 [(0, .ref 0), (1, .ref 1), (2, .ref 152), (3, .int (nI i))] [.int v] g1 _
        refine mn_aload_n 2 dLa_law_484 rfl rfl ?_
        refine mn_aload_n 0 dLa_law_485 rfl rfl ?_
        refine mn_iload_n 3 dLa_law_486 rfl rfl ?_
        refine mn_iconst (v := 1) dLa_law_487 (by decide) ?_
        refine mn_iadd (z := nI (i + 1)) dLa_law_488 (nI_add i 1) ?_
        refine mn_sldN (j := i + 1) (by omega) (by omega) dLa_law_489 ?_
        refine mn_aload_n 0 dLa_law_490 rfl rfl ?_
        refine mn_iload_n 3 dLa_law_491 rfl rfl ?_
        refine mn_iconst (v := 2) dLa_law_492 (by decide) ?_
        refine mn_iadd (z := nI (i + 2)) dLa_law_493 (nI_add i 2) ?_
        refine mn_sldN (j := i + 2) (by omega) (by omega) dLa_law_494 ?_
        refine mn_callV (d' := 3) (w' := 68) (nc' := 0) (ns' := 0) (As := [.int (E.2.2.2.2.2.2 (i + 1)), .int (E.2.2.2.2.2.2 (i + 2))]) (st := [.int v]) okMo_slot lLa_69 dLa_law_495 hfs rfl rfl rfl rfl (Nat.le_of_ble_eq_true rfl) (Nat.le_of_ble_eq_true rfl) (by decide) hY (fun v2 g2 hq2 => ?_)
        obtain ⟨rfl, hC2⟩ := hq2
        show mn_R E MLa_law 8 181 _ _ 498 [(0, .ref 0), (1, .ref 1), (2, .ref 152), (3, .int (nI i))] [.int v, .int v] g2 _
        refine mn_icmp_eq 651 dLa_law_498 (by decide) (fun c14 => ?_) (fun c14 => ?_)
        · refine mn_iinc (v := nI (i + 6)) (ls' := [(0, .ref 0), (1, .ref 1), (2, .ref 152), (3, .int (nI (i + 6)))]) 3 dLa_law_651 rfl (nI_add i 6) (by decide) rfl ?_
          refine mn_goto 18 dLa_law_654 (by decide) ?_
          refine mn_R.sub [0, 1, 2, 3] (ls' := [(0, .ref 0), (1, .ref 1), (2, .ref 152), (3, .int (nI (i + 6)))]) rfl ?_
          exact ih (i + 6) g2 (by omega) (by omega) hC2
        · exact absurd rfl c14
      | 13, _ =>
        refine mn_tableIn (off := 470) 503 dLa_law_33 (by decide) (by decide) (by decide) (by decide) ?_
        refine mn_aload_n 1 dLa_law_503 rfl rfl ?_
        refine mn_aload_n 0 dLa_law_504 rfl rfl ?_
        refine mn_iload_n 3 dLa_law_505 rfl rfl ?_
        refine mn_iconst (v := 1) dLa_law_506 (by decide) ?_
        refine mn_iadd (z := nI (i + 1)) dLa_law_507 (nI_add i 1) ?_
        refine mn_sldN (j := i + 1) (by omega) (by omega) dLa_law_508 ?_
        obtain ⟨v, C1, hX, hY⟩ := pr_read (E := E) hC (E.2.2.2.2.2.2 (i + 1))
        have hCV : gV g0 := by obtain ⟨_, _, _, _, _, _, _, _, _, _, _, _, _, _, _, _, _, _, _, hv, -⟩ := hC; exact hv
        refine mn_callV (d' := 7) (w' := 159) (nc' := 0) (ns' := 0) (As := [.int (E.2.2.2.2.2.2 (i + 1))]) (st := []) okVS_read lLa_70 dLa_law_509 hCV rfl rfl rfl rfl (Nat.le_of_ble_eq_true rfl) (Nat.le_of_ble_eq_true rfl) (by decide) hX (fun v1 g1 hq1 => ?_)
        obtain ⟨rfl, hq1⟩ := hq1
        obtain ⟨⟨fs, hfs⟩, hY⟩ := hY g1 hq1
        show mn_R E MLa_law 8 181 _ _ 512 [(0, .ref 0), (1, .ref 1), (2, .ref 152), (3, .int (nI i))] [.int v] g1 _
        refine mn_aload_n 2 dLa_law_512 rfl rfl ?_
        refine mn_aload_n 0 dLa_law_513 rfl rfl ?_
        refine mn_iload_n 3 dLa_law_514 rfl rfl ?_
        refine mn_iconst (v := 1) dLa_law_515 (by decide) ?_
        refine mn_iadd (z := nI (i + 1)) dLa_law_516 (nI_add i 1) ?_
        refine mn_sldN (j := i + 1) (by omega) (by omega) dLa_law_517 ?_
        refine mn_callV (d' := 4) (w' := 97) (nc' := 0) (ns' := 0) (As := [.int (E.2.2.2.2.2.2 (i + 1))]) (st := [.int v]) okMo_read lLa_73 dLa_law_518 hfs rfl rfl rfl rfl (Nat.le_of_ble_eq_true rfl) (Nat.le_of_ble_eq_true rfl) (by decide) hY (fun v2 g2 hq2 => ?_)
        obtain ⟨rfl, hC2⟩ := hq2
        show mn_R E MLa_law 8 181 _ _ 521 [(0, .ref 0), (1, .ref 1), (2, .ref 152), (3, .int (nI i))] [.int v, .int v] g2 _
        refine mn_icmp_eq 651 dLa_law_521 (by decide) (fun c15 => ?_) (fun c15 => ?_)
        · refine mn_iinc (v := nI (i + 6)) (ls' := [(0, .ref 0), (1, .ref 1), (2, .ref 152), (3, .int (nI (i + 6)))]) 3 dLa_law_651 rfl (nI_add i 6) (by decide) rfl ?_
          refine mn_goto 18 dLa_law_654 (by decide) ?_
          refine mn_R.sub [0, 1, 2, 3] (ls' := [(0, .ref 0), (1, .ref 1), (2, .ref 152), (3, .int (nI (i + 6)))]) rfl ?_
          exact ih (i + 6) g2 (by omega) (by omega) hC2
        · exact absurd rfl c15
      | 14, _ =>
        refine mn_tableIn (off := 493) 526 dLa_law_33 (by decide) (by decide) (by decide) (by decide) ?_
        refine mn_aload_n 1 dLa_law_526 rfl rfl ?_
        refine mn_aload_n 0 dLa_law_527 rfl rfl ?_
        refine mn_iload_n 3 dLa_law_528 rfl rfl ?_
        refine mn_iconst (v := 1) dLa_law_529 (by decide) ?_
        refine mn_iadd (z := nI (i + 1)) dLa_law_530 (nI_add i 1) ?_
        refine mn_sldN (j := i + 1) (by omega) (by omega) dLa_law_531 ?_
        obtain ⟨v, C1, hX, hY⟩ := pr_found (E := E) hC (E.2.2.2.2.2.2 (i + 1))
        have hCV : gV g0 := by obtain ⟨_, _, _, _, _, _, _, _, _, _, _, _, _, _, _, _, _, _, _, hv, -⟩ := hC; exact hv
        refine mn_callV (d' := 1) (w' := 22) (nc' := 0) (ns' := 0) (As := [.int (E.2.2.2.2.2.2 (i + 1))]) (st := []) okVS_found lLa_74 dLa_law_532 hCV rfl rfl rfl rfl (Nat.le_of_ble_eq_true rfl) (Nat.le_of_ble_eq_true rfl) (by decide) hX (fun v1 g1 hq1 => ?_)
        obtain ⟨rfl, hq1⟩ := hq1
        obtain ⟨⟨fs, hfs⟩, hY⟩ := hY g1 hq1
        show mn_R E MLa_law 8 181 _ _ 535 [(0, .ref 0), (1, .ref 1), (2, .ref 152), (3, .int (nI i))] [.int v] g1 _
        refine mn_aload_n 2 dLa_law_535 rfl rfl ?_
        refine mn_aload_n 0 dLa_law_536 rfl rfl ?_
        refine mn_iload_n 3 dLa_law_537 rfl rfl ?_
        refine mn_iconst (v := 1) dLa_law_538 (by decide) ?_
        refine mn_iadd (z := nI (i + 1)) dLa_law_539 (nI_add i 1) ?_
        refine mn_sldN (j := i + 1) (by omega) (by omega) dLa_law_540 ?_
        refine mn_callV (d' := 1) (w' := 22) (nc' := 0) (ns' := 0) (As := [.int (E.2.2.2.2.2.2 (i + 1))]) (st := [.int v]) okMo_found lLa_77 dLa_law_541 hfs rfl rfl rfl rfl (Nat.le_of_ble_eq_true rfl) (Nat.le_of_ble_eq_true rfl) (by decide) hY (fun v2 g2 hq2 => ?_)
        obtain ⟨rfl, hC2⟩ := hq2
        show mn_R E MLa_law 8 181 _ _ 544 [(0, .ref 0), (1, .ref 1), (2, .ref 152), (3, .int (nI i))] [.int v, .int v] g2 _
        refine mn_icmp_eq 651 dLa_law_544 (by decide) (fun c16 => ?_) (fun c16 => ?_)
        · refine mn_iinc (v := nI (i + 6)) (ls' := [(0, .ref 0), (1, .ref 1), (2, .ref 152), (3, .int (nI (i + 6)))]) 3 dLa_law_651 rfl (nI_add i 6) (by decide) rfl ?_
          refine mn_goto 18 dLa_law_654 (by decide) ?_
          refine mn_R.sub [0, 1, 2, 3] (ls' := [(0, .ref 0), (1, .ref 1), (2, .ref 152), (3, .int (nI (i + 6)))]) rfl ?_
          exact ih (i + 6) g2 (by omega) (by omega) hC2
        · exact absurd rfl c16
      | 15, _ =>
        refine mn_tableIn (off := 516) 549 dLa_law_33 (by decide) (by decide) (by decide) (by decide) ?_
        refine mn_aload_n 1 dLa_law_549 rfl rfl ?_
        refine mn_aload_n 0 dLa_law_550 rfl rfl ?_
        refine mn_iload_n 3 dLa_law_551 rfl rfl ?_
        refine mn_iconst (v := 1) dLa_law_552 (by decide) ?_
        refine mn_iadd (z := nI (i + 1)) dLa_law_553 (nI_add i 1) ?_
        refine mn_sldN (j := i + 1) (by omega) (by omega) dLa_law_554 ?_
        obtain ⟨v, C1, hX, hY⟩ := pr_where (E := E) hC (E.2.2.2.2.2.2 (i + 1))
        have hCV : gV g0 := by obtain ⟨_, _, _, _, _, _, _, _, _, _, _, _, _, _, _, _, _, _, _, hv, -⟩ := hC; exact hv
        refine mn_callV (d' := 1) (w' := 21) (nc' := 0) (ns' := 0) (As := [.int (E.2.2.2.2.2.2 (i + 1))]) (st := []) okVS_where lLa_78 dLa_law_555 hCV rfl rfl rfl rfl (Nat.le_of_ble_eq_true rfl) (Nat.le_of_ble_eq_true rfl) (by decide) hX (fun v1 g1 hq1 => ?_)
        obtain ⟨rfl, hq1⟩ := hq1
        obtain ⟨⟨fs, hfs⟩, hY⟩ := hY g1 hq1
        show mn_R E MLa_law 8 181 _ _ 558 [(0, .ref 0), (1, .ref 1), (2, .ref 152), (3, .int (nI i))] [.int v] g1 _
        refine mn_aload_n 2 dLa_law_558 rfl rfl ?_
        refine mn_aload_n 0 dLa_law_559 rfl rfl ?_
        refine mn_iload_n 3 dLa_law_560 rfl rfl ?_
        refine mn_iconst (v := 1) dLa_law_561 (by decide) ?_
        refine mn_iadd (z := nI (i + 1)) dLa_law_562 (nI_add i 1) ?_
        refine mn_sldN (j := i + 1) (by omega) (by omega) dLa_law_563 ?_
        refine mn_callV (d' := 1) (w' := 22) (nc' := 0) (ns' := 0) (As := [.int (E.2.2.2.2.2.2 (i + 1))]) (st := [.int v]) okMo_where lLa_81 dLa_law_564 hfs rfl rfl rfl rfl (Nat.le_of_ble_eq_true rfl) (Nat.le_of_ble_eq_true rfl) (by decide) hY (fun v2 g2 hq2 => ?_)
        obtain ⟨rfl, hC2⟩ := hq2
        show mn_R E MLa_law 8 181 _ _ 567 [(0, .ref 0), (1, .ref 1), (2, .ref 152), (3, .int (nI i))] [.int v, .int v] g2 _
        refine mn_icmp_eq 651 dLa_law_567 (by decide) (fun c17 => ?_) (fun c17 => ?_)
        · refine mn_iinc (v := nI (i + 6)) (ls' := [(0, .ref 0), (1, .ref 1), (2, .ref 152), (3, .int (nI (i + 6)))]) 3 dLa_law_651 rfl (nI_add i 6) (by decide) rfl ?_
          refine mn_goto 18 dLa_law_654 (by decide) ?_
          refine mn_R.sub [0, 1, 2, 3] (ls' := [(0, .ref 0), (1, .ref 1), (2, .ref 152), (3, .int (nI (i + 6)))]) rfl ?_
          exact ih (i + 6) g2 (by omega) (by omega) hC2
        · exact absurd rfl c17
      | 16, _ =>
        refine mn_tableIn (off := 539) 572 dLa_law_33 (by decide) (by decide) (by decide) (by decide) ?_
        refine mn_aload_n 1 dLa_law_572 rfl rfl ?_
        refine mn_aload_n 0 dLa_law_573 rfl rfl ?_
        refine mn_iload_n 3 dLa_law_574 rfl rfl ?_
        refine mn_iconst (v := 1) dLa_law_575 (by decide) ?_
        refine mn_iadd (z := nI (i + 1)) dLa_law_576 (nI_add i 1) ?_
        refine mn_sldN (j := i + 1) (by omega) (by omega) dLa_law_577 ?_
        obtain ⟨v, C1, hX, hY⟩ := pr_got (E := E) hC (E.2.2.2.2.2.2 (i + 1))
        have hCV : gV g0 := by obtain ⟨_, _, _, _, _, _, _, _, _, _, _, _, _, _, _, _, _, _, _, hv, -⟩ := hC; exact hv
        refine mn_callV (d' := 3) (w' := 66) (nc' := 0) (ns' := 0) (As := [.int (E.2.2.2.2.2.2 (i + 1))]) (st := []) okVS_got lLa_82 dLa_law_578 hCV rfl rfl rfl rfl (Nat.le_of_ble_eq_true rfl) (Nat.le_of_ble_eq_true rfl) (by decide) hX (fun v1 g1 hq1 => ?_)
        obtain ⟨rfl, hq1⟩ := hq1
        obtain ⟨⟨fs, hfs⟩, hY⟩ := hY g1 hq1
        show mn_R E MLa_law 8 181 _ _ 581 [(0, .ref 0), (1, .ref 1), (2, .ref 152), (3, .int (nI i))] [.int v] g1 _
        refine mn_aload_n 2 dLa_law_581 rfl rfl ?_
        refine mn_aload_n 0 dLa_law_582 rfl rfl ?_
        refine mn_iload_n 3 dLa_law_583 rfl rfl ?_
        refine mn_iconst (v := 1) dLa_law_584 (by decide) ?_
        refine mn_iadd (z := nI (i + 1)) dLa_law_585 (nI_add i 1) ?_
        refine mn_sldN (j := i + 1) (by omega) (by omega) dLa_law_586 ?_
        refine mn_callV (d' := 1) (w' := 22) (nc' := 0) (ns' := 0) (As := [.int (E.2.2.2.2.2.2 (i + 1))]) (st := [.int v]) okMo_got lLa_85 dLa_law_587 hfs rfl rfl rfl rfl (Nat.le_of_ble_eq_true rfl) (Nat.le_of_ble_eq_true rfl) (by decide) hY (fun v2 g2 hq2 => ?_)
        obtain ⟨rfl, hC2⟩ := hq2
        show mn_R E MLa_law 8 181 _ _ 590 [(0, .ref 0), (1, .ref 1), (2, .ref 152), (3, .int (nI i))] [.int v, .int v] g2 _
        refine mn_icmp_eq 651 dLa_law_590 (by decide) (fun c18 => ?_) (fun c18 => ?_)
        · refine mn_iinc (v := nI (i + 6)) (ls' := [(0, .ref 0), (1, .ref 1), (2, .ref 152), (3, .int (nI (i + 6)))]) 3 dLa_law_651 rfl (nI_add i 6) (by decide) rfl ?_
          refine mn_goto 18 dLa_law_654 (by decide) ?_
          refine mn_R.sub [0, 1, 2, 3] (ls' := [(0, .ref 0), (1, .ref 1), (2, .ref 152), (3, .int (nI (i + 6)))]) rfl ?_
          exact ih (i + 6) g2 (by omega) (by omega) hC2
        · exact absurd rfl c18
      | 17, _ =>
        refine mn_tableIn (off := 562) 595 dLa_law_33 (by decide) (by decide) (by decide) (by decide) ?_
        refine mn_aload_n 1 dLa_law_595 rfl rfl ?_
        refine mn_aload_n 0 dLa_law_596 rfl rfl ?_
        refine mn_iload_n 3 dLa_law_597 rfl rfl ?_
        refine mn_iconst (v := 1) dLa_law_598 (by decide) ?_
        refine mn_iadd (z := nI (i + 1)) dLa_law_599 (nI_add i 1) ?_
        refine mn_sldN (j := i + 1) (by omega) (by omega) dLa_law_600 ?_
        refine mn_aload_n 0 dLa_law_601 rfl rfl ?_
        refine mn_iload_n 3 dLa_law_602 rfl rfl ?_
        refine mn_iconst (v := 2) dLa_law_603 (by decide) ?_
        refine mn_iadd (z := nI (i + 2)) dLa_law_604 (nI_add i 2) ?_
        refine mn_sldN (j := i + 2) (by omega) (by omega) dLa_law_605 ?_
        obtain ⟨v, C1, hX, hY⟩ := pr_opened (E := E) hC (E.2.2.2.2.2.2 (i + 1)) (E.2.2.2.2.2.2 (i + 2))
        have hCV : gV g0 := by obtain ⟨_, _, _, _, _, _, _, _, _, _, _, _, _, _, _, _, _, _, _, hv, -⟩ := hC; exact hv
        refine mn_callV (d' := 1) (w' := 22) (nc' := 0) (ns' := 0) (As := [.int (E.2.2.2.2.2.2 (i + 1)), .int (E.2.2.2.2.2.2 (i + 2))]) (st := []) okVS_opened lLa_86 dLa_law_606 hCV rfl rfl rfl rfl (Nat.le_of_ble_eq_true rfl) (Nat.le_of_ble_eq_true rfl) (by decide) hX (fun v1 g1 hq1 => ?_)
        obtain ⟨rfl, hq1⟩ := hq1
        obtain ⟨⟨fs, hfs⟩, hY⟩ := hY g1 hq1
        show mn_R E MLa_law 8 181 _ _ 609 [(0, .ref 0), (1, .ref 1), (2, .ref 152), (3, .int (nI i))] [.int v] g1 _
        refine mn_aload_n 2 dLa_law_609 rfl rfl ?_
        refine mn_aload_n 0 dLa_law_610 rfl rfl ?_
        refine mn_iload_n 3 dLa_law_611 rfl rfl ?_
        refine mn_iconst (v := 1) dLa_law_612 (by decide) ?_
        refine mn_iadd (z := nI (i + 1)) dLa_law_613 (nI_add i 1) ?_
        refine mn_sldN (j := i + 1) (by omega) (by omega) dLa_law_614 ?_
        refine mn_aload_n 0 dLa_law_615 rfl rfl ?_
        refine mn_iload_n 3 dLa_law_616 rfl rfl ?_
        refine mn_iconst (v := 2) dLa_law_617 (by decide) ?_
        refine mn_iadd (z := nI (i + 2)) dLa_law_618 (nI_add i 2) ?_
        refine mn_sldN (j := i + 2) (by omega) (by omega) dLa_law_619 ?_
        refine mn_callV (d' := 1) (w' := 22) (nc' := 0) (ns' := 0) (As := [.int (E.2.2.2.2.2.2 (i + 1)), .int (E.2.2.2.2.2.2 (i + 2))]) (st := [.int v]) okMo_opened lLa_89 dLa_law_620 hfs rfl rfl rfl rfl (Nat.le_of_ble_eq_true rfl) (Nat.le_of_ble_eq_true rfl) (by decide) hY (fun v2 g2 hq2 => ?_)
        obtain ⟨rfl, hC2⟩ := hq2
        show mn_R E MLa_law 8 181 _ _ 623 [(0, .ref 0), (1, .ref 1), (2, .ref 152), (3, .int (nI i))] [.int v, .int v] g2 _
        refine mn_icmp_eq 651 dLa_law_623 (by decide) (fun c19 => ?_) (fun c19 => ?_)
        · refine mn_iinc (v := nI (i + 6)) (ls' := [(0, .ref 0), (1, .ref 1), (2, .ref 152), (3, .int (nI (i + 6)))]) 3 dLa_law_651 rfl (nI_add i 6) (by decide) rfl ?_
          refine mn_goto 18 dLa_law_654 (by decide) ?_
          refine mn_R.sub [0, 1, 2, 3] (ls' := [(0, .ref 0), (1, .ref 1), (2, .ref 152), (3, .int (nI (i + 6)))]) rfl ?_
          exact ih (i + 6) g2 (by omega) (by omega) hC2
        · exact absurd rfl c19
      | 18, _ =>
        refine mn_tableIn (off := 595) 628 dLa_law_33 (by decide) (by decide) (by decide) (by decide) ?_
        refine mn_aload_n 1 dLa_law_628 rfl rfl ?_
        refine mn_aload_n 0 dLa_law_629 rfl rfl ?_
        refine mn_iload_n 3 dLa_law_630 rfl rfl ?_
        refine mn_iconst (v := 1) dLa_law_631 (by decide) ?_
        refine mn_iadd (z := nI (i + 1)) dLa_law_632 (nI_add i 1) ?_
        refine mn_sldN (j := i + 1) (by omega) (by omega) dLa_law_633 ?_
        obtain ⟨v, C1, hX, hY⟩ := pr_count (E := E) hC (E.2.2.2.2.2.2 (i + 1))
        have hCV : gV g0 := by obtain ⟨_, _, _, _, _, _, _, _, _, _, _, _, _, _, _, _, _, _, _, hv, -⟩ := hC; exact hv
        refine mn_callV (d' := 5) (w' := 111) (nc' := 0) (ns' := 0) (As := [.int (E.2.2.2.2.2.2 (i + 1))]) (st := []) okVS_count lLa_90 dLa_law_634 hCV rfl rfl rfl rfl (Nat.le_of_ble_eq_true rfl) (Nat.le_of_ble_eq_true rfl) (by decide) hX (fun v1 g1 hq1 => ?_)
        obtain ⟨rfl, hq1⟩ := hq1
        obtain ⟨⟨fs, hfs⟩, hY⟩ := hY g1 hq1
        show mn_R E MLa_law 8 181 _ _ 637 [(0, .ref 0), (1, .ref 1), (2, .ref 152), (3, .int (nI i))] [.int v] g1 _
        refine mn_aload_n 2 dLa_law_637 rfl rfl ?_
        refine mn_aload_n 0 dLa_law_638 rfl rfl ?_
        refine mn_iload_n 3 dLa_law_639 rfl rfl ?_
        refine mn_iconst (v := 1) dLa_law_640 (by decide) ?_
        refine mn_iadd (z := nI (i + 1)) dLa_law_641 (nI_add i 1) ?_
        refine mn_sldN (j := i + 1) (by omega) (by omega) dLa_law_642 ?_
        refine mn_callV (d' := 3) (w' := 68) (nc' := 0) (ns' := 0) (As := [.int (E.2.2.2.2.2.2 (i + 1))]) (st := [.int v]) okMo_count lLa_93 dLa_law_643 hfs rfl rfl rfl rfl (Nat.le_of_ble_eq_true rfl) (Nat.le_of_ble_eq_true rfl) (by decide) hY (fun v2 g2 hq2 => ?_)
        obtain ⟨rfl, hC2⟩ := hq2
        show mn_R E MLa_law 8 181 _ _ 646 [(0, .ref 0), (1, .ref 1), (2, .ref 152), (3, .int (nI i))] [.int v, .int v] g2 _
        refine mn_icmp_eq 651 dLa_law_646 (by decide) (fun c20 => ?_) (fun c20 => ?_)
        · refine mn_iinc (v := nI (i + 6)) (ls' := [(0, .ref 0), (1, .ref 1), (2, .ref 152), (3, .int (nI (i + 6)))]) 3 dLa_law_651 rfl (nI_add i 6) (by decide) rfl ?_
          refine mn_goto 18 dLa_law_654 (by decide) ?_
          refine mn_R.sub [0, 1, 2, 3] (ls' := [(0, .ref 0), (1, .ref 1), (2, .ref 152), (3, .int (nI (i + 6)))]) rfl ?_
          exact ih (i + 6) g2 (by omega) (by omega) hC2
        · exact absurd rfl c20
      | 19, _ =>
        refine mn_tableOut 651 dLa_law_33 (by decide) (by decide) ?_
        refine mn_iinc (v := nI (i + 6)) (ls' := [(0, .ref 0), (1, .ref 1), (2, .ref 152), (3, .int (nI (i + 6)))]) 3 dLa_law_651 rfl (nI_add i 6) (by decide) rfl ?_
        refine mn_goto 18 dLa_law_654 (by decide) ?_
        refine mn_R.sub [0, 1, 2, 3] (ls' := [(0, .ref 0), (1, .ref 1), (2, .ref 152), (3, .int (nI (i + 6)))]) rfl ?_
        exact ih (i + 6) g0 (by omega) (by omega) hC
      | 20, _ =>
        refine mn_tableOut 651 dLa_law_33 (by decide) (by decide) ?_
        refine mn_iinc (v := nI (i + 6)) (ls' := [(0, .ref 0), (1, .ref 1), (2, .ref 152), (3, .int (nI (i + 6)))]) 3 dLa_law_651 rfl (nI_add i 6) (by decide) rfl ?_
        refine mn_goto 18 dLa_law_654 (by decide) ?_
        refine mn_R.sub [0, 1, 2, 3] (ls' := [(0, .ref 0), (1, .ref 1), (2, .ref 152), (3, .int (nI (i + 6)))]) rfl ?_
        exact ih (i + 6) g0 (by omega) (by omega) hC
      | 21, _ =>
        refine mn_tableOut 651 dLa_law_33 (by decide) (by decide) ?_
        refine mn_iinc (v := nI (i + 6)) (ls' := [(0, .ref 0), (1, .ref 1), (2, .ref 152), (3, .int (nI (i + 6)))]) 3 dLa_law_651 rfl (nI_add i 6) (by decide) rfl ?_
        refine mn_goto 18 dLa_law_654 (by decide) ?_
        refine mn_R.sub [0, 1, 2, 3] (ls' := [(0, .ref 0), (1, .ref 1), (2, .ref 152), (3, .int (nI (i + 6)))]) rfl ?_
        exact ih (i + 6) g0 (by omega) (by omega) hC
      | 22, _ =>
        refine mn_tableOut 651 dLa_law_33 (by decide) (by decide) ?_
        refine mn_iinc (v := nI (i + 6)) (ls' := [(0, .ref 0), (1, .ref 1), (2, .ref 152), (3, .int (nI (i + 6)))]) 3 dLa_law_651 rfl (nI_add i 6) (by decide) rfl ?_
        refine mn_goto 18 dLa_law_654 (by decide) ?_
        refine mn_R.sub [0, 1, 2, 3] (ls' := [(0, .ref 0), (1, .ref 1), (2, .ref 152), (3, .int (nI (i + 6)))]) rfl ?_
        exact ih (i + 6) g0 (by omega) (by omega) hC
      | 23, _ =>
        refine mn_tableOut 651 dLa_law_33 (by decide) (by decide) ?_
        refine mn_iinc (v := nI (i + 6)) (ls' := [(0, .ref 0), (1, .ref 1), (2, .ref 152), (3, .int (nI (i + 6)))]) 3 dLa_law_651 rfl (nI_add i 6) (by decide) rfl ?_
        refine mn_goto 18 dLa_law_654 (by decide) ?_
        refine mn_R.sub [0, 1, 2, 3] (ls' := [(0, .ref 0), (1, .ref 1), (2, .ref 152), (3, .int (nI (i + 6)))]) rfl ?_
        exact ih (i + 6) g0 (by omega) (by omega) hC
      | 24, _ =>
        refine mn_tableOut 651 dLa_law_33 (by decide) (by decide) ?_
        refine mn_iinc (v := nI (i + 6)) (ls' := [(0, .ref 0), (1, .ref 1), (2, .ref 152), (3, .int (nI (i + 6)))]) 3 dLa_law_651 rfl (nI_add i 6) (by decide) rfl ?_
        refine mn_goto 18 dLa_law_654 (by decide) ?_
        refine mn_R.sub [0, 1, 2, 3] (ls' := [(0, .ref 0), (1, .ref 1), (2, .ref 152), (3, .int (nI (i + 6)))]) rfl ?_
        exact ih (i + 6) g0 (by omega) (by omega) hC
      | 25, _ =>
        refine mn_tableOut 651 dLa_law_33 (by decide) (by decide) ?_
        refine mn_iinc (v := nI (i + 6)) (ls' := [(0, .ref 0), (1, .ref 1), (2, .ref 152), (3, .int (nI (i + 6)))]) 3 dLa_law_651 rfl (nI_add i 6) (by decide) rfl ?_
        refine mn_goto 18 dLa_law_654 (by decide) ?_
        refine mn_R.sub [0, 1, 2, 3] (ls' := [(0, .ref 0), (1, .ref 1), (2, .ref 152), (3, .int (nI (i + 6)))]) rfl ?_
        exact ih (i + 6) g0 (by omega) (by omega) hC
      | 26, _ =>
        refine mn_tableOut 651 dLa_law_33 (by decide) (by decide) ?_
        refine mn_iinc (v := nI (i + 6)) (ls' := [(0, .ref 0), (1, .ref 1), (2, .ref 152), (3, .int (nI (i + 6)))]) 3 dLa_law_651 rfl (nI_add i 6) (by decide) rfl ?_
        refine mn_goto 18 dLa_law_654 (by decide) ?_
        refine mn_R.sub [0, 1, 2, 3] (ls' := [(0, .ref 0), (1, .ref 1), (2, .ref 152), (3, .int (nI (i + 6)))]) rfl ?_
        exact ih (i + 6) g0 (by omega) (by omega) hC
      | 27, _ =>
        refine mn_tableOut 651 dLa_law_33 (by decide) (by decide) ?_
        refine mn_iinc (v := nI (i + 6)) (ls' := [(0, .ref 0), (1, .ref 1), (2, .ref 152), (3, .int (nI (i + 6)))]) 3 dLa_law_651 rfl (nI_add i 6) (by decide) rfl ?_
        refine mn_goto 18 dLa_law_654 (by decide) ?_
        refine mn_R.sub [0, 1, 2, 3] (ls' := [(0, .ref 0), (1, .ref 1), (2, .ref 152), (3, .int (nI (i + 6)))]) rfl ?_
        exact ih (i + 6) g0 (by omega) (by omega) hC
      | 28, _ =>
        refine mn_tableOut 651 dLa_law_33 (by decide) (by decide) ?_
        refine mn_iinc (v := nI (i + 6)) (ls' := [(0, .ref 0), (1, .ref 1), (2, .ref 152), (3, .int (nI (i + 6)))]) 3 dLa_law_651 rfl (nI_add i 6) (by decide) rfl ?_
        refine mn_goto 18 dLa_law_654 (by decide) ?_
        refine mn_R.sub [0, 1, 2, 3] (ls' := [(0, .ref 0), (1, .ref 1), (2, .ref 152), (3, .int (nI (i + 6)))]) rfl ?_
        exact ih (i + 6) g0 (by omega) (by omega) hC
      | 29, _ =>
        refine mn_tableOut 651 dLa_law_33 (by decide) (by decide) ?_
        refine mn_iinc (v := nI (i + 6)) (ls' := [(0, .ref 0), (1, .ref 1), (2, .ref 152), (3, .int (nI (i + 6)))]) 3 dLa_law_651 rfl (nI_add i 6) (by decide) rfl ?_
        refine mn_goto 18 dLa_law_654 (by decide) ?_
        refine mn_R.sub [0, 1, 2, 3] (ls' := [(0, .ref 0), (1, .ref 1), (2, .ref 152), (3, .int (nI (i + 6)))]) rfl ?_
        exact ih (i + 6) g0 (by omega) (by omega) hC
      | 30, _ =>
        refine mn_tableOut 651 dLa_law_33 (by decide) (by decide) ?_
        refine mn_iinc (v := nI (i + 6)) (ls' := [(0, .ref 0), (1, .ref 1), (2, .ref 152), (3, .int (nI (i + 6)))]) 3 dLa_law_651 rfl (nI_add i 6) (by decide) rfl ?_
        refine mn_goto 18 dLa_law_654 (by decide) ?_
        refine mn_R.sub [0, 1, 2, 3] (ls' := [(0, .ref 0), (1, .ref 1), (2, .ref 152), (3, .int (nI (i + 6)))]) rfl ?_
        exact ih (i + 6) g0 (by omega) (by omega) hC
      | 31, _ =>
        refine mn_tableOut 651 dLa_law_33 (by decide) (by decide) ?_
        refine mn_iinc (v := nI (i + 6)) (ls' := [(0, .ref 0), (1, .ref 1), (2, .ref 152), (3, .int (nI (i + 6)))]) 3 dLa_law_651 rfl (nI_add i 6) (by decide) rfl ?_
        refine mn_goto 18 dLa_law_654 (by decide) ?_
        refine mn_R.sub [0, 1, 2, 3] (ls' := [(0, .ref 0), (1, .ref 1), (2, .ref 152), (3, .int (nI (i + 6)))]) rfl ?_
        exact ih (i + 6) g0 (by omega) (by omega) hC
      | c + 32, hc => exact absurd hc (by omega)
set_option maxRecDepth 100000 in
theorem c_La_z {E : mn_En} {g : mn_H} (h6 : E.2.2.2.2.2.1 < 6) : mn_R E MLa_law 8 181 0 0 18 [(0, .ref 0), (1, .ref 1), (2, .ref 152), (3, .int 0)] [] g (fun x g' => x = some (.int 1)) := by
  refine mn_iload_n 3 dLa_law_18 rfl rfl ?_
  refine mn_aload_n 0 dLa_law_19 rfl rfl ?_
  refine mn_slen dLa_law_20 ?_
  refine mn_bipush (v := 6) dLa_law_21 (by decide) ?_
  refine mn_isub (z := (nI E.2.2.2.2.2.1) - 6) dLa_law_23 rfl ?_
  refine mn_icmp_gt 657 dLa_law_24 (by decide) (fun c1 => ?_) (fun c1 => ?_)
  · refine mn_iconst (v := 1) dLa_law_657 (by decide) ?_
    exact mn_zret rfl rfl dLa_law_658 rfl
  · exact absurd (sml6 _ h6) c1
theorem Cpl_init {g2 g4 : mn_H} (HX : mn_at g2 1 (.inr (10, [.ref (1 + 1), .ref (1 + 3), .ref (1 + 9), .ref (1 + 10), .ref (1 + 13), .ref (1 + 135), .ref (1 + 147)])) ∧ mn_at g2 (1 + 1) (.inr (7, [.ref (1 + 1 + 1), .int 0])) ∧ mn_at g2 (1 + 1 + 1) (.inl (0, 60, .inl (fun _ => 0))) ∧ mn_at g2 (1 + 3) (.inr (6, [.ref (1 + 3 + 1), .ref (1 + 3 + 5), .int 0, .int 0])) ∧ mn_at g2 (1 + 3 + 1) (.inr (2, [.ref (1 + 3 + 1 + 3), .ref (1 + 3 + 1 + 1), .ref (1 + 3 + 1 + 2), .int 0, .int 0])) ∧ mn_at g2 (1 + 3 + 1 + 3) (.inl (0, 1340, .inl (fun _ => 0))) ∧ mn_at g2 (1 + 3 + 1 + 1) (.inl (0, 60, .inl (fun _ => 0))) ∧ mn_at g2 (1 + 3 + 1 + 2) (.inl (0, 60, .inl (fun _ => 0))) ∧ mn_at g2 (1 + 3 + 5) (.inl (0, 20, .inl (fun _ => 0))) ∧ mn_at g2 (1 + 9) (.inr (4, [.int 32, .int 0, .int 0])) ∧ mn_at g2 (1 + 10) (.inr (9, [.ref (1 + 10 + 1)])) ∧ mn_at g2 (1 + 10 + 1) (.inr (8, [.ref (1 + 10 + 1 + 1), .int 0])) ∧ mn_at g2 (1 + 10 + 1 + 1) (.inl (0, 80, .inl (fun _ => 0))) ∧ mn_at g2 (1 + 135) (.inr (3, [.ref (1 + 135 + 1), .ref (1 + 135 + 5), .ref (1 + 135 + 6), .int 0, .int 0, .int 0, .int 0, .int 0])) ∧ mn_at g2 (1 + 135 + 1) (.inr (2, [.ref (1 + 135 + 1 + 3), .ref (1 + 135 + 1 + 1), .ref (1 + 135 + 1 + 2), .int 0, .int 0])) ∧ mn_at g2 (1 + 135 + 1 + 3) (.inl (0, 4080, .inl (fun _ => 0))) ∧ mn_at g2 (1 + 135 + 1 + 1) (.inl (0, 60, .inl (fun _ => 0))) ∧ mn_at g2 (1 + 135 + 1 + 2) (.inl (0, 60, .inl (fun _ => 0))) ∧ mn_at g2 (1 + 135 + 5) (.inl (0, 63, .inl (fun _ => 0))) ∧ mn_at g2 (1 + 147) (.inr (1, [.ref (1 + 147 + 1), .ref (1 + 147 + 2), .ref (1 + 147 + 3), .int 0])) ∧ mn_at g2 (1 + 147 + 1) (.inl (0, 40, .inl (fun _ => 0))) ∧ mn_at g2 (1 + 147 + 2) (.inl (0, 40, .inl (fun _ => 0))) ∧ mn_at g2 (1 + 147 + 3) (.inl (0, 40, .inl (fun _ => 0))) ∧ SlP g2 (1 + 13) (fun k => k) (fun _ => 0) (fun _ _ => 0) ∧ EqP g2 (1 + 135 + 6) (fun _ _ => 0) (fun _ => 0) 0 0) (fw : mn_gw (fun q => q = 152) g2 g4) (HM : mn_at g4 152 (.inr (11, [.int 0, .ref (152 + 1), .int 0, .ref (152 + 2), .ref (152 + 3), .int 0, .int 32, .int 0, .int 0, .ref (152 + 4), .ref (152 + 5), .ref (152 + 6), .int 0, .int 0, .int 0, .int 0, .int 0, .ref (152 + 7), .ref (152 + 8), .ref (152 + 9), .ref (152 + 10), .int 0, .int 0, .ref (152 + 11), .ref (152 + 12), .ref (152 + 13), .ref (152 + 14), .ref (152 + 15), .ref (152 + 16)])) ∧ mn_at g4 (152 + 1) (.inl (0, 60, .inl (fun _ => 0))) ∧ mn_at g4 (152 + 2) (.inl (0, 1260, .inl (fun _ => 0))) ∧ mn_at g4 (152 + 3) (.inl (0, 21, .inl (fun _ => 0))) ∧ mn_at g4 (152 + 4) (.inl (0, 4800, .inl (fun _ => 0))) ∧ mn_at g4 (152 + 5) (.inl (0, 60, .inl (fun _ => 0))) ∧ mn_at g4 (152 + 6) (.inl (0, 80, .inl (fun _ => 0))) ∧ mn_at g4 (152 + 7) (.inl (0, 64, .inl (fun _ => 0))) ∧ mn_at g4 (152 + 8) (.inl (0, 64, .inl (fun _ => 0))) ∧ mn_at g4 (152 + 9) (.inl (0, 64, .inl (fun _ => 0))) ∧ mn_at g4 (152 + 10) (.inl (0, 4800, .inl (fun _ => 0))) ∧ mn_at g4 (152 + 11) (.inl (0, 40, .inl (fun _ => 0))) ∧ mn_at g4 (152 + 12) (.inl (0, 40, .inl (fun _ => 0))) ∧ mn_at g4 (152 + 13) (.inl (0, 40, .inl (fun _ => 0))) ∧ mn_at g4 (152 + 14) (.inl (0, 60, .inl (fun _ => 0))) ∧ mn_at g4 (152 + 15) (.inl (0, 3, .inl (fun _ => 0))) ∧ mn_at g4 (152 + 16) (.inl (0, 12, .inl (fun _ => 0)))) : Cpl g4 := by
  obtain ⟨x0, x1, x2, x3, x4, x5, x6, x7, x8, x9, x10, x11, x12, x13, x14, x15, x16, x17, x18, x19, x20, x21, x22, xS, xE⟩ := HX
  obtain ⟨y0, y1, y2, y3, y4, y5, y6, y7, y8, y9, y10, y11, y12, y13, y14, y15, y16⟩ := HM
  have e1 : gV g4 := (x0.gw fw (fun h => by have h9 : (1 : Nat) = 152 := h; omega))
  have e2 : gTa g4 (fun _ => 0) 0 := ⟨(x1.gw fw (fun h => by have h9 : (1 + 1 : Nat) = 152 := h; omega)), (x2.gw fw (fun h => by have h9 : (1 + 1 + 1 : Nat) = 152 := h; omega))⟩
  have e3 : XSt g4 0 (fun _ => 0) (fun _ => 0) := ⟨0, 0, (fun _ => 0), (fun _ => 0), (fun _ => 0), ⟨(x3.gw fw (fun h => by have h9 : (1 + 3 : Nat) = 152 := h; omega)), (x4.gw fw (fun h => by have h9 : (1 + 3 + 1 : Nat) = 152 := h; omega)), (by show mn_at g4 (4 + 1 + 3) (.inl (0, 1340, .inl (fun j => nI (zb (fun _ => 0) 0 j)))); rw [zb_0]; exact (x5.gw fw (fun h => by have h9 : (1 + 3 + 1 + 3 : Nat) = 152 := h; omega))), (x6.gw fw (fun h => by have h9 : (1 + 3 + 1 + 1 : Nat) = 152 := h; omega)), (x7.gw fw (fun h => by have h9 : (1 + 3 + 1 + 2 : Nat) = 152 := h; omega)), (x8.gw fw (fun h => by have h9 : (1 + 3 + 5 : Nat) = 152 := h; omega))⟩, (fun _ => (show 0 < 256 by decide)), (fun _ => (show 0 < 256 by decide)), (fun _ _ => rfl), (fun _ => (show 0 < 100000 by decide))⟩
  have e4 : gRu g4 32 0 0 := (x9.gw fw (fun h => by have h9 : (1 + 9 : Nat) = 152 := h; omega))
  have e5 : XWr g4 := ⟨0, (fun _ => 0), ⟨(x10.gw fw (fun h => by have h9 : (1 + 10 : Nat) = 152 := h; omega)), (x11.gw fw (fun h => by have h9 : (1 + 10 + 1 : Nat) = 152 := h; omega)), (x12.gw fw (fun h => by have h9 : (1 + 10 + 1 + 1 : Nat) = 152 := h; omega))⟩, fun _ => (show 0 < 256 by decide)⟩
  have e6 : SlP g4 14 (fun k => k) (fun _ => 0) (fun _ _ => 0) := xS.gw fw (fun q q1 q2 h => by have h9 : q = 152 := h; omega)
  have eE : EqP g4 (136 + 6) (fun _ _ => 0) (fun _ => 0) 0 0 := xE.gw fw (fun q q1 q2 h => by have h9 : q = 152 := h; omega)
  have e7a : RdX g4 0 0 0 0 0 0 0 0 (fun _ => 0) (fun _ => 0) (fun _ => 0) (fun _ => some 0) (fun _ => 0) (fun _ => 0) (fun _ => 0) := ⟨⟨(x13.gw fw (fun h => by have h9 : (1 + 135 : Nat) = 152 := h; omega)), (x14.gw fw (fun h => by have h9 : (1 + 135 + 1 : Nat) = 152 := h; omega)), (x15.gw fw (fun h => by have h9 : (1 + 135 + 1 + 3 : Nat) = 152 := h; omega)), (x16.gw fw (fun h => by have h9 : (1 + 135 + 1 + 1 : Nat) = 152 := h; omega)), (x17.gw fw (fun h => by have h9 : (1 + 135 + 1 + 2 : Nat) = 152 := h; omega)), (x18.gw fw (fun h => by have h9 : (1 + 135 + 5 : Nat) = 152 := h; omega))⟩, ⟨_, _, _, _, eE⟩, (x19.gw fw (fun h => by have h9 : (1 + 147 : Nat) = 152 := h; omega)), (x20.gw fw (fun h => by have h9 : (1 + 147 + 1 : Nat) = 152 := h; omega)), (x21.gw fw (fun h => by have h9 : (1 + 147 + 2 : Nat) = 152 := h; omega)), (x22.gw fw (fun h => by have h9 : (1 + 147 + 3 : Nat) = 152 := h; omega))⟩
  have e7b : RdM g4 (fun _ => some 0) (fun _ => 0) (fun _ => 0) (fun _ => 0) (fun _ => 0) (fun _ => 0) (fun _ => 0) (fun _ => 0) (fun _ => 0) (fun _ => 0) := ⟨y7, y8, y9, y10, y11, y12, y13, y14, y15, y16⟩
  have z8 : ∀ j : Nat, ((fun _ => 0) : Nat → Nat) j < 256 := fun _ => (show 0 < 256 by decide)
  have e7 : XRd g4 0 0 0 0 0 0 0 := ⟨0, 0, 0, 0, 0, 0, 0, (fun _ => 0), (fun _ => 0), (fun _ => 0), (fun _ => some 0), (fun _ => 0), (fun _ => 0), (fun _ => 0), (fun _ => some 0), (fun _ => 0), (fun _ => 0), (fun _ => 0), (fun _ => 0), (fun _ => 0), (fun _ => 0), (fun _ => 0), (fun _ => 0), (fun _ => 0), e7a, e7b, ⟨by decide, fun _ _ => rfl, fun _ _ => rfl, fun _ _ => rfl, fun _ _ => rfl, z8, (fun j q h => by cases h; decide), z8, z8, z8, z8, (fun _ => (show 0 < 60 by decide)), (fun _ => (show 0 < 3 by decide))⟩, Or.inl ⟨rfl, rfl⟩⟩
  have e8 : MTa g4 (fun _ => 0) := y1
  have e9 : MSt g4 (fun _ => 0) (fun _ => 0) := ⟨y2, y3⟩
  have e10 : MSl g4 (fun _ => 0) (fun _ => 0) := ⟨y4, y5⟩
  have e11 : MVl g4 := ⟨(fun _ => 0), y6, z8⟩
  have e12 : gMo g4 0 0 32 0 0 0 0 0 0 0 0 0 := y0
  exact ⟨0, 0, 32, 0, 0, 0, 0, 0, 0, 0, 0, 0, (fun _ => 0), (fun _ => 0), (fun _ => 0), (fun k => k), (fun _ => 0), (fun _ => 0), (fun _ _ => 0), e1, e2, e3, e4, e5, e6, e7, e8, e9, e10, e11, e12, by decide, z8, by decide, by decide, (fun k hk => absurd hk (by omega)), z8, rfl, by decide, by decide, by decide, by decide, (fun _ _ _ _ => rfl), (fun _ => Or.inl rfl), z8⟩
set_option maxRecDepth 100000 in
theorem c_La_law {E : mn_En} {g : mn_H} (hn : g.1 = 1) (hL : E.2.2.2.2.2.1 ≤ 3072) : mn_R E MLa_law 8 181 168 22781 0 [(0, .ref 0)] [] g (fun x g' => x = some (.int 1)) := by
  refine mn_new okVS [.null, .null, .null, .null, .null, .null, .null] lLa_7 inst_VS ini_VS rfl (by decide) (by decide) dLa_law_0 ?_
  obtain ⟨g2, eg2⟩ : ∃ gg_, gg_ = mn_push g (.inr (10, [.null, .null, .null, .null, .null, .null, .null])) := ⟨_, rfl⟩
  have hsg : g.1 = 1 := by omega
  rw [hsg]
  refine mn_R.toG eg2 ?_
  have hn_g2 : g2.1 = 1 + 1 := by rw [eg2]; show g.1 + 1 = _; rw [hsg]
  have hw1_g2 : mn_at g2 1 (.inr (10, [.null, .null, .null, .null, .null, .null, .null])) := by rw [eg2, ← hsg]; exact mn_at_new (by omega)
  clear  hsg
  refine mn_dup dLa_law_3 rfl ?_
  refine mn_callI (d' := 3) (w' := 62) (nc' := 150) (ns' := 11277) (As := []) (st := [.ref 1]) okVS_init lLa_9 dLa_law_4 rfl rfl (Nat.le_of_ble_eq_true rfl) (Nat.le_of_ble_eq_true rfl) (by decide) (c_VS_init hw1_g2 (by omega)) (fun v g3 hq => ?_)
  obtain ⟨rfl, hn_g3, F1, HX⟩ := hq
  show mn_R E MLa_law 8 181 _ _ 7 [(0, .ref 0)] [.ref 1] g3 _
  refine mn_astore_n (ls' := [(0, .ref 0), (1, .ref 1)]) dLa_law_7 rfl (by decide) rfl ?_
  refine mn_new okMo [.int 0, .null, .int 0, .null, .null, .int 0, .int 0, .int 0, .int 0, .null, .null, .null, .int 0, .int 0, .int 0, .int 0, .int 0, .null, .null, .null, .null, .int 0, .int 0, .null, .null, .null, .null, .null, .null] lLa_10 inst_Mo ini_Mo rfl (by decide) (by decide) dLa_law_8 ?_
  obtain ⟨g5, eg5⟩ : ∃ gg_, gg_ = mn_push g3 (.inr (11, [.int 0, .null, .int 0, .null, .null, .int 0, .int 0, .int 0, .int 0, .null, .null, .null, .int 0, .int 0, .int 0, .int 0, .int 0, .null, .null, .null, .null, .int 0, .int 0, .null, .null, .null, .null, .null, .null])) := ⟨_, rfl⟩
  have hsg3 : g3.1 = 152 := by omega
  rw [hsg3]
  refine mn_R.toG eg5 ?_
  have hn_g5 : g5.1 = 152 + 1 := by rw [eg5]; show g3.1 + 1 = _; rw [hsg3]
  have hw4_g5 : mn_at g5 152 (.inr (11, [.int 0, .null, .int 0, .null, .null, .int 0, .int 0, .int 0, .int 0, .null, .null, .null, .int 0, .int 0, .int 0, .int 0, .int 0, .null, .null, .null, .null, .int 0, .int 0, .null, .null, .null, .null, .null, .null])) := by rw [eg5, ← hsg3]; exact mn_at_new (by omega)
  clear hn_g3 hsg3
  refine mn_dup dLa_law_11 rfl ?_
  refine mn_callI (d' := 1) (w' := 20) (nc' := 16) (ns' := 11468) (As := []) (st := [.ref 152]) okMo_init lLa_12 dLa_law_12 rfl rfl (Nat.le_of_ble_eq_true rfl) (Nat.le_of_ble_eq_true rfl) (by decide) (c_Mo_init hw4_g5 (by omega)) (fun v g6 hq => ?_)
  obtain ⟨rfl, hn_g6, F2, HM⟩ := hq
  show mn_R E MLa_law 8 181 _ _ 15 [(0, .ref 0), (1, .ref 1)] [.ref 152] g6 _
  refine mn_astore_n (ls' := [(0, .ref 0), (1, .ref 1), (2, .ref 152)]) dLa_law_15 rfl (by decide) rfl ?_
  refine mn_iconst (v := 0) dLa_law_16 (by decide) ?_
  refine mn_istore_n (ls' := [(0, .ref 0), (1, .ref 1), (2, .ref 152), (3, .int 0)]) dLa_law_17 rfl (by decide) rfl ?_
  have hcp : Cpl g6 := Cpl_init HX ((mn_gw.push mn_gw.rf eg5).tr F2 (fun q _ h => h)) HM
  by_cases h6 : 6 ≤ E.2.2.2.2.2.1
  · exact c_La_l hL h6 (E.2.2.2.2.2.1 + 1) 0 g6 (by omega) (by omega) hcp
  · exact c_La_z (by omega)
-- room 8 181 168 22781
