theorem nI_nn {n : Nat} {x : Int32} (h : n < 2 ^ 31) (hx : x < 0) : ¬ nI n = x := fun e => nI_pos h (by rw [e]; exact hx)
theorem nI_nl {n : Nat} {x : Int32} (h : n < 2 ^ 31) (hx : x < 0) : ¬ nI n ≤ x := fun e => nI_pos h (Int32.lt_of_le_of_lt e hx)
set_option maxRecDepth 100000 in
theorem c_M_open_in {E : mn_En} {g : mn_H} {mo tl e sz rp st m r wd ag td om : Nat} {ir : Int32} {ml mt : Nat → Nat} {pm : Nat → Option Nat} (hM : mn_at g mo (.inr (11, [.int 0, .ref (mo + 1), .int (nI tl), .ref (mo + 2), .ref (mo + 3), .int (nI e), .int (nI sz), .int (nI rp), .int (nI st), .ref (mo + 4), .ref (mo + 5), .ref (mo + 6), .int ir, .int (nI m), .int (nI r), .int (nI wd), .int (nI ag), .ref (mo + 7), .ref (mo + 8), .ref (mo + 9), .ref (mo + 10), .int (nI td), .int (nI om), .ref (mo + 11), .ref (mo + 12), .ref (mo + 13), .ref (mo + 14), .ref (mo + 15), .ref (mo + 16)]))) (hPm : mn_at g (mo + 7) (.inl (0, 64, .inl (fun j => onI (pm j))))) (hMl : mn_at g (mo + 8) (.inl (0, 64, .inl (fun j => nI (ml j))))) (hMt : mn_at g (mo + 9) (.inl (0, 64, .inl (fun j => nI (mt j))))) {p : Nat} {Q : Option Value → mn_H → Prop} (hm : m ≤ 60) (hwd : 20 ≤ wd) (hwd2 : wd ≤ 80) (hml : ∀ j, ml j < 256) (hpm : ∀ j q, j < 64 → pm j = some q → q < 1000) (hmt : ∀ j, mt j < 256) (hN : sbK (eL pm ml) mt m (m - (p / (wd - 12) + 1)) = none → Q none g) (hS : ∀ n, sbK (eL pm ml) mt m (m - (p / (wd - 12) + 1)) = some n → mn_R E MMo_open 3 69 0 0 12 [(0, .ref mo), (1, .int (nI (n * (wd - 12) + mt n)))] [] g Q) : ∀ (fu n : Nat), n < 100000 → m - n < fu → sbK (eL pm ml) mt m (m - (p / (wd - 12) + 1)) = sbK (eL pm ml) mt m (m - n) → mn_R E MMo_open 3 69 0 0 133 [(0, .ref mo), (1, .int (nI p)), (2, .int (nI n))] [] g (Q) := by
  intro fu
  induction fu with
  | zero => intro n h1 h2; exact absurd h2 (by omega)
  | succ fu ih =>
    intro n h1 h2 hsb
    refine mn_iload_n 2 dMo_open_133 rfl rfl ?_
    refine mn_aload_n 0 dMo_open_134 rfl rfl ?_
    refine mn_get okMo 13 lMo_144 (by decide) hM rfl dMo_open_135 ?_
    refine mn_icmp_ge 173 dMo_open_138 (by decide) (fun c1 => ?_) (fun c1 => ?_)
    · have c1 := (nI_leI (a := m) (b := n) (by omega) (by omega)).mp c1
      refine mn_iload_n 2 dMo_open_173 rfl rfl ?_
      refine mn_aload_n 0 dMo_open_174 rfl rfl ?_
      refine mn_get okMo 13 lMo_144 (by decide) hM rfl dMo_open_175 ?_
      refine mn_icmp_lt 182 dMo_open_178 (by decide) (fun c2 => ?_) (fun c2 => ?_)
      · have c2 := (nI_ltI (a := n) (b := m) (by omega) (by omega)).mp c2
        exact absurd c2 (by omega)
      · have c2 := _root_.mt (nI_ltI (a := n) (b := m) (by omega) (by omega)).mpr c2
        exact mn_vret rfl dMo_open_181 (hN (by rw [hsb, show m - n = 0 by omega]; rfl))
    · have c1 := _root_.mt (nI_leI (a := m) (b := n) (by omega) (by omega)).mpr c1
      have hmtn := hmt n
      have hmln := hml n
      refine mn_aload_n 0 dMo_open_141 rfl rfl ?_
      refine mn_get okMo 17 lMo_35 (by decide) hM rfl dMo_open_142 ?_
      refine mn_iload_n 2 dMo_open_145 rfl rfl ?_
      refine mn_ialdN (j := n) hPm rfl (by omega) (by omega) dMo_open_146 ?_
      refine mn_bipush (v := (-2)) dMo_open_147 (by decide) ?_
      refine mn_icmp_eq 167 dMo_open_149 (by decide) (fun c3 => ?_) (fun c3 => ?_)
      · have hpn : pm n = none := (onI_e (fun q hq => hpm _ q (by omega) hq)).mp c3
        refine mn_iinc (v := nI (n + 1)) (ls' := [(0, .ref mo), (1, .int (nI p)), (2, .int (nI (n + 1)))]) 2 dMo_open_167 rfl (nI_add n 1) (by decide) rfl ?_
        refine mn_goto 133 dMo_open_170 (by decide) ?_
        exact ih (n + 1) (by omega) (by omega) (hsb.trans (sbK_n (by omega) (by rw [eL_n hpn]; omega)))
      · have hpn : ¬ pm n = none := fun q => c3 ((onI_e (fun q hq => hpm _ q (by omega) hq)).mpr q)
        refine mn_aload_n 0 dMo_open_152 rfl rfl ?_
        refine mn_get okMo 19 lMo_41 (by decide) hM rfl dMo_open_153 ?_
        refine mn_iload_n 2 dMo_open_156 rfl rfl ?_
        refine mn_ialdN (j := n) hMt rfl (by omega) (by omega) dMo_open_157 ?_
        refine mn_aload_n 0 dMo_open_158 rfl rfl ?_
        refine mn_get okMo 18 lMo_38 (by decide) hM rfl dMo_open_159 ?_
        refine mn_iload_n 2 dMo_open_162 rfl rfl ?_
        refine mn_ialdN (j := n) hMl rfl (by omega) (by omega) dMo_open_163 ?_
        refine mn_icmp_lt 173 dMo_open_164 (by decide) (fun c4 => ?_) (fun c4 => ?_)
        · have c4 := (nI_ltI (a := (mt n)) (b := (ml n)) (by omega) (by omega)).mp c4
          refine mn_iload_n 2 dMo_open_173 rfl rfl ?_
          refine mn_aload_n 0 dMo_open_174 rfl rfl ?_
          refine mn_get okMo 13 lMo_144 (by decide) hM rfl dMo_open_175 ?_
          refine mn_icmp_lt 182 dMo_open_178 (by decide) (fun c5 => ?_) (fun c5 => ?_)
          · have c5 := (nI_ltI (a := n) (b := m) (by omega) (by omega)).mp c5
            refine mn_iload_n 2 dMo_open_182 rfl rfl ?_
            refine mn_aload_n 0 dMo_open_183 rfl rfl ?_
            refine mn_get okMo 15 lMo_150 (by decide) hM rfl dMo_open_184 ?_
            refine mn_bipush (v := 12) dMo_open_187 (by decide) ?_
            refine mn_isub (z := nI (wd - 12)) dMo_open_189 (pk_sub (a := wd) (b := 12) (by omega)) ?_
            refine mn_imul (z := nI (n * (wd - 12))) dMo_open_190 (pk_mul n (wd - 12)) ?_
            refine mn_aload_n 0 dMo_open_191 rfl rfl ?_
            refine mn_get okMo 19 lMo_41 (by decide) hM rfl dMo_open_192 ?_
            refine mn_iload_n 2 dMo_open_195 rfl rfl ?_
            refine mn_ialdN (j := n) hMt rfl (by omega) (by omega) dMo_open_196 ?_
            refine mn_iadd (z := nI (n * (wd - 12) + (mt n))) dMo_open_197 (nI_add (n * (wd - 12)) (mt n)) ?_
            refine mn_istore_n (ls' := [(0, .ref mo), (1, .int (nI (n * (wd - 12) + (mt n)))), (2, .int (nI n))]) dMo_open_198 rfl (by decide) rfl ?_
            refine mn_goto 12 dMo_open_199 (by decide) ?_
            refine mn_R.sub [0, 1] (ls' := [(0, .ref mo), (1, .int (nI (n * (wd - 12) + (mt n))))]) rfl ?_
            exact hS n (by rw [hsb]; exact sbK_y (by omega) (by rw [eL_y hpn]; omega))
          · have c5 := _root_.mt (nI_ltI (a := n) (b := m) (by omega) (by omega)).mpr c5
            exact absurd c5 (by omega)
        · have c4 := _root_.mt (nI_ltI (a := (mt n)) (b := (ml n)) (by omega) (by omega)).mpr c4
          refine mn_iinc (v := nI (n + 1)) (ls' := [(0, .ref mo), (1, .int (nI p)), (2, .int (nI (n + 1)))]) 2 dMo_open_167 rfl (nI_add n 1) (by decide) rfl ?_
          refine mn_goto 133 dMo_open_170 (by decide) ?_
          exact ih (n + 1) (by omega) (by omega) (hsb.trans (sbK_n (by omega) (by rw [eL_y hpn]; omega)))
set_option maxRecDepth 100000 in
theorem c_M_open_l {E : mn_En} {g : mn_H} {mo tl e sz rp st m r wd ag : Nat} {ir : Int32} {ml mt mg : Nat → Nat} {pm : Nat → Option Nat} (hm : m ≤ 60) (hwd : 20 ≤ wd) (hwd2 : wd ≤ 80) (hml : ∀ j, ml j < 256) (hpm : ∀ j q, j < 64 → pm j = some q → q < 1000) (hmw : m * (wd - 12) ≤ 4080) (hmg : ∀ j, mg j < 256) (hmt : ∀ j, mt j < 256) : ∀ (fu p : Nat) (g0 : mn_H) (td om : Nat) (tA tL tO : Nat → Nat), td ≤ 40 → p < 5000 → (40 - td) * 100 + (m - p / (wd - 12)) < fu → mn_fr (fun q => q = mo ∨ q = mo + 11 ∨ q = mo + 12 ∨ q = mo + 13) g g0 → Tld mg (eL pm ml) mt m (wd - 12) td tA tL tO → om = smW tO td → nk (eL pm ml) mt m (wd - 12) 61 p = tsq mg (eL pm ml) mt m (wd - 12) td → mn_at g0 mo (.inr (11, [.int 0, .ref (mo + 1), .int (nI tl), .ref (mo + 2), .ref (mo + 3), .int (nI e), .int (nI sz), .int (nI rp), .int (nI st), .ref (mo + 4), .ref (mo + 5), .ref (mo + 6), .int ir, .int (nI m), .int (nI r), .int (nI wd), .int (nI ag), .ref (mo + 7), .ref (mo + 8), .ref (mo + 9), .ref (mo + 10), .int (nI td), .int (nI om), .ref (mo + 11), .ref (mo + 12), .ref (mo + 13), .ref (mo + 14), .ref (mo + 15), .ref (mo + 16)])) → mn_at g0 (mo + 7) (.inl (0, 64, .inl (fun j => onI (pm j)))) → mn_at g0 (mo + 8) (.inl (0, 64, .inl (fun j => nI (ml j)))) → mn_at g0 (mo + 9) (.inl (0, 64, .inl (fun j => nI (mt j)))) → mn_at g0 (mo + 10) (.inl (0, 4800, .inl (fun j => nI (mg j)))) → mn_at g0 (mo + 11) (.inl (0, 40, .inl (fun j => nI (tA j)))) → mn_at g0 (mo + 12) (.inl (0, 40, .inl (fun j => nI (tL j)))) → mn_at g0 (mo + 13) (.inl (0, 40, .inl (fun j => nI (tO j)))) → mn_R E MMo_open 3 69 0 0 12 [(0, .ref mo), (1, .int (nI p))] [] g0 (fun x g' => x = none ∧ mn_fr (fun q => q = mo ∨ q = mo + 11 ∨ q = mo + 12 ∨ q = mo + 13) g g' ∧ ∃ (t9 : Nat) (A9 L9 W9 : Nat → Nat), mn_at g' mo (.inr (11, [.int 0, .ref (mo + 1), .int (nI tl), .ref (mo + 2), .ref (mo + 3), .int (nI e), .int (nI sz), .int (nI rp), .int (nI st), .ref (mo + 4), .ref (mo + 5), .ref (mo + 6), .int ir, .int (nI m), .int (nI r), .int (nI wd), .int (nI ag), .ref (mo + 7), .ref (mo + 8), .ref (mo + 9), .ref (mo + 10), .int (nI t9), .int (nI (smW W9 t9)), .ref (mo + 11), .ref (mo + 12), .ref (mo + 13), .ref (mo + 14), .ref (mo + 15), .ref (mo + 16)])) ∧ mn_at g' (mo + 11) (.inl (0, 40, .inl (fun j => nI (A9 j)))) ∧ mn_at g' (mo + 12) (.inl (0, 40, .inl (fun j => nI (L9 j)))) ∧ mn_at g' (mo + 13) (.inl (0, 40, .inl (fun j => nI (W9 j)))) ∧ t9 ≤ 40 ∧ Tld mg (eL pm ml) mt m (wd - 12) t9 A9 L9 W9 ∧ (t9 = 40 ∨ tsq mg (eL pm ml) mt m (wd - 12) t9 = none)) := by
  intro fu
  induction fu with
  | zero => intro p g0 td om tA tL tO h1 h2 h3; exact absurd h3 (by omega)
  | succ fu ih =>
    intro p g0 td om tA tL tO h1 h2 h3 hfr hT hom hnk hM hPm hMl hMt hMg hTA hTL hTO
    refine mn_aload_n 0 dMo_open_12 rfl rfl ?_
    refine mn_get okMo 21 lMo_175 (by decide) hM rfl dMo_open_13 ?_
    refine mn_bipush (v := 40) dMo_open_16 (by decide) ?_
    refine mn_icmp_ge 202 dMo_open_18 (by decide) (fun c1 => ?_) (fun c1 => ?_)
    · have c1 := (nI_leI (a := 40) (b := td) (by omega) (by omega)).mp c1
      exact mn_vret rfl dMo_open_202 (by obtain rfl : td = 40 := (by omega); exact ⟨rfl, hfr, 40, tA, tL, tO, by rw [← hom]; exact hM, hTA, hTL, hTO, by omega, hT, Or.inl rfl⟩)
    · have c1 := _root_.mt (nI_leI (a := 40) (b := td) (by omega) (by omega)).mpr c1
      refine mn_aload_n 0 dMo_open_21 rfl rfl ?_
      refine mn_iload_n 1 dMo_open_22 rfl rfl ?_
      refine mn_cV (d' := 0) (w' := 0) (As := [.int (nI p)]) (stk' := [.int (kV (eL pm ml) m (wd - 12) p)]) okMo_isKnown lMo_172 dMo_open_23 hM rfl rfl rfl rfl (Nat.le_of_ble_eq_true rfl) (Nat.le_of_ble_eq_true rfl) (by decide) (c_M_isKnown hM hPm hMl hm hwd hwd2 hml hpm (p := p) (by omega)) rfl ?_
      refine mn_if_eq 121 dMo_open_26 (by decide) (fun c2 => ?_) (fun c2 => ?_)
      · refine mn_iload_n 1 dMo_open_121 rfl rfl ?_
        refine mn_aload_n 0 dMo_open_122 rfl rfl ?_
        refine mn_get okMo 15 lMo_150 (by decide) hM rfl dMo_open_123 ?_
        refine mn_bipush (v := 12) dMo_open_126 (by decide) ?_
        refine mn_isub (z := nI (wd - 12)) dMo_open_128 (pk_sub (a := wd) (b := 12) (by omega)) ?_
        refine mn_idiv (z := nI (p / (wd - 12))) dMo_open_129 (nI_ne0 (n := wd - 12) (by omega) (by omega)) (pk_div (a := p) (d := wd - 12) (by omega) (by omega) (by omega)) ?_
        refine mn_iconst (v := 1) dMo_open_130 (by decide) ?_
        refine mn_iadd (z := nI (p / (wd - 12) + 1)) dMo_open_131 (nI_add (p / (wd - 12)) 1) ?_
        refine mn_istore_n (ls' := [(0, .ref mo), (1, .int (nI p)), (2, .int (nI (p / (wd - 12) + 1)))]) dMo_open_132 rfl (by decide) rfl ?_
        refine mn_R.sub [0, 1, 2] (ls' := [(0, .ref mo), (1, .int (nI p)), (2, .int (nI (p / (wd - 12) + 1)))]) rfl ?_
        have hkn := kV_no c2
        have hz1 := Nat.zero_le (p / (wd - 12))
        have hdp := Nat.div_le_self p (wd - 12)
        refine c_M_open_in hM hPm hMl hMt hm hwd hwd2 hml hpm hmt (fun hno => ?_) (fun n hns => ?_) (m + 1) (p / (wd - 12) + 1) (by omega) (by omega) rfl
        · exact ⟨rfl, hfr, td, tA, tL, tO, by rw [← hom]; exact hM, hTA, hTL, hTO, by omega, hT, Or.inr (by rw [← hnk]; exact nk_none hkn hno)⟩
        · have h3 := sbK_some (Nat.sub_le _ _) hns
          have h4 : n ≤ (n * (wd - 12) + mt n) / (wd - 12) := by rw [Nat.le_div_iff_mul_le (by omega)]; omega
          have h5 := Nat.mul_le_mul_right (wd - 12) (show n ≤ m by omega)
          have h6 := hmt n
          exact ih (n * (wd - 12) + mt n) g0 td om tA tL tO (by omega) (by omega) (by omega) hfr hT hom ((nk_jump (by omega) hm hkn hns).symm.trans hnk) hM hPm hMl hMt hMg hTA hTL hTO
      · have hkn := kV_of c2
        have hts : tsq mg (eL pm ml) mt m (wd - 12) td = some p := by rw [← hnk]; exact nk_yes hkn
        have hpl := hkn.1
        have hbp := hmg p
        refine mn_aload_n 0 dMo_open_29 rfl rfl ?_
        refine mn_get okMo 20 lMo_44 (by decide) hM rfl dMo_open_30 ?_
        refine mn_iload_n 1 dMo_open_33 rfl rfl ?_
        refine mn_ialdN (j := p) hMg rfl (by omega) (by omega) dMo_open_34 ?_
        refine mn_istore_n (ls' := [(0, .ref mo), (1, .int (nI p)), (2, .int (nI (mg p)))]) dMo_open_35 rfl (by decide) rfl ?_
        refine mn_aload_n 0 dMo_open_36 rfl rfl ?_
        refine mn_iload_n 1 dMo_open_37 rfl rfl ?_
        refine mn_iload_n 2 dMo_open_38 rfl rfl ?_
        refine mn_cV (d' := 2) (w' := 45) (As := [.int (nI p), .int (nI (mg p))]) (stk' := [.int (iwV mg (eL pm ml) m (wd - 12) p (mg p))]) okMo_isWhole lMo_181 dMo_open_39 hM rfl rfl rfl rfl (Nat.le_of_ble_eq_true rfl) (Nat.le_of_ble_eq_true rfl) (by decide) (c_M_isWhole hM hPm hMl hMg hm hwd hwd2 hml hpm hmw hmg (p := p) (n := mg p) (by omega) (by omega)) rfl ?_
        refine mn_istore_n (ls' := [(0, .ref mo), (1, .int (nI p)), (2, .int (nI (mg p))), (3, .int (iwV mg (eL pm ml) m (wd - 12) p (mg p)))]) dMo_open_42 rfl (by decide) rfl ?_
        refine mn_aload_n 0 dMo_open_43 rfl rfl ?_
        refine mn_get okMo 23 lMo_47 (by decide) hM rfl dMo_open_44 ?_
        refine mn_aload_n 0 dMo_open_47 rfl rfl ?_
        refine mn_get okMo 21 lMo_175 (by decide) hM rfl dMo_open_48 ?_
        refine mn_iload_n 1 dMo_open_51 rfl rfl ?_
        refine mn_iastN (j := td) hTA rfl (by omega) (by omega) dMo_open_52 ?_
        obtain ⟨g3, eg3⟩ : ∃ gg_, gg_ = mn_set g0 (mo + 11) (.inl (0, 40, .inl (upd (fun j => nI (tA j)) td (nI p)))) := ⟨_, rfl⟩
        refine mn_R.toG eg3 ?_
        have hM_g3 : mn_at g3 mo (.inr (11, [.int 0, .ref (mo + 1), .int (nI tl), .ref (mo + 2), .ref (mo + 3), .int (nI e), .int (nI sz), .int (nI rp), .int (nI st), .ref (mo + 4), .ref (mo + 5), .ref (mo + 6), .int ir, .int (nI m), .int (nI r), .int (nI wd), .int (nI ag), .ref (mo + 7), .ref (mo + 8), .ref (mo + 9), .ref (mo + 10), .int (nI td), .int (nI om), .ref (mo + 11), .ref (mo + 12), .ref (mo + 13), .ref (mo + 14), .ref (mo + 15), .ref (mo + 16)])) := by rw [eg3]; exact hM.off (by omega)
        have hPm_g3 : mn_at g3 (mo + 7) (.inl (0, 64, .inl (fun j => onI (pm j)))) := by rw [eg3]; exact hPm.off (by omega)
        have hMl_g3 : mn_at g3 (mo + 8) (.inl (0, 64, .inl (fun j => nI (ml j)))) := by rw [eg3]; exact hMl.off (by omega)
        have hMt_g3 : mn_at g3 (mo + 9) (.inl (0, 64, .inl (fun j => nI (mt j)))) := by rw [eg3]; exact hMt.off (by omega)
        have hMg_g3 : mn_at g3 (mo + 10) (.inl (0, 4800, .inl (fun j => nI (mg j)))) := by rw [eg3]; exact hMg.off (by omega)
        have hTA_g3 : mn_at g3 (mo + 11) (.inl (0, 40, .inl (upd (fun j => nI (tA j)) td (nI p)))) := by rw [eg3]; exact hTA.same
        have hTL_g3 : mn_at g3 (mo + 12) (.inl (0, 40, .inl (fun j => nI (tL j)))) := by rw [eg3]; exact hTL.off (by omega)
        have hTO_g3 : mn_at g3 (mo + 13) (.inl (0, 40, .inl (fun j => nI (tO j)))) := by rw [eg3]; exact hTO.off (by omega)
        refine mn_aload_n 0 dMo_open_53 rfl rfl ?_
        refine mn_get okMo 24 lMo_50 (by decide) hM_g3 rfl dMo_open_54 ?_
        refine mn_aload_n 0 dMo_open_57 rfl rfl ?_
        refine mn_get okMo 21 lMo_175 (by decide) hM_g3 rfl dMo_open_58 ?_
        refine mn_iload_n 2 dMo_open_61 rfl rfl ?_
        refine mn_iastN (j := td) hTL_g3 rfl (by omega) (by omega) dMo_open_62 ?_
        obtain ⟨g4, eg4⟩ : ∃ gg_, gg_ = mn_set g3 (mo + 12) (.inl (0, 40, .inl (upd (fun j => nI (tL j)) td (nI (mg p))))) := ⟨_, rfl⟩
        refine mn_R.toG eg4 ?_
        have hM_g4 : mn_at g4 mo (.inr (11, [.int 0, .ref (mo + 1), .int (nI tl), .ref (mo + 2), .ref (mo + 3), .int (nI e), .int (nI sz), .int (nI rp), .int (nI st), .ref (mo + 4), .ref (mo + 5), .ref (mo + 6), .int ir, .int (nI m), .int (nI r), .int (nI wd), .int (nI ag), .ref (mo + 7), .ref (mo + 8), .ref (mo + 9), .ref (mo + 10), .int (nI td), .int (nI om), .ref (mo + 11), .ref (mo + 12), .ref (mo + 13), .ref (mo + 14), .ref (mo + 15), .ref (mo + 16)])) := by rw [eg4]; exact hM_g3.off (by omega)
        have hPm_g4 : mn_at g4 (mo + 7) (.inl (0, 64, .inl (fun j => onI (pm j)))) := by rw [eg4]; exact hPm_g3.off (by omega)
        have hMl_g4 : mn_at g4 (mo + 8) (.inl (0, 64, .inl (fun j => nI (ml j)))) := by rw [eg4]; exact hMl_g3.off (by omega)
        have hMt_g4 : mn_at g4 (mo + 9) (.inl (0, 64, .inl (fun j => nI (mt j)))) := by rw [eg4]; exact hMt_g3.off (by omega)
        have hMg_g4 : mn_at g4 (mo + 10) (.inl (0, 4800, .inl (fun j => nI (mg j)))) := by rw [eg4]; exact hMg_g3.off (by omega)
        have hTA_g4 : mn_at g4 (mo + 11) (.inl (0, 40, .inl (upd (fun j => nI (tA j)) td (nI p)))) := by rw [eg4]; exact hTA_g3.off (by omega)
        have hTL_g4 : mn_at g4 (mo + 12) (.inl (0, 40, .inl (upd (fun j => nI (tL j)) td (nI (mg p))))) := by rw [eg4]; exact hTL_g3.same
        have hTO_g4 : mn_at g4 (mo + 13) (.inl (0, 40, .inl (fun j => nI (tO j)))) := by rw [eg4]; exact hTO_g3.off (by omega)
        refine mn_aload_n 0 dMo_open_63 rfl rfl ?_
        refine mn_get okMo 25 lMo_53 (by decide) hM_g4 rfl dMo_open_64 ?_
        refine mn_aload_n 0 dMo_open_67 rfl rfl ?_
        refine mn_get okMo 21 lMo_175 (by decide) hM_g4 rfl dMo_open_68 ?_
        refine mn_iload_n 3 dMo_open_71 rfl rfl ?_
        refine mn_if_eq 79 dMo_open_72 (by decide) (fun c5 => ?_) (fun c5 => ?_)
        · refine mn_iconst (v := 0) dMo_open_79 (by decide) ?_
          refine mn_iastN (j := td) hTO_g4 rfl (by omega) (by omega) dMo_open_80 ?_
          obtain ⟨g6, eg6⟩ : ∃ gg_, gg_ = mn_set g4 (mo + 13) (.inl (0, 40, .inl (upd (fun j => nI (tO j)) td 0))) := ⟨_, rfl⟩
          refine mn_R.toG eg6 ?_
          have hM_g6 : mn_at g6 mo (.inr (11, [.int 0, .ref (mo + 1), .int (nI tl), .ref (mo + 2), .ref (mo + 3), .int (nI e), .int (nI sz), .int (nI rp), .int (nI st), .ref (mo + 4), .ref (mo + 5), .ref (mo + 6), .int ir, .int (nI m), .int (nI r), .int (nI wd), .int (nI ag), .ref (mo + 7), .ref (mo + 8), .ref (mo + 9), .ref (mo + 10), .int (nI td), .int (nI om), .ref (mo + 11), .ref (mo + 12), .ref (mo + 13), .ref (mo + 14), .ref (mo + 15), .ref (mo + 16)])) := by rw [eg6]; exact hM_g4.off (by omega)
          have hPm_g6 : mn_at g6 (mo + 7) (.inl (0, 64, .inl (fun j => onI (pm j)))) := by rw [eg6]; exact hPm_g4.off (by omega)
          have hMl_g6 : mn_at g6 (mo + 8) (.inl (0, 64, .inl (fun j => nI (ml j)))) := by rw [eg6]; exact hMl_g4.off (by omega)
          have hMt_g6 : mn_at g6 (mo + 9) (.inl (0, 64, .inl (fun j => nI (mt j)))) := by rw [eg6]; exact hMt_g4.off (by omega)
          have hMg_g6 : mn_at g6 (mo + 10) (.inl (0, 4800, .inl (fun j => nI (mg j)))) := by rw [eg6]; exact hMg_g4.off (by omega)
          have hTA_g6 : mn_at g6 (mo + 11) (.inl (0, 40, .inl (upd (fun j => nI (tA j)) td (nI p)))) := by rw [eg6]; exact hTA_g4.off (by omega)
          have hTL_g6 : mn_at g6 (mo + 12) (.inl (0, 40, .inl (upd (fun j => nI (tL j)) td (nI (mg p))))) := by rw [eg6]; exact hTL_g4.off (by omega)
          have hTO_g6 : mn_at g6 (mo + 13) (.inl (0, 40, .inl (upd (fun j => nI (tO j)) td 0))) := by rw [eg6]; exact hTO_g4.same
          refine mn_aload_n 0 dMo_open_81 rfl rfl ?_
          refine mn_dup dMo_open_82 rfl ?_
          refine mn_get okMo 21 lMo_175 (by decide) hM_g6 rfl dMo_open_83 ?_
          refine mn_iconst (v := 1) dMo_open_86 (by decide) ?_
          refine mn_iadd (z := nI (td + 1)) dMo_open_87 (nI_add td 1) ?_
          refine mn_putf okMo 21 lMo_175 (by decide) rfl hM_g6 rfl rfl (Nat.le_of_ble_eq_true rfl) dMo_open_88 ?_
          obtain ⟨g7, eg7⟩ : ∃ gg_, gg_ = mn_set g6 mo (.inr (11, [.int 0, .ref (mo + 1), .int (nI tl), .ref (mo + 2), .ref (mo + 3), .int (nI e), .int (nI sz), .int (nI rp), .int (nI st), .ref (mo + 4), .ref (mo + 5), .ref (mo + 6), .int ir, .int (nI m), .int (nI r), .int (nI wd), .int (nI ag), .ref (mo + 7), .ref (mo + 8), .ref (mo + 9), .ref (mo + 10), .int (nI (td + 1)), .int (nI om), .ref (mo + 11), .ref (mo + 12), .ref (mo + 13), .ref (mo + 14), .ref (mo + 15), .ref (mo + 16)])) := ⟨_, rfl⟩
          refine mn_R.toG eg7 ?_
          have hM_g7 : mn_at g7 mo (.inr (11, [.int 0, .ref (mo + 1), .int (nI tl), .ref (mo + 2), .ref (mo + 3), .int (nI e), .int (nI sz), .int (nI rp), .int (nI st), .ref (mo + 4), .ref (mo + 5), .ref (mo + 6), .int ir, .int (nI m), .int (nI r), .int (nI wd), .int (nI ag), .ref (mo + 7), .ref (mo + 8), .ref (mo + 9), .ref (mo + 10), .int (nI (td + 1)), .int (nI om), .ref (mo + 11), .ref (mo + 12), .ref (mo + 13), .ref (mo + 14), .ref (mo + 15), .ref (mo + 16)])) := by rw [eg7]; exact hM_g6.same
          have hPm_g7 : mn_at g7 (mo + 7) (.inl (0, 64, .inl (fun j => onI (pm j)))) := by rw [eg7]; exact hPm_g6.off (by omega)
          have hMl_g7 : mn_at g7 (mo + 8) (.inl (0, 64, .inl (fun j => nI (ml j)))) := by rw [eg7]; exact hMl_g6.off (by omega)
          have hMt_g7 : mn_at g7 (mo + 9) (.inl (0, 64, .inl (fun j => nI (mt j)))) := by rw [eg7]; exact hMt_g6.off (by omega)
          have hMg_g7 : mn_at g7 (mo + 10) (.inl (0, 4800, .inl (fun j => nI (mg j)))) := by rw [eg7]; exact hMg_g6.off (by omega)
          have hTA_g7 : mn_at g7 (mo + 11) (.inl (0, 40, .inl (upd (fun j => nI (tA j)) td (nI p)))) := by rw [eg7]; exact hTA_g6.off (by omega)
          have hTL_g7 : mn_at g7 (mo + 12) (.inl (0, 40, .inl (upd (fun j => nI (tL j)) td (nI (mg p))))) := by rw [eg7]; exact hTL_g6.off (by omega)
          have hTO_g7 : mn_at g7 (mo + 13) (.inl (0, 40, .inl (upd (fun j => nI (tO j)) td 0))) := by rw [eg7]; exact hTO_g6.off (by omega)
          refine mn_aload_n 0 dMo_open_91 rfl rfl ?_
          refine mn_iload_n 3 dMo_open_92 rfl rfl ?_
          refine mn_if_eq 105 dMo_open_93 (by decide) (fun c8 => ?_) (fun c8 => ?_)
          · refine mn_aload_n 0 dMo_open_105 rfl rfl ?_
            refine mn_get okMo 22 lMo_178 (by decide) hM_g7 rfl dMo_open_106 ?_
            refine mn_putf okMo 22 lMo_178 (by decide) rfl hM_g7 rfl rfl (Nat.le_of_ble_eq_true rfl) dMo_open_109 ?_
            obtain ⟨g9, eg9⟩ : ∃ gg_, gg_ = mn_set g7 mo (.inr (11, [.int 0, .ref (mo + 1), .int (nI tl), .ref (mo + 2), .ref (mo + 3), .int (nI e), .int (nI sz), .int (nI rp), .int (nI st), .ref (mo + 4), .ref (mo + 5), .ref (mo + 6), .int ir, .int (nI m), .int (nI r), .int (nI wd), .int (nI ag), .ref (mo + 7), .ref (mo + 8), .ref (mo + 9), .ref (mo + 10), .int (nI (td + 1)), .int (nI om), .ref (mo + 11), .ref (mo + 12), .ref (mo + 13), .ref (mo + 14), .ref (mo + 15), .ref (mo + 16)])) := ⟨_, rfl⟩
            refine mn_R.toG eg9 ?_
            have hM_g9 : mn_at g9 mo (.inr (11, [.int 0, .ref (mo + 1), .int (nI tl), .ref (mo + 2), .ref (mo + 3), .int (nI e), .int (nI sz), .int (nI rp), .int (nI st), .ref (mo + 4), .ref (mo + 5), .ref (mo + 6), .int ir, .int (nI m), .int (nI r), .int (nI wd), .int (nI ag), .ref (mo + 7), .ref (mo + 8), .ref (mo + 9), .ref (mo + 10), .int (nI (td + 1)), .int (nI om), .ref (mo + 11), .ref (mo + 12), .ref (mo + 13), .ref (mo + 14), .ref (mo + 15), .ref (mo + 16)])) := by rw [eg9]; exact hM_g7.same
            have hPm_g9 : mn_at g9 (mo + 7) (.inl (0, 64, .inl (fun j => onI (pm j)))) := by rw [eg9]; exact hPm_g7.off (by omega)
            have hMl_g9 : mn_at g9 (mo + 8) (.inl (0, 64, .inl (fun j => nI (ml j)))) := by rw [eg9]; exact hMl_g7.off (by omega)
            have hMt_g9 : mn_at g9 (mo + 9) (.inl (0, 64, .inl (fun j => nI (mt j)))) := by rw [eg9]; exact hMt_g7.off (by omega)
            have hMg_g9 : mn_at g9 (mo + 10) (.inl (0, 4800, .inl (fun j => nI (mg j)))) := by rw [eg9]; exact hMg_g7.off (by omega)
            have hTA_g9 : mn_at g9 (mo + 11) (.inl (0, 40, .inl (upd (fun j => nI (tA j)) td (nI p)))) := by rw [eg9]; exact hTA_g7.off (by omega)
            have hTL_g9 : mn_at g9 (mo + 12) (.inl (0, 40, .inl (upd (fun j => nI (tL j)) td (nI (mg p))))) := by rw [eg9]; exact hTL_g7.off (by omega)
            have hTO_g9 : mn_at g9 (mo + 13) (.inl (0, 40, .inl (upd (fun j => nI (tO j)) td 0))) := by rw [eg9]; exact hTO_g7.off (by omega)
            refine mn_iload_n 1 dMo_open_112 rfl rfl ?_
            refine mn_iload_n 2 dMo_open_113 rfl rfl ?_
            refine mn_iadd (z := nI (p + (mg p))) dMo_open_114 (nI_add p (mg p)) ?_
            refine mn_iconst (v := 3) dMo_open_115 (by decide) ?_
            refine mn_iadd (z := nI (p + (mg p) + 3)) dMo_open_116 (nI_add (p + (mg p)) 3) ?_
            refine mn_istore_n (ls' := [(0, .ref mo), (1, .int (nI (p + (mg p) + 3))), (2, .int (nI (mg p))), (3, .int (iwV mg (eL pm ml) m (wd - 12) p (mg p)))]) dMo_open_117 rfl (by decide) rfl ?_
            refine mn_goto 12 dMo_open_118 (by decide) ?_
            rw [upd_nI] at hTA_g9 hTL_g9
            have hib : iwB mg (eL pm ml) m (wd - 12) p (mg p) = 0 := iwB_n c8
            have hW9 : mn_at g9 (mo + 13) (.inl (0, 40, .inl (fun j => nI (va_up tO td (iwB mg (eL pm ml) m (wd - 12) p (mg p)) j)))) := by rw [hib, ← upd_nI]; exact hTO_g9
            refine mn_R.sub [0, 1] (ls' := [(0, .ref mo), (1, .int (nI (p + (mg p) + 3)))]) rfl ?_
            have hz1 := Nat.zero_le (p / (wd - 12))
            have hz2 := Nat.zero_le ((p + mg p + 3) / (wd - 12))
            exact ih (p + mg p + 3) g9 (td + 1) om _ _ _ (by omega) (by omega) (by omega) (((((hfr.set eg3 (by show (mo + 11) = mo ∨ (mo + 11) = mo + 11 ∨ (mo + 11) = mo + 12 ∨ (mo + 11) = mo + 13; omega)).set eg4 (by show (mo + 12) = mo ∨ (mo + 12) = mo + 11 ∨ (mo + 12) = mo + 12 ∨ (mo + 12) = mo + 13; omega)).set eg6 (by show (mo + 13) = mo ∨ (mo + 13) = mo + 11 ∨ (mo + 13) = mo + 12 ∨ (mo + 13) = mo + 13; omega)).set eg7 (by show mo = mo ∨ mo = mo + 11 ∨ mo = mo + 12 ∨ mo = mo + 13; omega)).set eg9 (by show mo = mo ∨ mo = mo + 11 ∨ mo = mo + 12 ∨ mo = mo + 13; omega)) (Tld_s hT hts) (by rw [smW_up, hib, hom]; rfl) (by rw [tsq, hts]; show nk (eL pm ml) mt m (wd - 12) 61 (p + mg p + 3) = nk (eL pm ml) mt m (wd - 12) 61 (p + 3 + mg p); rw [show p + mg p + 3 = p + 3 + mg p by omega]) hM_g9 hPm_g9 hMl_g9 hMt_g9 hMg_g9 hTA_g9 hTL_g9 hW9
          · exact absurd c5 c8
        · refine mn_iconst (v := 1) dMo_open_75 (by decide) ?_
          refine mn_goto 80 dMo_open_76 (by decide) ?_
          refine mn_iastN (j := td) hTO_g4 rfl (by omega) (by omega) dMo_open_80 ?_
          obtain ⟨g10, eg10⟩ : ∃ gg_, gg_ = mn_set g4 (mo + 13) (.inl (0, 40, .inl (upd (fun j => nI (tO j)) td 1))) := ⟨_, rfl⟩
          refine mn_R.toG eg10 ?_
          have hM_g10 : mn_at g10 mo (.inr (11, [.int 0, .ref (mo + 1), .int (nI tl), .ref (mo + 2), .ref (mo + 3), .int (nI e), .int (nI sz), .int (nI rp), .int (nI st), .ref (mo + 4), .ref (mo + 5), .ref (mo + 6), .int ir, .int (nI m), .int (nI r), .int (nI wd), .int (nI ag), .ref (mo + 7), .ref (mo + 8), .ref (mo + 9), .ref (mo + 10), .int (nI td), .int (nI om), .ref (mo + 11), .ref (mo + 12), .ref (mo + 13), .ref (mo + 14), .ref (mo + 15), .ref (mo + 16)])) := by rw [eg10]; exact hM_g4.off (by omega)
          have hPm_g10 : mn_at g10 (mo + 7) (.inl (0, 64, .inl (fun j => onI (pm j)))) := by rw [eg10]; exact hPm_g4.off (by omega)
          have hMl_g10 : mn_at g10 (mo + 8) (.inl (0, 64, .inl (fun j => nI (ml j)))) := by rw [eg10]; exact hMl_g4.off (by omega)
          have hMt_g10 : mn_at g10 (mo + 9) (.inl (0, 64, .inl (fun j => nI (mt j)))) := by rw [eg10]; exact hMt_g4.off (by omega)
          have hMg_g10 : mn_at g10 (mo + 10) (.inl (0, 4800, .inl (fun j => nI (mg j)))) := by rw [eg10]; exact hMg_g4.off (by omega)
          have hTA_g10 : mn_at g10 (mo + 11) (.inl (0, 40, .inl (upd (fun j => nI (tA j)) td (nI p)))) := by rw [eg10]; exact hTA_g4.off (by omega)
          have hTL_g10 : mn_at g10 (mo + 12) (.inl (0, 40, .inl (upd (fun j => nI (tL j)) td (nI (mg p))))) := by rw [eg10]; exact hTL_g4.off (by omega)
          have hTO_g10 : mn_at g10 (mo + 13) (.inl (0, 40, .inl (upd (fun j => nI (tO j)) td 1))) := by rw [eg10]; exact hTO_g4.same
          refine mn_aload_n 0 dMo_open_81 rfl rfl ?_
          refine mn_dup dMo_open_82 rfl ?_
          refine mn_get okMo 21 lMo_175 (by decide) hM_g10 rfl dMo_open_83 ?_
          refine mn_iconst (v := 1) dMo_open_86 (by decide) ?_
          refine mn_iadd (z := nI (td + 1)) dMo_open_87 (nI_add td 1) ?_
          refine mn_putf okMo 21 lMo_175 (by decide) rfl hM_g10 rfl rfl (Nat.le_of_ble_eq_true rfl) dMo_open_88 ?_
          obtain ⟨g11, eg11⟩ : ∃ gg_, gg_ = mn_set g10 mo (.inr (11, [.int 0, .ref (mo + 1), .int (nI tl), .ref (mo + 2), .ref (mo + 3), .int (nI e), .int (nI sz), .int (nI rp), .int (nI st), .ref (mo + 4), .ref (mo + 5), .ref (mo + 6), .int ir, .int (nI m), .int (nI r), .int (nI wd), .int (nI ag), .ref (mo + 7), .ref (mo + 8), .ref (mo + 9), .ref (mo + 10), .int (nI (td + 1)), .int (nI om), .ref (mo + 11), .ref (mo + 12), .ref (mo + 13), .ref (mo + 14), .ref (mo + 15), .ref (mo + 16)])) := ⟨_, rfl⟩
          refine mn_R.toG eg11 ?_
          have hM_g11 : mn_at g11 mo (.inr (11, [.int 0, .ref (mo + 1), .int (nI tl), .ref (mo + 2), .ref (mo + 3), .int (nI e), .int (nI sz), .int (nI rp), .int (nI st), .ref (mo + 4), .ref (mo + 5), .ref (mo + 6), .int ir, .int (nI m), .int (nI r), .int (nI wd), .int (nI ag), .ref (mo + 7), .ref (mo + 8), .ref (mo + 9), .ref (mo + 10), .int (nI (td + 1)), .int (nI om), .ref (mo + 11), .ref (mo + 12), .ref (mo + 13), .ref (mo + 14), .ref (mo + 15), .ref (mo + 16)])) := by rw [eg11]; exact hM_g10.same
          have hPm_g11 : mn_at g11 (mo + 7) (.inl (0, 64, .inl (fun j => onI (pm j)))) := by rw [eg11]; exact hPm_g10.off (by omega)
          have hMl_g11 : mn_at g11 (mo + 8) (.inl (0, 64, .inl (fun j => nI (ml j)))) := by rw [eg11]; exact hMl_g10.off (by omega)
          have hMt_g11 : mn_at g11 (mo + 9) (.inl (0, 64, .inl (fun j => nI (mt j)))) := by rw [eg11]; exact hMt_g10.off (by omega)
          have hMg_g11 : mn_at g11 (mo + 10) (.inl (0, 4800, .inl (fun j => nI (mg j)))) := by rw [eg11]; exact hMg_g10.off (by omega)
          have hTA_g11 : mn_at g11 (mo + 11) (.inl (0, 40, .inl (upd (fun j => nI (tA j)) td (nI p)))) := by rw [eg11]; exact hTA_g10.off (by omega)
          have hTL_g11 : mn_at g11 (mo + 12) (.inl (0, 40, .inl (upd (fun j => nI (tL j)) td (nI (mg p))))) := by rw [eg11]; exact hTL_g10.off (by omega)
          have hTO_g11 : mn_at g11 (mo + 13) (.inl (0, 40, .inl (upd (fun j => nI (tO j)) td 1))) := by rw [eg11]; exact hTO_g10.off (by omega)
          refine mn_aload_n 0 dMo_open_91 rfl rfl ?_
          refine mn_iload_n 3 dMo_open_92 rfl rfl ?_
          refine mn_if_eq 105 dMo_open_93 (by decide) (fun c12 => ?_) (fun c12 => ?_)
          · exact absurd c12 c5
          · refine mn_aload_n 0 dMo_open_96 rfl rfl ?_
            refine mn_get okMo 22 lMo_178 (by decide) hM_g11 rfl dMo_open_97 ?_
            refine mn_iconst (v := 1) dMo_open_100 (by decide) ?_
            refine mn_iadd (z := nI (om + 1)) dMo_open_101 (nI_add om 1) ?_
            refine mn_goto 109 dMo_open_102 (by decide) ?_
            refine mn_putf okMo 22 lMo_178 (by decide) rfl hM_g11 rfl rfl (Nat.le_of_ble_eq_true rfl) dMo_open_109 ?_
            obtain ⟨g13, eg13⟩ : ∃ gg_, gg_ = mn_set g11 mo (.inr (11, [.int 0, .ref (mo + 1), .int (nI tl), .ref (mo + 2), .ref (mo + 3), .int (nI e), .int (nI sz), .int (nI rp), .int (nI st), .ref (mo + 4), .ref (mo + 5), .ref (mo + 6), .int ir, .int (nI m), .int (nI r), .int (nI wd), .int (nI ag), .ref (mo + 7), .ref (mo + 8), .ref (mo + 9), .ref (mo + 10), .int (nI (td + 1)), .int (nI (om + 1)), .ref (mo + 11), .ref (mo + 12), .ref (mo + 13), .ref (mo + 14), .ref (mo + 15), .ref (mo + 16)])) := ⟨_, rfl⟩
            refine mn_R.toG eg13 ?_
            have hM_g13 : mn_at g13 mo (.inr (11, [.int 0, .ref (mo + 1), .int (nI tl), .ref (mo + 2), .ref (mo + 3), .int (nI e), .int (nI sz), .int (nI rp), .int (nI st), .ref (mo + 4), .ref (mo + 5), .ref (mo + 6), .int ir, .int (nI m), .int (nI r), .int (nI wd), .int (nI ag), .ref (mo + 7), .ref (mo + 8), .ref (mo + 9), .ref (mo + 10), .int (nI (td + 1)), .int (nI (om + 1)), .ref (mo + 11), .ref (mo + 12), .ref (mo + 13), .ref (mo + 14), .ref (mo + 15), .ref (mo + 16)])) := by rw [eg13]; exact hM_g11.same
            have hPm_g13 : mn_at g13 (mo + 7) (.inl (0, 64, .inl (fun j => onI (pm j)))) := by rw [eg13]; exact hPm_g11.off (by omega)
            have hMl_g13 : mn_at g13 (mo + 8) (.inl (0, 64, .inl (fun j => nI (ml j)))) := by rw [eg13]; exact hMl_g11.off (by omega)
            have hMt_g13 : mn_at g13 (mo + 9) (.inl (0, 64, .inl (fun j => nI (mt j)))) := by rw [eg13]; exact hMt_g11.off (by omega)
            have hMg_g13 : mn_at g13 (mo + 10) (.inl (0, 4800, .inl (fun j => nI (mg j)))) := by rw [eg13]; exact hMg_g11.off (by omega)
            have hTA_g13 : mn_at g13 (mo + 11) (.inl (0, 40, .inl (upd (fun j => nI (tA j)) td (nI p)))) := by rw [eg13]; exact hTA_g11.off (by omega)
            have hTL_g13 : mn_at g13 (mo + 12) (.inl (0, 40, .inl (upd (fun j => nI (tL j)) td (nI (mg p))))) := by rw [eg13]; exact hTL_g11.off (by omega)
            have hTO_g13 : mn_at g13 (mo + 13) (.inl (0, 40, .inl (upd (fun j => nI (tO j)) td 1))) := by rw [eg13]; exact hTO_g11.off (by omega)
            refine mn_iload_n 1 dMo_open_112 rfl rfl ?_
            refine mn_iload_n 2 dMo_open_113 rfl rfl ?_
            refine mn_iadd (z := nI (p + (mg p))) dMo_open_114 (nI_add p (mg p)) ?_
            refine mn_iconst (v := 3) dMo_open_115 (by decide) ?_
            refine mn_iadd (z := nI (p + (mg p) + 3)) dMo_open_116 (nI_add (p + (mg p)) 3) ?_
            refine mn_istore_n (ls' := [(0, .ref mo), (1, .int (nI (p + (mg p) + 3))), (2, .int (nI (mg p))), (3, .int (iwV mg (eL pm ml) m (wd - 12) p (mg p)))]) dMo_open_117 rfl (by decide) rfl ?_
            refine mn_goto 12 dMo_open_118 (by decide) ?_
            rw [upd_nI] at hTA_g13 hTL_g13
            have hib : iwB mg (eL pm ml) m (wd - 12) p (mg p) = 1 := iwB_y c12
            have hW9 : mn_at g13 (mo + 13) (.inl (0, 40, .inl (fun j => nI (va_up tO td (iwB mg (eL pm ml) m (wd - 12) p (mg p)) j)))) := by rw [hib, ← upd_nI]; exact hTO_g13
            refine mn_R.sub [0, 1] (ls' := [(0, .ref mo), (1, .int (nI (p + (mg p) + 3)))]) rfl ?_
            have hz1 := Nat.zero_le (p / (wd - 12))
            have hz2 := Nat.zero_le ((p + mg p + 3) / (wd - 12))
            exact ih (p + mg p + 3) g13 (td + 1) (om + 1) _ _ _ (by omega) (by omega) (by omega) (((((hfr.set eg3 (by show (mo + 11) = mo ∨ (mo + 11) = mo + 11 ∨ (mo + 11) = mo + 12 ∨ (mo + 11) = mo + 13; omega)).set eg4 (by show (mo + 12) = mo ∨ (mo + 12) = mo + 11 ∨ (mo + 12) = mo + 12 ∨ (mo + 12) = mo + 13; omega)).set eg10 (by show (mo + 13) = mo ∨ (mo + 13) = mo + 11 ∨ (mo + 13) = mo + 12 ∨ (mo + 13) = mo + 13; omega)).set eg11 (by show mo = mo ∨ mo = mo + 11 ∨ mo = mo + 12 ∨ mo = mo + 13; omega)).set eg13 (by show mo = mo ∨ mo = mo + 11 ∨ mo = mo + 12 ∨ mo = mo + 13; omega)) (Tld_s hT hts) (by rw [smW_up, hib, hom]) (by rw [tsq, hts]; show nk (eL pm ml) mt m (wd - 12) 61 (p + mg p + 3) = nk (eL pm ml) mt m (wd - 12) 61 (p + 3 + mg p); rw [show p + mg p + 3 = p + 3 + mg p by omega]) hM_g13 hPm_g13 hMl_g13 hMt_g13 hMg_g13 hTA_g13 hTL_g13 hW9
set_option maxRecDepth 100000 in
theorem c_M_open {E : mn_En} {g : mn_H} {mo tl e sz rp st m r wd ag td om : Nat} {ir : Int32} {ml mt mg tA tL tO : Nat → Nat} {pm : Nat → Option Nat} (hM : mn_at g mo (.inr (11, [.int 0, .ref (mo + 1), .int (nI tl), .ref (mo + 2), .ref (mo + 3), .int (nI e), .int (nI sz), .int (nI rp), .int (nI st), .ref (mo + 4), .ref (mo + 5), .ref (mo + 6), .int ir, .int (nI m), .int (nI r), .int (nI wd), .int (nI ag), .ref (mo + 7), .ref (mo + 8), .ref (mo + 9), .ref (mo + 10), .int (nI td), .int (nI om), .ref (mo + 11), .ref (mo + 12), .ref (mo + 13), .ref (mo + 14), .ref (mo + 15), .ref (mo + 16)]))) (hPm : mn_at g (mo + 7) (.inl (0, 64, .inl (fun j => onI (pm j))))) (hMl : mn_at g (mo + 8) (.inl (0, 64, .inl (fun j => nI (ml j))))) (hMt : mn_at g (mo + 9) (.inl (0, 64, .inl (fun j => nI (mt j))))) (hMg : mn_at g (mo + 10) (.inl (0, 4800, .inl (fun j => nI (mg j))))) (hTA : mn_at g (mo + 11) (.inl (0, 40, .inl (fun j => nI (tA j))))) (hTL : mn_at g (mo + 12) (.inl (0, 40, .inl (fun j => nI (tL j))))) (hTO : mn_at g (mo + 13) (.inl (0, 40, .inl (fun j => nI (tO j))))) (hm : m ≤ 60) (hwd : 20 ≤ wd) (hwd2 : wd ≤ 80) (hml : ∀ j, ml j < 256) (hpm : ∀ j q, j < 64 → pm j = some q → q < 1000) (hmw : m * (wd - 12) ≤ 4080) (hmg : ∀ j, mg j < 256) (hmt : ∀ j, mt j < 256) : mn_R E MMo_open 3 69 0 0 0 [(0, .ref mo)] [] g (fun x g' => x = none ∧ mn_fr (fun q => q = mo ∨ q = mo + 11 ∨ q = mo + 12 ∨ q = mo + 13) g g' ∧ ∃ (t9 : Nat) (A9 L9 W9 : Nat → Nat), mn_at g' mo (.inr (11, [.int 0, .ref (mo + 1), .int (nI tl), .ref (mo + 2), .ref (mo + 3), .int (nI e), .int (nI sz), .int (nI rp), .int (nI st), .ref (mo + 4), .ref (mo + 5), .ref (mo + 6), .int ir, .int (nI m), .int (nI r), .int (nI wd), .int (nI ag), .ref (mo + 7), .ref (mo + 8), .ref (mo + 9), .ref (mo + 10), .int (nI t9), .int (nI (smW W9 t9)), .ref (mo + 11), .ref (mo + 12), .ref (mo + 13), .ref (mo + 14), .ref (mo + 15), .ref (mo + 16)])) ∧ mn_at g' (mo + 11) (.inl (0, 40, .inl (fun j => nI (A9 j)))) ∧ mn_at g' (mo + 12) (.inl (0, 40, .inl (fun j => nI (L9 j)))) ∧ mn_at g' (mo + 13) (.inl (0, 40, .inl (fun j => nI (W9 j)))) ∧ t9 ≤ 40 ∧ Tld mg (eL pm ml) mt m (wd - 12) t9 A9 L9 W9 ∧ (t9 = 40 ∨ tsq mg (eL pm ml) mt m (wd - 12) t9 = none)) := by
  refine mn_aload_n 0 dMo_open_0 rfl rfl ?_
  refine mn_iconst (v := 0) dMo_open_1 (by decide) ?_
  refine mn_putf okMo 21 lMo_175 (by decide) rfl hM rfl rfl (Nat.le_of_ble_eq_true rfl) dMo_open_2 ?_
  obtain ⟨g1, eg1⟩ : ∃ gg_, gg_ = mn_set g mo (.inr (11, [.int 0, .ref (mo + 1), .int (nI tl), .ref (mo + 2), .ref (mo + 3), .int (nI e), .int (nI sz), .int (nI rp), .int (nI st), .ref (mo + 4), .ref (mo + 5), .ref (mo + 6), .int ir, .int (nI m), .int (nI r), .int (nI wd), .int (nI ag), .ref (mo + 7), .ref (mo + 8), .ref (mo + 9), .ref (mo + 10), .int 0, .int (nI om), .ref (mo + 11), .ref (mo + 12), .ref (mo + 13), .ref (mo + 14), .ref (mo + 15), .ref (mo + 16)])) := ⟨_, rfl⟩
  refine mn_R.toG eg1 ?_
  have hM_g1 : mn_at g1 mo (.inr (11, [.int 0, .ref (mo + 1), .int (nI tl), .ref (mo + 2), .ref (mo + 3), .int (nI e), .int (nI sz), .int (nI rp), .int (nI st), .ref (mo + 4), .ref (mo + 5), .ref (mo + 6), .int ir, .int (nI m), .int (nI r), .int (nI wd), .int (nI ag), .ref (mo + 7), .ref (mo + 8), .ref (mo + 9), .ref (mo + 10), .int 0, .int (nI om), .ref (mo + 11), .ref (mo + 12), .ref (mo + 13), .ref (mo + 14), .ref (mo + 15), .ref (mo + 16)])) := by rw [eg1]; exact hM.same
  have hPm_g1 : mn_at g1 (mo + 7) (.inl (0, 64, .inl (fun j => onI (pm j)))) := by rw [eg1]; exact hPm.off (by omega)
  have hMl_g1 : mn_at g1 (mo + 8) (.inl (0, 64, .inl (fun j => nI (ml j)))) := by rw [eg1]; exact hMl.off (by omega)
  have hMt_g1 : mn_at g1 (mo + 9) (.inl (0, 64, .inl (fun j => nI (mt j)))) := by rw [eg1]; exact hMt.off (by omega)
  have hMg_g1 : mn_at g1 (mo + 10) (.inl (0, 4800, .inl (fun j => nI (mg j)))) := by rw [eg1]; exact hMg.off (by omega)
  have hTA_g1 : mn_at g1 (mo + 11) (.inl (0, 40, .inl (fun j => nI (tA j)))) := by rw [eg1]; exact hTA.off (by omega)
  have hTL_g1 : mn_at g1 (mo + 12) (.inl (0, 40, .inl (fun j => nI (tL j)))) := by rw [eg1]; exact hTL.off (by omega)
  have hTO_g1 : mn_at g1 (mo + 13) (.inl (0, 40, .inl (fun j => nI (tO j)))) := by rw [eg1]; exact hTO.off (by omega)
  refine mn_aload_n 0 dMo_open_5 rfl rfl ?_
  refine mn_iconst (v := 0) dMo_open_6 (by decide) ?_
  refine mn_putf okMo 22 lMo_178 (by decide) rfl hM_g1 rfl rfl (Nat.le_of_ble_eq_true rfl) dMo_open_7 ?_
  obtain ⟨g2, eg2⟩ : ∃ gg_, gg_ = mn_set g1 mo (.inr (11, [.int 0, .ref (mo + 1), .int (nI tl), .ref (mo + 2), .ref (mo + 3), .int (nI e), .int (nI sz), .int (nI rp), .int (nI st), .ref (mo + 4), .ref (mo + 5), .ref (mo + 6), .int ir, .int (nI m), .int (nI r), .int (nI wd), .int (nI ag), .ref (mo + 7), .ref (mo + 8), .ref (mo + 9), .ref (mo + 10), .int 0, .int 0, .ref (mo + 11), .ref (mo + 12), .ref (mo + 13), .ref (mo + 14), .ref (mo + 15), .ref (mo + 16)])) := ⟨_, rfl⟩
  refine mn_R.toG eg2 ?_
  have hM_g2 : mn_at g2 mo (.inr (11, [.int 0, .ref (mo + 1), .int (nI tl), .ref (mo + 2), .ref (mo + 3), .int (nI e), .int (nI sz), .int (nI rp), .int (nI st), .ref (mo + 4), .ref (mo + 5), .ref (mo + 6), .int ir, .int (nI m), .int (nI r), .int (nI wd), .int (nI ag), .ref (mo + 7), .ref (mo + 8), .ref (mo + 9), .ref (mo + 10), .int 0, .int 0, .ref (mo + 11), .ref (mo + 12), .ref (mo + 13), .ref (mo + 14), .ref (mo + 15), .ref (mo + 16)])) := by rw [eg2]; exact hM_g1.same
  have hPm_g2 : mn_at g2 (mo + 7) (.inl (0, 64, .inl (fun j => onI (pm j)))) := by rw [eg2]; exact hPm_g1.off (by omega)
  have hMl_g2 : mn_at g2 (mo + 8) (.inl (0, 64, .inl (fun j => nI (ml j)))) := by rw [eg2]; exact hMl_g1.off (by omega)
  have hMt_g2 : mn_at g2 (mo + 9) (.inl (0, 64, .inl (fun j => nI (mt j)))) := by rw [eg2]; exact hMt_g1.off (by omega)
  have hMg_g2 : mn_at g2 (mo + 10) (.inl (0, 4800, .inl (fun j => nI (mg j)))) := by rw [eg2]; exact hMg_g1.off (by omega)
  have hTA_g2 : mn_at g2 (mo + 11) (.inl (0, 40, .inl (fun j => nI (tA j)))) := by rw [eg2]; exact hTA_g1.off (by omega)
  have hTL_g2 : mn_at g2 (mo + 12) (.inl (0, 40, .inl (fun j => nI (tL j)))) := by rw [eg2]; exact hTL_g1.off (by omega)
  have hTO_g2 : mn_at g2 (mo + 13) (.inl (0, 40, .inl (fun j => nI (tO j)))) := by rw [eg2]; exact hTO_g1.off (by omega)
  refine mn_iconst (v := 0) dMo_open_10 (by decide) ?_
  refine mn_istore_n (ls' := [(0, .ref mo), (1, .int 0)]) dMo_open_11 rfl (by decide) rfl ?_
  have hz1 := Nat.zero_le (0 / (wd - 12))
  exact c_M_open_l hm hwd hwd2 hml hpm hmw hmg hmt 5000 0 g2 0 0 tA tL tO (by omega) (by omega) (by omega) ((mn_fr.rf.set eg1 (by show mo = mo ∨ mo = mo + 11 ∨ mo = mo + 12 ∨ mo = mo + 13; omega)).set eg2 (by show mo = mo ∨ mo = mo + 11 ∨ mo = mo + 12 ∨ mo = mo + 13; omega)) (fun j hj => absurd hj (by omega)) rfl rfl hM_g2 hPm_g2 hMl_g2 hMt_g2 hMg_g2 hTA_g2 hTL_g2 hTO_g2
set_option maxRecDepth 100000 in
theorem c_M_known_L {E : mn_En} {g : mn_H} {mo tl e sz rp st m r wd ag td om : Nat} {ir : Int32} {ml : Nat → Nat} (hM : mn_at g mo (.inr (11, [.int 0, .ref (mo + 1), .int (nI tl), .ref (mo + 2), .ref (mo + 3), .int (nI e), .int (nI sz), .int (nI rp), .int (nI st), .ref (mo + 4), .ref (mo + 5), .ref (mo + 6), .int ir, .int (nI m), .int (nI r), .int (nI wd), .int (nI ag), .ref (mo + 7), .ref (mo + 8), .ref (mo + 9), .ref (mo + 10), .int (nI td), .int (nI om), .ref (mo + 11), .ref (mo + 12), .ref (mo + 13), .ref (mo + 14), .ref (mo + 15), .ref (mo + 16)]))) (hMl : mn_at g (mo + 8) (.inl (0, 64, .inl (fun j => nI (ml j))))) {n : Nat} (hn : n < 60) : mn_R E MMo_known 0 0 0 0 0 [(0, .ref mo), (1, .int (nI n)), (2, .int (-1))] [] g (mn_is (some (.int (nI (ml n)))) g) := by
  refine mn_iload_n 2 dMo_known_0 rfl rfl ?_
  refine mn_iconst (v := -1) dMo_known_1 (by decide) ?_
  refine mn_icmp_ne 14 dMo_known_2 (by decide) (fun c1 => ?_) (fun c1 => ?_)
  · exact absurd c1 (by decide)
  · refine mn_aload_n 0 dMo_known_5 rfl rfl ?_
    refine mn_get okMo 18 lMo_38 (by decide) hM rfl dMo_known_6 ?_
    refine mn_iload_n 1 dMo_known_9 rfl rfl ?_
    refine mn_ialdN (j := n) hMl rfl (by omega) (by omega) dMo_known_10 ?_
    refine mn_goto 45 dMo_known_11 (by decide) ?_
    exact mn_iret rfl dMo_known_45 ⟨rfl, rfl⟩
set_option maxRecDepth 100000 in
theorem c_M_known_S {E : mn_En} {g : mn_H} {mo tl e sz rp st m r wd ag td om : Nat} {ir : Int32} {mt : Nat → Nat} (hM : mn_at g mo (.inr (11, [.int 0, .ref (mo + 1), .int (nI tl), .ref (mo + 2), .ref (mo + 3), .int (nI e), .int (nI sz), .int (nI rp), .int (nI st), .ref (mo + 4), .ref (mo + 5), .ref (mo + 6), .int ir, .int (nI m), .int (nI r), .int (nI wd), .int (nI ag), .ref (mo + 7), .ref (mo + 8), .ref (mo + 9), .ref (mo + 10), .int (nI td), .int (nI om), .ref (mo + 11), .ref (mo + 12), .ref (mo + 13), .ref (mo + 14), .ref (mo + 15), .ref (mo + 16)]))) (hMt : mn_at g (mo + 9) (.inl (0, 64, .inl (fun j => nI (mt j))))) {n : Nat} (hn : n < 60) : mn_R E MMo_known 0 0 0 0 0 [(0, .ref mo), (1, .int (nI n)), (2, .int (-2))] [] g (mn_is (some (.int (nI (mt n)))) g) := by
  refine mn_iload_n 2 dMo_known_0 rfl rfl ?_
  refine mn_iconst (v := -1) dMo_known_1 (by decide) ?_
  refine mn_icmp_ne 14 dMo_known_2 (by decide) (fun c1 => ?_) (fun c1 => ?_)
  · refine mn_iload_n 2 dMo_known_14 rfl rfl ?_
    refine mn_bipush (v := (-2)) dMo_known_15 (by decide) ?_
    refine mn_icmp_ne 29 dMo_known_17 (by decide) (fun c2 => ?_) (fun c2 => ?_)
    · exact absurd c2 (by decide)
    · refine mn_aload_n 0 dMo_known_20 rfl rfl ?_
      refine mn_get okMo 19 lMo_41 (by decide) hM rfl dMo_known_21 ?_
      refine mn_iload_n 1 dMo_known_24 rfl rfl ?_
      refine mn_ialdN (j := n) hMt rfl (by omega) (by omega) dMo_known_25 ?_
      refine mn_goto 45 dMo_known_26 (by decide) ?_
      exact mn_iret rfl dMo_known_45 ⟨rfl, rfl⟩
  · exact absurd c1 (by decide)
set_option maxRecDepth 100000 in
theorem c_M_known_B {E : mn_En} {g : mn_H} {mo tl e sz rp st m r wd ag td om : Nat} {ir : Int32} {mg : Nat → Nat} (hM : mn_at g mo (.inr (11, [.int 0, .ref (mo + 1), .int (nI tl), .ref (mo + 2), .ref (mo + 3), .int (nI e), .int (nI sz), .int (nI rp), .int (nI st), .ref (mo + 4), .ref (mo + 5), .ref (mo + 6), .int ir, .int (nI m), .int (nI r), .int (nI wd), .int (nI ag), .ref (mo + 7), .ref (mo + 8), .ref (mo + 9), .ref (mo + 10), .int (nI td), .int (nI om), .ref (mo + 11), .ref (mo + 12), .ref (mo + 13), .ref (mo + 14), .ref (mo + 15), .ref (mo + 16)]))) (hMg : mn_at g (mo + 10) (.inl (0, 4800, .inl (fun j => nI (mg j))))) {n i : Nat} (hn : n < m) (hwd : 20 ≤ wd) (hwd2 : wd ≤ 80) (hmw : m * (wd - 12) ≤ 4080) (hi : i < wd - 12) : mn_R E MMo_known 0 0 0 0 0 [(0, .ref mo), (1, .int (nI n)), (2, .int (nI i))] [] g (mn_is (some (.int (nI (mg (n * (wd - 12) + i))))) g) := by
  have hnw := Nat.mul_le_mul_right (wd - 12) (show n + 1 ≤ m by omega)
  rw [Nat.succ_mul] at hnw
  refine mn_iload_n 2 dMo_known_0 rfl rfl ?_
  refine mn_iconst (v := -1) dMo_known_1 (by decide) ?_
  refine mn_icmp_ne 14 dMo_known_2 (by decide) (fun c1 => ?_) (fun c1 => ?_)
  · refine mn_iload_n 2 dMo_known_14 rfl rfl ?_
    refine mn_bipush (v := (-2)) dMo_known_15 (by decide) ?_
    refine mn_icmp_ne 29 dMo_known_17 (by decide) (fun c2 => ?_) (fun c2 => ?_)
    · refine mn_aload_n 0 dMo_known_29 rfl rfl ?_
      refine mn_get okMo 20 lMo_44 (by decide) hM rfl dMo_known_30 ?_
      refine mn_iload_n 1 dMo_known_33 rfl rfl ?_
      refine mn_aload_n 0 dMo_known_34 rfl rfl ?_
      refine mn_get okMo 15 lMo_150 (by decide) hM rfl dMo_known_35 ?_
      refine mn_bipush (v := 12) dMo_known_38 (by decide) ?_
      refine mn_isub (z := nI (wd - 12)) dMo_known_40 (pk_sub (a := wd) (b := 12) (by omega)) ?_
      refine mn_imul (z := nI (n * (wd - 12))) dMo_known_41 (pk_mul n (wd - 12)) ?_
      refine mn_iload_n 2 dMo_known_42 rfl rfl ?_
      refine mn_iadd (z := nI (n * (wd - 12) + i)) dMo_known_43 (nI_add (n * (wd - 12)) i) ?_
      refine mn_ialdN (j := n * (wd - 12) + i) hMg rfl (by omega) (by omega) dMo_known_44 ?_
      exact mn_iret rfl dMo_known_45 ⟨rfl, rfl⟩
    · exact absurd c2 (nI_nn (by omega) (by decide))
  · exact absurd c1 (nI_nn (by omega) (by decide))
