theorem c_productN {E : mn_En} {g : mn_H} {a b : Nat} (ha : a < 256) (hb : b < 256) : mn_R E MBy_product 1 21 0 0 0 [(0, .int (nI a)), (1, .int (nI b))] [] g (mn_is (some (.int (nI (pdN a b)))) g) := by
  rw [← (pdN_nI ha hb).1]
  exact c_product
set_option maxRecDepth 100000 in
theorem c_inverse_l {E : mn_En} {g : mn_H} {a : Nat} (ha : a < 256) : ∀ (f i : Nat), i ≤ 256 → 256 - i < f → mn_R E MBy_inverse 2 45 0 0 2 [(0, .int (nI a)), (1, .int (nI i))] [] g (mn_is (some (.int (nI (match fst' (fun b => pdN a b = 1) 256 (256 - i) with | none => 0 | some b => b)))) g) := by
  intro f
  induction f with
  | zero => intro i h1 h2; exact absurd h2 (by omega)
  | succ f ih =>
    intro i h1 h2
    refine mn_iload_n 1 dBy_inverse_2 rfl rfl ?_
    refine mn_sipush (v := 256) dBy_inverse_3 (by decide) ?_
    refine mn_icmp_ge 26 dBy_inverse_6 (by decide) (fun c1 => ?_) (fun c1 => ?_)
    · have c1 := (nI_leI (a := 256) (b := i) (by omega) (by omega)).mp c1
      refine mn_iconst (v := 0) dBy_inverse_26 (by decide) ?_
      exact mn_iret rfl dBy_inverse_27 ⟨by rw [show 256 - i = 0 by omega]; rfl, rfl⟩
    · have c1 := _root_.mt (nI_leI (a := 256) (b := i) (by omega) (by omega)).mpr c1
      have hpl := (pdN_nI ha (show i < 256 by omega)).2
      refine mn_iload_n 0 dBy_inverse_9 rfl rfl ?_
      refine mn_iload_n 1 dBy_inverse_10 rfl rfl ?_
      refine mn_cS (d' := 1) (w' := 21) (As := [.int (nI a), .int (nI i)]) (stk' := [.int (nI (pdN a i))]) okBy_product lBy_20 dBy_inverse_11 rfl rfl (Nat.le_of_ble_eq_true rfl) (Nat.le_of_ble_eq_true rfl) (by decide) (c_productN (a := a) (b := i) ha (by omega)) rfl ?_
      refine mn_iconst (v := 1) dBy_inverse_14 (by decide) ?_
      refine mn_icmp_ne 20 dBy_inverse_15 (by decide) (fun c2 => ?_) (fun c2 => ?_)
      · have c2 := _root_.mt (nI_eq (a := (pdN a i)) (b := 1) (by omega) (by omega)).mpr c2
        refine mn_iinc (v := nI (i + 1)) (ls' := [(0, .int (nI a)), (1, .int (nI (i + 1)))]) 1 dBy_inverse_20 rfl (nI_add i 1) (by decide) rfl ?_
        refine mn_goto 2 dBy_inverse_23 (by decide) ?_
        rw [fst_n (P := (fun b => pdN a b = 1)) (by omega) c2]
        exact ih (i + 1) (by omega) (by omega)
      · have c2 := (nI_eq (a := (pdN a i)) (b := 1) (by omega) (by omega)).mp c2
        refine mn_iload_n 1 dBy_inverse_18 rfl rfl ?_
        exact mn_iret rfl dBy_inverse_19 ⟨by rw [fst_y (P := (fun b => pdN a b = 1)) (by omega) c2], rfl⟩
set_option maxRecDepth 100000 in
theorem c_inverse {E : mn_En} {g : mn_H} {a : Nat} (ha : a < 256) : mn_R E MBy_inverse 2 45 0 0 0 [(0, .int (nI a))] [] g (mn_is (some (.int (nI (ivN a)))) g) := by
  refine mn_iconst (v := 1) dBy_inverse_0 (by decide) ?_
  refine mn_istore_n (ls' := [(0, .int (nI a)), (1, .int 1)]) dBy_inverse_1 rfl (by decide) rfl ?_
  exact c_inverse_l ha 256 1 (by omega) (by omega)
set_option maxRecDepth 100000 in
theorem c_E_forget {E : mn_En} {g : mn_H} {ee un gv : Nat} {rw : Nat → Nat → Nat} {nu : Nat → Nat} (hE : EqP g ee rw nu un gv) : mn_R E MEq_forgetAll 0 0 0 0 0 [(0, .ref ee)] [] g (fun x g' => x = none ∧ mn_fr (fun q => q = ee) g g' ∧ EqP g' ee rw nu 0 0) := by
  have hE0 := hE
  obtain ⟨e1, e2, e3, e4, e5, e6, e7, e8⟩ := hE
  refine mn_aload_n 0 dEq_forgetAll_0 rfl rfl ?_
  refine mn_iconst (v := 0) dEq_forgetAll_1 (by decide) ?_
  refine mn_putf okEq 2 lEq_20 (by decide) rfl e1 rfl rfl (Nat.le_of_ble_eq_true rfl) dEq_forgetAll_2 ?_
  obtain ⟨g1, eg1⟩ : ∃ gg_, gg_ = mn_set g ee (.inr (0, [.ref (ee + 1), .ref (ee + 5), .int 0, .int (nI gv)])) := ⟨_, rfl⟩
  refine mn_R.toG eg1 ?_
  have e1_g1 : mn_at g1 ee (.inr (0, [.ref (ee + 1), .ref (ee + 5), .int 0, .int (nI gv)])) := by rw [eg1]; exact e1.same
  have e2_g1 : mn_at g1 (ee + 1) (.inl (2, 3, .inr (.inr (.inr (.inr (eq_q ee)))))) := by rw [eg1]; exact e2.off (by omega)
  have e4_g1 : mn_at g1 (ee + 5) (.inl (0, 3, .inl (fun j => nI (nu j)))) := by rw [eg1]; exact e4.off (by omega)
  refine mn_aload_n 0 dEq_forgetAll_5 rfl rfl ?_
  refine mn_iconst (v := 0) dEq_forgetAll_6 (by decide) ?_
  refine mn_putf okEq 3 lEq_24 (by decide) rfl e1_g1 rfl rfl (Nat.le_of_ble_eq_true rfl) dEq_forgetAll_7 ?_
  obtain ⟨g2, eg2⟩ : ∃ gg_, gg_ = mn_set g1 ee (.inr (0, [.ref (ee + 1), .ref (ee + 5), .int 0, .int 0])) := ⟨_, rfl⟩
  refine mn_R.toG eg2 ?_
  have e1_g2 : mn_at g2 ee (.inr (0, [.ref (ee + 1), .ref (ee + 5), .int 0, .int 0])) := by rw [eg2]; exact e1_g1.same
  have e2_g2 : mn_at g2 (ee + 1) (.inl (2, 3, .inr (.inr (.inr (.inr (eq_q ee)))))) := by rw [eg2]; exact e2_g1.off (by omega)
  have e4_g2 : mn_at g2 (ee + 5) (.inl (0, 3, .inl (fun j => nI (nu j)))) := by rw [eg2]; exact e4_g1.off (by omega)
  exact mn_vret rfl dEq_forgetAll_10 ⟨rfl, ((mn_fr.rf.set eg1 (by show ee = ee; omega)).set eg2 (by show ee = ee; omega)), e1_g2, e2_g2, fun i hi => mn_at.fr (S := fun q => q = ee) (e3 i hi) ((mn_fr.rf.set eg1 (by show ee = ee; omega)).set eg2 (by show ee = ee; omega)) (fun q => by have h9 : ee + 2 + i = ee := q; omega), e4_g2, e5, by omega, by omega, e8⟩
set_option maxRecDepth 100000 in
theorem c_E_addUnknown {E : mn_En} {g : mn_H} {ee un gv : Nat} {rw : Nat → Nat → Nat} {nu : Nat → Nat} (hE : EqP g ee rw nu un gv) (hun : un < 3) {n : Nat} (hn : n < 60) : mn_R E MEq_addUnknown 0 0 0 0 0 [(0, .ref ee), (1, .int (nI n))] [] g (fun x g' => x = none ∧ mn_fr (fun q => q = ee ∨ q = ee + 5) g g' ∧ EqP g' ee rw (va_up nu un n) (un + 1) gv) := by
  have hE0 := hE
  obtain ⟨e1, e2, e3, e4, e5, e6, e7, e8⟩ := hE
  refine mn_aload_n 0 dEq_addUnknown_0 rfl rfl ?_
  refine mn_get okEq 2 lEq_20 (by decide) e1 rfl dEq_addUnknown_1 ?_
  refine mn_iconst (v := 3) dEq_addUnknown_4 (by decide) ?_
  refine mn_icmp_ge 28 dEq_addUnknown_5 (by decide) (fun c1 => ?_) (fun c1 => ?_)
  · have c1 := (nI_leI (a := 3) (b := un) (by omega) (by omega)).mp c1
    exact mn_vret rfl dEq_addUnknown_28 (absurd hun (by omega))
  · have c1 := _root_.mt (nI_leI (a := 3) (b := un) (by omega) (by omega)).mpr c1
    refine mn_aload_n 0 dEq_addUnknown_8 rfl rfl ?_
    refine mn_get okEq 1 lEq_16 (by decide) e1 rfl dEq_addUnknown_9 ?_
    refine mn_aload_n 0 dEq_addUnknown_12 rfl rfl ?_
    refine mn_get okEq 2 lEq_20 (by decide) e1 rfl dEq_addUnknown_13 ?_
    refine mn_iload_n 1 dEq_addUnknown_16 rfl rfl ?_
    refine mn_iastN (j := un) e4 rfl (by omega) (by omega) dEq_addUnknown_17 ?_
    obtain ⟨g2, eg2⟩ : ∃ gg_, gg_ = mn_set g (ee + 5) (.inl (0, 3, .inl (upd (fun j => nI (nu j)) un (nI n)))) := ⟨_, rfl⟩
    refine mn_R.toG eg2 ?_
    have e1_g2 : mn_at g2 ee (.inr (0, [.ref (ee + 1), .ref (ee + 5), .int (nI un), .int (nI gv)])) := by rw [eg2]; exact e1.off (by omega)
    have e2_g2 : mn_at g2 (ee + 1) (.inl (2, 3, .inr (.inr (.inr (.inr (eq_q ee)))))) := by rw [eg2]; exact e2.off (by omega)
    have e4_g2 : mn_at g2 (ee + 5) (.inl (0, 3, .inl (upd (fun j => nI (nu j)) un (nI n)))) := by rw [eg2]; exact e4.same
    rw [upd_nI] at e4_g2
    refine mn_aload_n 0 dEq_addUnknown_18 rfl rfl ?_
    refine mn_dup dEq_addUnknown_19 rfl ?_
    refine mn_get okEq 2 lEq_20 (by decide) e1_g2 rfl dEq_addUnknown_20 ?_
    refine mn_iconst (v := 1) dEq_addUnknown_23 (by decide) ?_
    refine mn_iadd (z := nI (un + 1)) dEq_addUnknown_24 (nI_add un 1) ?_
    refine mn_putf okEq 2 lEq_20 (by decide) rfl e1_g2 rfl rfl (Nat.le_of_ble_eq_true rfl) dEq_addUnknown_25 ?_
    obtain ⟨g3, eg3⟩ : ∃ gg_, gg_ = mn_set g2 ee (.inr (0, [.ref (ee + 1), .ref (ee + 5), .int (nI (un + 1)), .int (nI gv)])) := ⟨_, rfl⟩
    refine mn_R.toG eg3 ?_
    have e1_g3 : mn_at g3 ee (.inr (0, [.ref (ee + 1), .ref (ee + 5), .int (nI (un + 1)), .int (nI gv)])) := by rw [eg3]; exact e1_g2.same
    have e2_g3 : mn_at g3 (ee + 1) (.inl (2, 3, .inr (.inr (.inr (.inr (eq_q ee)))))) := by rw [eg3]; exact e2_g2.off (by omega)
    have e4_g3 : mn_at g3 (ee + 5) (.inl (0, 3, .inl (fun j => nI ((va_up nu un n) j)))) := by rw [eg3]; exact e4_g2.off (by omega)
    exact mn_vret rfl dEq_addUnknown_28 ⟨rfl, ((mn_fr.rf.set eg2 (by show (ee + 5) = ee ∨ (ee + 5) = ee + 5; omega)).set eg3 (by show ee = ee ∨ ee = ee + 5; omega)), e1_g3, e2_g3, fun i hi => mn_at.fr (S := fun q => q = ee ∨ q = ee + 5) (e3 i hi) ((mn_fr.rf.set eg2 (by show (ee + 5) = ee ∨ (ee + 5) = ee + 5; omega)).set eg3 (by show ee = ee ∨ ee = ee + 5; omega)) (fun q => by have h9 : ee + 2 + i = ee ∨ ee + 2 + i = ee + 5 := q; omega), e4_g3, e5, by omega, e7, fun j => by unfold va_up; split; exact hn; exact e8 j⟩
set_option maxRecDepth 100000 in
theorem c_E_numberOf {E : mn_En} {g : mn_H} {ee un gv : Nat} {rw : Nat → Nat → Nat} {nu : Nat → Nat} (hE : EqP g ee rw nu un gv) {i : Nat} (hi : i < 3) : mn_R E MEq_numberOf 0 0 0 0 0 [(0, .ref ee), (1, .int (nI i))] [] g (mn_is (some (.int (nI (nu i)))) g) := by
  have hE0 := hE
  obtain ⟨e1, e2, e3, e4, e5, e6, e7, e8⟩ := hE
  refine mn_iload_n 1 dEq_numberOf_0 rfl rfl ?_
  refine mn_if_lt 9 dEq_numberOf_1 (by decide) (fun c1 => ?_) (fun c1 => ?_)
  · exact absurd c1 (nI_pos (by omega))
  · refine mn_iload_n 1 dEq_numberOf_4 rfl rfl ?_
    refine mn_iconst (v := 3) dEq_numberOf_5 (by decide) ?_
    refine mn_icmp_lt 13 dEq_numberOf_6 (by decide) (fun c2 => ?_) (fun c2 => ?_)
    · have c2 := (nI_ltI (a := i) (b := 3) (by omega) (by omega)).mp c2
      refine mn_aload_n 0 dEq_numberOf_13 rfl rfl ?_
      refine mn_get okEq 1 lEq_16 (by decide) e1 rfl dEq_numberOf_14 ?_
      refine mn_iload_n 1 dEq_numberOf_17 rfl rfl ?_
      refine mn_ialdN (j := i) e4 rfl (by omega) (by omega) dEq_numberOf_18 ?_
      exact mn_iret rfl dEq_numberOf_19 ⟨rfl, rfl⟩
    · have c2 := _root_.mt (nI_ltI (a := i) (b := 3) (by omega) (by omega)).mpr c2
      refine mn_iconst (v := 0) dEq_numberOf_9 (by decide) ?_
      refine mn_goto 19 dEq_numberOf_10 (by decide) ?_
      exact mn_iret rfl dEq_numberOf_19 (absurd hi (by omega))
set_option maxRecDepth 100000 in
theorem c_E_byteOf {E : mn_En} {g : mn_H} {ee un gv : Nat} {rw : Nat → Nat → Nat} {nu : Nat → Nat} (hE : EqP g ee rw nu un gv) {i j : Nat} (hi : i < 3) (hj : j < 80) : mn_R E MEq_byteOfUnknown 0 0 0 0 0 [(0, .ref ee), (1, .int (nI i)), (2, .int (nI j))] [] g (mn_is (some (.int (nI (rw i (3 + j))))) g) := by
  have hE0 := hE
  obtain ⟨e1, e2, e3, e4, e5, e6, e7, e8⟩ := hE
  refine mn_iload_n 1 dEq_byteOfUnknown_0 rfl rfl ?_
  refine mn_if_lt 19 dEq_byteOfUnknown_1 (by decide) (fun c1 => ?_) (fun c1 => ?_)
  · exact absurd c1 (nI_pos (by omega))
  · refine mn_iload_n 1 dEq_byteOfUnknown_4 rfl rfl ?_
    refine mn_iconst (v := 3) dEq_byteOfUnknown_5 (by decide) ?_
    refine mn_icmp_ge 19 dEq_byteOfUnknown_6 (by decide) (fun c2 => ?_) (fun c2 => ?_)
    · have c2 := (nI_leI (a := 3) (b := i) (by omega) (by omega)).mp c2
      refine mn_iconst (v := 0) dEq_byteOfUnknown_19 (by decide) ?_
      refine mn_goto 33 dEq_byteOfUnknown_20 (by decide) ?_
      exact mn_iret rfl dEq_byteOfUnknown_33 (absurd hi (by omega))
    · have c2 := _root_.mt (nI_leI (a := 3) (b := i) (by omega) (by omega)).mpr c2
      refine mn_iload_n 2 dEq_byteOfUnknown_9 rfl rfl ?_
      refine mn_if_lt 19 dEq_byteOfUnknown_10 (by decide) (fun c3 => ?_) (fun c3 => ?_)
      · exact absurd c3 (nI_pos (by omega))
      · refine mn_iload_n 2 dEq_byteOfUnknown_13 rfl rfl ?_
        refine mn_bipush (v := 80) dEq_byteOfUnknown_14 (by decide) ?_
        refine mn_icmp_lt 23 dEq_byteOfUnknown_16 (by decide) (fun c4 => ?_) (fun c4 => ?_)
        · have c4 := (nI_ltI (a := j) (b := 80) (by omega) (by omega)).mp c4
          have er := e3 i (by omega)
          refine mn_aload_n 0 dEq_byteOfUnknown_23 rfl rfl ?_
          refine mn_get okEq 0 lEq_11 (by decide) e1 rfl dEq_byteOfUnknown_24 ?_
          refine mn_iload_n 1 dEq_byteOfUnknown_27 rfl rfl ?_
          refine mn_aaldN (j := i) e2 rfl rfl (by omega) (by omega) (show eq_q ee i = some (ee + 2 + i) from if_pos (by omega)) dEq_byteOfUnknown_28 ?_
          refine mn_iconst (v := 3) dEq_byteOfUnknown_29 (by decide) ?_
          refine mn_iload_n 2 dEq_byteOfUnknown_30 rfl rfl ?_
          refine mn_iadd (z := nI (3 + j)) dEq_byteOfUnknown_31 (nI_add 3 j) ?_
          refine mn_ialdN (j := 3 + j) er rfl (by omega) (by omega) dEq_byteOfUnknown_32 ?_
          exact mn_iret rfl dEq_byteOfUnknown_33 ⟨rfl, rfl⟩
        · have c4 := _root_.mt (nI_ltI (a := j) (b := 80) (by omega) (by omega)).mpr c4
          refine mn_iconst (v := 0) dEq_byteOfUnknown_19 (by decide) ?_
          refine mn_goto 33 dEq_byteOfUnknown_20 (by decide) ?_
          exact mn_iret rfl dEq_byteOfUnknown_33 (absurd hi (by omega))
set_option maxRecDepth 100000 in
theorem c_E_scale_l {E : mn_En} {g : mn_H} {ee k f : Nat} {r : Nat → Nat} (hf : f < 256) (e5 : ∀ (k j : Nat), r j < 256) : ∀ (fu i : Nat) (g0 : mn_H), i ≤ 83 → 83 - i < fu → mn_fr (fun q => q = ee + 2 + k) g g0 → mn_at g0 (ee + 2 + k) (.inl (0, 83, .inl (fun j => nI (scL r f i j)))) → mn_R E MEq_scale 2 45 0 0 10 [(0, .ref ee), (1, .int (nI k)), (2, .int (nI f)), (3, .ref (ee + 2 + k)), (4, .int (nI i))] [] g0 (fun x g' => x = none ∧ mn_fr (fun q => q = ee + 2 + k) g g' ∧ mn_at g' (ee + 2 + k) (.inl (0, 83, .inl (fun j => nI (scL r f 83 j))))) := by
  intro fu
  induction fu with
  | zero => intro i g0 h1 h2; exact absurd h2 (by omega)
  | succ fu ih =>
    intro i g0 h1 h2 hfr er
    refine mn_iload 4 dEq_scale_10 rfl ?_
    refine mn_aload_n 3 dEq_scale_12 rfl rfl ?_
    refine mn_alen er rfl dEq_scale_13 ?_
    refine mn_icmp_ge 35 dEq_scale_14 (by decide) (fun c1 => ?_) (fun c1 => ?_)
    · have c1 := (nI_leI (a := 83) (b := i) (by omega) (by omega)).mp c1
      exact mn_vret rfl dEq_scale_35 (by obtain rfl : i = 83 := (by omega); exact ⟨rfl, hfr, er⟩)
    · have c1 := _root_.mt (nI_leI (a := 83) (b := i) (by omega) (by omega)).mpr c1
      refine mn_aload_n 3 dEq_scale_17 rfl rfl ?_
      refine mn_iload 4 dEq_scale_18 rfl ?_
      refine mn_aload_n 3 dEq_scale_20 rfl rfl ?_
      refine mn_iload 4 dEq_scale_21 rfl ?_
      refine mn_ialdN (j := i) er rfl (by omega) (by omega) dEq_scale_23 ?_
      refine mn_iload_n 2 dEq_scale_24 rfl rfl ?_
      refine mn_cS (d' := 1) (w' := 21) (As := [.int (nI ((scL r f i) i)), .int (nI f)]) (stk' := [.int (nI (pdN ((scL r f i) i) f)), .int (nI i), .ref (ee + 2 + k)]) okBy_product lEq_58 dEq_scale_25 rfl rfl (Nat.le_of_ble_eq_true rfl) (Nat.le_of_ble_eq_true rfl) (by decide) (c_productN (a := (scL r f i) i) (b := f) (scL_lt (e5 k) hf i i) hf) rfl ?_
      refine mn_iastN (j := i) er rfl (by omega) (by omega) dEq_scale_28 ?_
      obtain ⟨g2, eg2⟩ : ∃ gg_, gg_ = mn_set g0 (ee + 2 + k) (.inl (0, 83, .inl (upd (fun j => nI ((scL r f i) j)) i (nI (pdN ((scL r f i) i) f))))) := ⟨_, rfl⟩
      refine mn_R.toG eg2 ?_
      have er_g2 : mn_at g2 (ee + 2 + k) (.inl (0, 83, .inl (upd (fun j => nI ((scL r f i) j)) i (nI (pdN ((scL r f i) i) f))))) := by rw [eg2]; exact er.same
      refine mn_iinc (v := nI (i + 1)) (ls' := [(0, .ref ee), (1, .int (nI k)), (2, .int (nI f)), (3, .ref (ee + 2 + k)), (4, .int (nI (i + 1)))]) 4 dEq_scale_29 rfl (nI_add i 1) (by decide) rfl ?_
      refine mn_goto 10 dEq_scale_32 (by decide) ?_
      rw [upd_nI, scL_s] at er_g2
      exact ih (i + 1) g2 (by omega) (by omega) (hfr.set eg2 (by show (ee + 2 + k) = ee + 2 + k; omega)) er_g2
set_option maxRecDepth 100000 in
theorem c_E_scale {E : mn_En} {g : mn_H} {ee un gv : Nat} {rw : Nat → Nat → Nat} {nu : Nat → Nat} (hE : EqP g ee rw nu un gv) {k f : Nat} (hk : k < 3) (hf : f < 256) : mn_R E MEq_scale 2 45 0 0 0 [(0, .ref ee), (1, .int (nI k)), (2, .int (nI f))] [] g (fun x g' => x = none ∧ mn_fr (fun q => q = ee + 2 + k) g g' ∧ EqP g' ee (scA rw k f) nu un gv) := by
  have hE0 := hE
  obtain ⟨e1, e2, e3, e4, e5, e6, e7, e8⟩ := hE
  have er := e3 k hk
  refine mn_aload_n 0 dEq_scale_0 rfl rfl ?_
  refine mn_get okEq 0 lEq_11 (by decide) e1 rfl dEq_scale_1 ?_
  refine mn_iload_n 1 dEq_scale_4 rfl rfl ?_
  refine mn_aaldN (j := k) e2 rfl rfl (by omega) (by omega) (show eq_q ee k = some (ee + 2 + k) from if_pos (by omega)) dEq_scale_5 ?_
  refine mn_astore_n (ls' := [(0, .ref ee), (1, .int (nI k)), (2, .int (nI f)), (3, .ref (ee + 2 + k))]) dEq_scale_6 rfl (by decide) rfl ?_
  refine mn_iconst (v := 0) dEq_scale_7 (by decide) ?_
  refine mn_istore (ls' := [(0, .ref ee), (1, .int (nI k)), (2, .int (nI f)), (3, .ref (ee + 2 + k)), (4, .int 0)]) dEq_scale_8 (by decide) rfl ?_
  have er : mn_at g (ee + 2 + k) (.inl (0, 83, .inl (fun j => nI (scL (rw k) f 0 j)))) := by rw [scL_0]; exact er
  refine mn_R.sub [0, 1, 2, 3, 4] (ls' := [(0, .ref ee), (1, .int (nI k)), (2, .int (nI f)), (3, .ref (ee + 2 + k)), (4, .int 0)]) rfl ?_
  refine mn_R.post (c_E_scale_l (r := rw k) hf (fun _ j => e5 k j) 84 0 g (by omega) (by omega) mn_fr.rf er) (fun x g' hq => ⟨hq.1, hq.2.1, EqP_row hE0 hk (scL_lt (e5 k) hf 83) hq.2.1 hq.2.2⟩)
set_option maxRecDepth 100000 in
theorem c_E_addTo_l {E : mn_En} {g : mn_H} {ee o k f : Nat} {r s : Nat → Nat} (hk : k < 3) (hok : o ≠ k) (hf : f < 256) (hs : ∀ j, s j < 256) : ∀ (un gv fu i : Nat) (g0 : mn_H), i ≤ 83 → 83 - i < fu → mn_fr (fun q => q = ee + 2 + o) g g0 → mn_at g0 ee (.inr (0, [.ref (ee + 1), .ref (ee + 5), .int (nI un), .int (nI gv)])) → mn_at g0 (ee + 1) (.inl (2, 3, .inr (.inr (.inr (.inr (eq_q ee)))))) → mn_at g0 (ee + 2 + o) (.inl (0, 83, .inl (fun j => nI (adL r s f i j)))) → mn_at g0 (ee + 2 + k) (.inl (0, 83, .inl (fun j => nI (s j)))) → mn_R E MEq_addTo 2 45 0 0 11 [(0, .ref ee), (1, .int (nI o)), (2, .int (nI k)), (3, .int (nI f)), (4, .ref (ee + 2 + o)), (5, .int (nI i))] [] g0 (fun x g' => x = none ∧ mn_fr (fun q => q = ee + 2 + o) g g' ∧ mn_at g' (ee + 2 + o) (.inl (0, 83, .inl (fun j => nI (adL r s f 83 j))))) := by
  intro un gv fu
  induction fu with
  | zero => intro i g0 h1 h2; exact absurd h2 (by omega)
  | succ fu ih =>
    intro i g0 h1 h2 hfr e1 e2 er es
    refine mn_iload 5 dEq_addTo_11 rfl ?_
    refine mn_aload 4 dEq_addTo_13 rfl ?_
    refine mn_alen er rfl dEq_addTo_15 ?_
    refine mn_icmp_ge 46 dEq_addTo_16 (by decide) (fun c1 => ?_) (fun c1 => ?_)
    · have c1 := (nI_leI (a := 83) (b := i) (by omega) (by omega)).mp c1
      exact mn_vret rfl dEq_addTo_46 (by obtain rfl : i = 83 := (by omega); exact ⟨rfl, hfr, er⟩)
    · have c1 := _root_.mt (nI_leI (a := 83) (b := i) (by omega) (by omega)).mpr c1
      refine mn_aload 4 dEq_addTo_19 rfl ?_
      refine mn_iload 5 dEq_addTo_21 rfl ?_
      refine mn_dup2 dEq_addTo_23 rfl rfl ?_
      refine mn_ialdN (j := i) er rfl (by omega) (by omega) dEq_addTo_24 ?_
      refine mn_aload_n 0 dEq_addTo_25 rfl rfl ?_
      refine mn_get okEq 0 lEq_11 (by decide) e1 rfl dEq_addTo_26 ?_
      refine mn_iload_n 2 dEq_addTo_29 rfl rfl ?_
      refine mn_aaldN (j := k) e2 rfl rfl (by omega) (by omega) (show eq_q ee k = some (ee + 2 + k) from if_pos (by omega)) dEq_addTo_30 ?_
      refine mn_iload 5 dEq_addTo_31 rfl ?_
      refine mn_ialdN (j := i) es rfl (by omega) (by omega) dEq_addTo_33 ?_
      refine mn_iload_n 3 dEq_addTo_34 rfl rfl ?_
      refine mn_cS (d' := 1) (w' := 21) (As := [.int (nI (s i)), .int (nI f)]) (stk' := [.int (nI (pdN (s i) f)), .int (nI ((adL r s f i) i)), .int (nI i), .ref (ee + 2 + o)]) okBy_product lEq_58 dEq_addTo_35 rfl rfl (Nat.le_of_ble_eq_true rfl) (Nat.le_of_ble_eq_true rfl) (by decide) (c_productN (a := s i) (b := f) (hs i) hf) rfl ?_
      refine mn_ixor (z := nI (((adL r s f i) i) ^^^ (pdN (s i) f))) dEq_addTo_38 (nx_xor ((adL r s f i) i) (pdN (s i) f)) ?_
      refine mn_iastN (j := i) er rfl (by omega) (by omega) dEq_addTo_39 ?_
      obtain ⟨g2, eg2⟩ : ∃ gg_, gg_ = mn_set g0 (ee + 2 + o) (.inl (0, 83, .inl (upd (fun j => nI ((adL r s f i) j)) i (nI (((adL r s f i) i) ^^^ (pdN (s i) f)))))) := ⟨_, rfl⟩
      refine mn_R.toG eg2 ?_
      have e1_g2 : mn_at g2 ee (.inr (0, [.ref (ee + 1), .ref (ee + 5), .int (nI un), .int (nI gv)])) := by rw [eg2]; exact e1.off (by omega)
      have e2_g2 : mn_at g2 (ee + 1) (.inl (2, 3, .inr (.inr (.inr (.inr (eq_q ee)))))) := by rw [eg2]; exact e2.off (by omega)
      have er_g2 : mn_at g2 (ee + 2 + o) (.inl (0, 83, .inl (upd (fun j => nI ((adL r s f i) j)) i (nI (((adL r s f i) i) ^^^ (pdN (s i) f)))))) := by rw [eg2]; exact er.same
      have es_g2 : mn_at g2 (ee + 2 + k) (.inl (0, 83, .inl (fun j => nI (s j)))) := by rw [eg2]; exact es.off (by omega)
      refine mn_iinc (v := nI (i + 1)) (ls' := [(0, .ref ee), (1, .int (nI o)), (2, .int (nI k)), (3, .int (nI f)), (4, .ref (ee + 2 + o)), (5, .int (nI (i + 1)))]) 5 dEq_addTo_40 rfl (nI_add i 1) (by decide) rfl ?_
      refine mn_goto 11 dEq_addTo_43 (by decide) ?_
      rw [upd_nI, adL_s] at er_g2
      exact ih (i + 1) g2 (by omega) (by omega) (hfr.set eg2 (by show (ee + 2 + o) = ee + 2 + o; omega)) e1_g2 e2_g2 er_g2 es_g2
set_option maxRecDepth 100000 in
theorem c_E_addTo {E : mn_En} {g : mn_H} {ee un gv : Nat} {rw : Nat → Nat → Nat} {nu : Nat → Nat} (hE : EqP g ee rw nu un gv) {o k f : Nat} (ho : o < 3) (hk : k < 3) (hok : o ≠ k) (hf : f < 256) : mn_R E MEq_addTo 2 45 0 0 0 [(0, .ref ee), (1, .int (nI o)), (2, .int (nI k)), (3, .int (nI f))] [] g (fun x g' => x = none ∧ mn_fr (fun q => q = ee + 2 + o) g g' ∧ EqP g' ee (adA rw o k f) nu un gv) := by
  have hE0 := hE
  obtain ⟨e1, e2, e3, e4, e5, e6, e7, e8⟩ := hE
  have er := e3 o ho
  have es := e3 k hk
  refine mn_aload_n 0 dEq_addTo_0 rfl rfl ?_
  refine mn_get okEq 0 lEq_11 (by decide) e1 rfl dEq_addTo_1 ?_
  refine mn_iload_n 1 dEq_addTo_4 rfl rfl ?_
  refine mn_aaldN (j := o) e2 rfl rfl (by omega) (by omega) (show eq_q ee o = some (ee + 2 + o) from if_pos (by omega)) dEq_addTo_5 ?_
  refine mn_astore (ls' := [(0, .ref ee), (1, .int (nI o)), (2, .int (nI k)), (3, .int (nI f)), (4, .ref (ee + 2 + o))]) dEq_addTo_6 (by decide) rfl ?_
  refine mn_iconst (v := 0) dEq_addTo_8 (by decide) ?_
  refine mn_istore (ls' := [(0, .ref ee), (1, .int (nI o)), (2, .int (nI k)), (3, .int (nI f)), (4, .ref (ee + 2 + o)), (5, .int 0)]) dEq_addTo_9 (by decide) rfl ?_
  have er : mn_at g (ee + 2 + o) (.inl (0, 83, .inl (fun j => nI (adL (rw o) (rw k) f 0 j)))) := by rw [adL_0]; exact er
  refine mn_R.post (c_E_addTo_l (r := rw o) (s := rw k) hk hok hf (e5 k) un gv 84 0 g (by omega) (by omega) mn_fr.rf e1 e2 er es) (fun x g' hq => ⟨hq.1, hq.2.1, EqP_row hE0 ho (adL_lt (e5 o) (e5 k) hf 83) hq.2.1 hq.2.2⟩)
set_option maxRecDepth 100000 in
theorem c_E_ar2_l {E : mn_En} {g : mn_H} {ee un gv v t a nb m w jr : Nat} {nu c pb ln sn r : Nat → Nat} (hnb : nb < 5000) (hj : jr < 4) (hun : un ≤ 3) (hgv : gv < 3) (hnu : ∀ i, nu i < 60) (hev : ee + 5 < v ∨ v + 1 < ee) (hea : ee + 5 < a ∨ a + 3 < ee) (ht : t ≤ 80) (htw : t = w + 12) (hm1 : 1 ≤ m) (hm : m ≤ 60) (hmw : m * w ≤ nb) (hpb : ∀ j, pb j < 256) (hln : ∀ j, ln j < 256) (hsn : ∀ j, sn j < 256) : ∀ (fu i : Nat) (g0 : mn_H), 6 ≤ i → i ≤ t → t - i < fu → mn_fr (fun q => q = ee + 2 + gv) g g0 → mn_at g0 ee (.inr (0, [.ref (ee + 1), .ref (ee + 5), .int (nI un), .int (nI gv)])) → mn_at g0 (ee + 1) (.inl (2, 3, .inr (.inr (.inr (.inr (eq_q ee)))))) → mn_at g0 (ee + 5) (.inl (0, 3, .inl (fun j => nI (nu j)))) → mn_at g0 (ee + 2 + gv) (.inl (0, 83, .inl (fun j => nI ((ar2 (ar1 r nu jr un) (rsN c pb ln sn w m jr) i) j)))) → mn_at g0 v (.inr (8, [.ref (v + 1), .int (nI t)])) → mn_at g0 (v + 1) (.inl (0, 80, .inl (fun j => nI (c j)))) → mn_at g0 a (.inr (2, [.ref (a + 3), .ref (a + 1), .ref (a + 2), .int (nI m), .int (nI w)])) → mn_at g0 (a + 3) (.inl (0, nb, .inl (fun j => nI (pb j)))) → mn_at g0 (a + 1) (.inl (0, 60, .inl (fun j => nI (ln j)))) → mn_at g0 (a + 2) (.inl (0, 60, .inl (fun j => nI (sn j)))) → mn_R E MEq_addRepair 3 70 0 0 66 [(0, .ref ee), (1, .int (nI jr)), (2, .ref v), (3, .ref a), (4, .ref (ee + 2 + gv)), (5, .int (nI i))] [] g0 (fun x g' => x = none ∧ mn_fr (fun q => q = ee ∨ q = ee + 2 + gv) g g' ∧ mn_at g' ee (.inr (0, [.ref (ee + 1), .ref (ee + 5), .int (nI un), .int (nI (gv + 1))])) ∧ mn_at g' (ee + 2 + gv) (.inl (0, 83, .inl (fun j0 => nI (ar2 (ar1 r nu jr un) (rsN c pb ln sn w m jr) t j0))))) := by
  intro fu
  induction fu with
  | zero => intro i g0 h0 h1 h2; exact absurd h2 (by omega)
  | succ fu ih =>
    intro i g0 h0 h1 h2 hfr e1 e2 e4 er hv0 hv1 ha hb hl hs
    refine mn_iload 5 dEq_addRepair_66 rfl ?_
    refine mn_aload_n 2 dEq_addRepair_68 rfl rfl ?_
    refine mn_get okVo 1 lEq_33 (by decide) hv0 rfl dEq_addRepair_69 ?_
    refine mn_icmp_ge 109 dEq_addRepair_72 (by decide) (fun c1 => ?_) (fun c1 => ?_)
    · have c1 := (nI_leI (a := t) (b := i) (by omega) (by omega)).mp c1
      refine mn_aload_n 0 dEq_addRepair_109 rfl rfl ?_
      refine mn_dup dEq_addRepair_110 rfl ?_
      refine mn_get okEq 3 lEq_24 (by decide) e1 rfl dEq_addRepair_111 ?_
      refine mn_iconst (v := 1) dEq_addRepair_114 (by decide) ?_
      refine mn_iadd (z := nI (gv + 1)) dEq_addRepair_115 (nI_add gv 1) ?_
      refine mn_putf okEq 3 lEq_24 (by decide) rfl e1 rfl rfl (Nat.le_of_ble_eq_true rfl) dEq_addRepair_116 ?_
      obtain ⟨g2, eg2⟩ : ∃ gg_, gg_ = mn_set g0 ee (.inr (0, [.ref (ee + 1), .ref (ee + 5), .int (nI un), .int (nI (gv + 1))])) := ⟨_, rfl⟩
      refine mn_R.toG eg2 ?_
      have e1_g2 : mn_at g2 ee (.inr (0, [.ref (ee + 1), .ref (ee + 5), .int (nI un), .int (nI (gv + 1))])) := by rw [eg2]; exact e1.same
      have e2_g2 : mn_at g2 (ee + 1) (.inl (2, 3, .inr (.inr (.inr (.inr (eq_q ee)))))) := by rw [eg2]; exact e2.off (by omega)
      have e4_g2 : mn_at g2 (ee + 5) (.inl (0, 3, .inl (fun j => nI (nu j)))) := by rw [eg2]; exact e4.off (by omega)
      have er_g2 : mn_at g2 (ee + 2 + gv) (.inl (0, 83, .inl (fun j => nI ((ar2 (ar1 r nu jr un) (rsN c pb ln sn w m jr) i) j)))) := by rw [eg2]; exact er.off (by omega)
      have hv0_g2 : mn_at g2 v (.inr (8, [.ref (v + 1), .int (nI t)])) := by rw [eg2]; exact hv0.off (by omega)
      have hv1_g2 : mn_at g2 (v + 1) (.inl (0, 80, .inl (fun j => nI (c j)))) := by rw [eg2]; exact hv1.off (by omega)
      have ha_g2 : mn_at g2 a (.inr (2, [.ref (a + 3), .ref (a + 1), .ref (a + 2), .int (nI m), .int (nI w)])) := by rw [eg2]; exact ha.off (by omega)
      have hb_g2 : mn_at g2 (a + 3) (.inl (0, nb, .inl (fun j => nI (pb j)))) := by rw [eg2]; exact hb.off (by omega)
      have hl_g2 : mn_at g2 (a + 1) (.inl (0, 60, .inl (fun j => nI (ln j)))) := by rw [eg2]; exact hl.off (by omega)
      have hs_g2 : mn_at g2 (a + 2) (.inl (0, 60, .inl (fun j => nI (sn j)))) := by rw [eg2]; exact hs.off (by omega)
      exact mn_vret rfl dEq_addRepair_119 (by obtain rfl : i = t := (by omega); exact ⟨rfl, ((hfr.mo (fun q h => by have h9 : q = ee + 2 + gv := h; show q = ee ∨ q = ee + 2 + gv; omega)).set eg2 (by show ee = ee ∨ ee = ee + 2 + gv; omega)), e1_g2, er_g2⟩)
    · have c1 := _root_.mt (nI_leI (a := t) (b := i) (by omega) (by omega)).mpr c1
      refine mn_iload 5 dEq_addRepair_75 rfl ?_
      refine mn_bipush (v := 80) dEq_addRepair_77 (by decide) ?_
      refine mn_icmp_ge 109 dEq_addRepair_79 (by decide) (fun c3 => ?_) (fun c3 => ?_)
      · have c3 := (nI_leI (a := 80) (b := i) (by omega) (by omega)).mp c3
        refine mn_aload_n 0 dEq_addRepair_109 rfl rfl ?_
        refine mn_dup dEq_addRepair_110 rfl ?_
        refine mn_get okEq 3 lEq_24 (by decide) e1 rfl dEq_addRepair_111 ?_
        refine mn_iconst (v := 1) dEq_addRepair_114 (by decide) ?_
        refine mn_iadd (z := nI (gv + 1)) dEq_addRepair_115 (nI_add gv 1) ?_
        refine mn_putf okEq 3 lEq_24 (by decide) rfl e1 rfl rfl (Nat.le_of_ble_eq_true rfl) dEq_addRepair_116 ?_
        obtain ⟨g4, eg4⟩ : ∃ gg_, gg_ = mn_set g0 ee (.inr (0, [.ref (ee + 1), .ref (ee + 5), .int (nI un), .int (nI (gv + 1))])) := ⟨_, rfl⟩
        refine mn_R.toG eg4 ?_
        have e1_g4 : mn_at g4 ee (.inr (0, [.ref (ee + 1), .ref (ee + 5), .int (nI un), .int (nI (gv + 1))])) := by rw [eg4]; exact e1.same
        have e2_g4 : mn_at g4 (ee + 1) (.inl (2, 3, .inr (.inr (.inr (.inr (eq_q ee)))))) := by rw [eg4]; exact e2.off (by omega)
        have e4_g4 : mn_at g4 (ee + 5) (.inl (0, 3, .inl (fun j => nI (nu j)))) := by rw [eg4]; exact e4.off (by omega)
        have er_g4 : mn_at g4 (ee + 2 + gv) (.inl (0, 83, .inl (fun j => nI ((ar2 (ar1 r nu jr un) (rsN c pb ln sn w m jr) i) j)))) := by rw [eg4]; exact er.off (by omega)
        have hv0_g4 : mn_at g4 v (.inr (8, [.ref (v + 1), .int (nI t)])) := by rw [eg4]; exact hv0.off (by omega)
        have hv1_g4 : mn_at g4 (v + 1) (.inl (0, 80, .inl (fun j => nI (c j)))) := by rw [eg4]; exact hv1.off (by omega)
        have ha_g4 : mn_at g4 a (.inr (2, [.ref (a + 3), .ref (a + 1), .ref (a + 2), .int (nI m), .int (nI w)])) := by rw [eg4]; exact ha.off (by omega)
        have hb_g4 : mn_at g4 (a + 3) (.inl (0, nb, .inl (fun j => nI (pb j)))) := by rw [eg4]; exact hb.off (by omega)
        have hl_g4 : mn_at g4 (a + 1) (.inl (0, 60, .inl (fun j => nI (ln j)))) := by rw [eg4]; exact hl.off (by omega)
        have hs_g4 : mn_at g4 (a + 2) (.inl (0, 60, .inl (fun j => nI (sn j)))) := by rw [eg4]; exact hs.off (by omega)
        exact mn_vret rfl dEq_addRepair_119 (by obtain rfl : i = t := (by omega); exact ⟨rfl, ((hfr.mo (fun q h => by have h9 : q = ee + 2 + gv := h; show q = ee ∨ q = ee + 2 + gv; omega)).set eg4 (by show ee = ee ∨ ee = ee + 2 + gv; omega)), e1_g4, er_g4⟩)
      · have c3 := _root_.mt (nI_leI (a := 80) (b := i) (by omega) (by omega)).mpr c3
        have hwi : ∀ k, k < m → k * w + i < nb + 12 ∧ k * w < 5000 := fun k hk => by have := Nat.mul_le_mul_right w (show k + 1 ≤ m by omega); rw [Nat.succ_mul] at this; omega
        refine mn_aload 4 dEq_addRepair_82 rfl ?_
        refine mn_iconst (v := 3) dEq_addRepair_84 (by decide) ?_
        refine mn_iload 5 dEq_addRepair_85 rfl ?_
        refine mn_iadd (z := nI (3 + i)) dEq_addRepair_87 (nI_add 3 i) ?_
        refine mn_aload_n 2 dEq_addRepair_88 rfl rfl ?_
        refine mn_iload 5 dEq_addRepair_89 rfl ?_
        refine mn_cV (d' := 0) (w' := 0) (As := [.int (nI i)]) (stk' := [.int (nI (c i)), .int (nI (3 + i)), .ref (ee + 2 + gv)]) okVo_byteAt lEq_38 dEq_addRepair_91 hv0 rfl rfl rfl rfl (Nat.le_of_ble_eq_true rfl) (Nat.le_of_ble_eq_true rfl) (by decide) (c_V_byteAt hv0 hv1 (j := i) (by omega)) rfl ?_
        refine mn_aload_n 3 dEq_addRepair_94 rfl rfl ?_
        refine mn_iload_n 1 dEq_addRepair_95 rfl rfl ?_
        refine mn_iload 5 dEq_addRepair_96 rfl ?_
        refine mn_cV (d' := 2) (w' := 46) (As := [.int (nI jr), .int (nI i)]) (stk' := [.int (nI (horN (fun n => ptN pb ln sn w n i) jr m m)), .int (nI (c i)), .int (nI (3 + i)), .ref (ee + 2 + gv)]) okPc_mixed lEq_42 dEq_addRepair_98 ha rfl rfl rfl rfl (Nat.le_of_ble_eq_true rfl) (Nat.le_of_ble_eq_true rfl) (by decide) (c_P_mixedN ha hb hl hs (by omega) (j := jr) (i := i) (by omega) (by omega) hm hwi hpb hln hsn hm1) rfl ?_
        refine mn_ixor (z := nI ((c i) ^^^ (horN (fun n => ptN pb ln sn w n i) jr m m))) dEq_addRepair_101 (nx_xor (c i) (horN (fun n => ptN pb ln sn w n i) jr m m)) ?_
        refine mn_iastN (j := 3 + i) er rfl (by omega) (by omega) dEq_addRepair_102 ?_
        obtain ⟨g5, eg5⟩ : ∃ gg_, gg_ = mn_set g0 (ee + 2 + gv) (.inl (0, 83, .inl (upd (fun j => nI ((ar2 (ar1 r nu jr un) (rsN c pb ln sn w m jr) i) j)) (3 + i) (nI ((c i) ^^^ (horN (fun n => ptN pb ln sn w n i) jr m m)))))) := ⟨_, rfl⟩
        refine mn_R.toG eg5 ?_
        have e1_g5 : mn_at g5 ee (.inr (0, [.ref (ee + 1), .ref (ee + 5), .int (nI un), .int (nI gv)])) := by rw [eg5]; exact e1.off (by omega)
        have e2_g5 : mn_at g5 (ee + 1) (.inl (2, 3, .inr (.inr (.inr (.inr (eq_q ee)))))) := by rw [eg5]; exact e2.off (by omega)
        have e4_g5 : mn_at g5 (ee + 5) (.inl (0, 3, .inl (fun j => nI (nu j)))) := by rw [eg5]; exact e4.off (by omega)
        have er_g5 : mn_at g5 (ee + 2 + gv) (.inl (0, 83, .inl (upd (fun j => nI ((ar2 (ar1 r nu jr un) (rsN c pb ln sn w m jr) i) j)) (3 + i) (nI ((c i) ^^^ (horN (fun n => ptN pb ln sn w n i) jr m m)))))) := by rw [eg5]; exact er.same
        have hv0_g5 : mn_at g5 v (.inr (8, [.ref (v + 1), .int (nI t)])) := by rw [eg5]; exact hv0.off (by omega)
        have hv1_g5 : mn_at g5 (v + 1) (.inl (0, 80, .inl (fun j => nI (c j)))) := by rw [eg5]; exact hv1.off (by omega)
        have ha_g5 : mn_at g5 a (.inr (2, [.ref (a + 3), .ref (a + 1), .ref (a + 2), .int (nI m), .int (nI w)])) := by rw [eg5]; exact ha.off (by omega)
        have hb_g5 : mn_at g5 (a + 3) (.inl (0, nb, .inl (fun j => nI (pb j)))) := by rw [eg5]; exact hb.off (by omega)
        have hl_g5 : mn_at g5 (a + 1) (.inl (0, 60, .inl (fun j => nI (ln j)))) := by rw [eg5]; exact hl.off (by omega)
        have hs_g5 : mn_at g5 (a + 2) (.inl (0, 60, .inl (fun j => nI (sn j)))) := by rw [eg5]; exact hs.off (by omega)
        refine mn_iinc (v := nI (i + 1)) (ls' := [(0, .ref ee), (1, .int (nI jr)), (2, .ref v), (3, .ref a), (4, .ref (ee + 2 + gv)), (5, .int (nI (i + 1)))]) 5 dEq_addRepair_103 rfl (nI_add i 1) (by decide) rfl ?_
        refine mn_goto 66 dEq_addRepair_106 (by decide) ?_
        rw [upd_nI] at er_g5
        have er9 : mn_at g5 (ee + 2 + gv) (.inl (0, 83, .inl (fun j0 => nI (ar2 (ar1 r nu jr un) (rsN c pb ln sn w m jr) (i + 1) j0)))) := by rw [← ar2_s _ _ h0]; exact er_g5
        exact ih (i + 1) g5 (by omega) (by omega) (by omega) (hfr.set eg5 (by show (ee + 2 + gv) = ee + 2 + gv; omega)) e1_g5 e2_g5 e4_g5 er9 hv0_g5 hv1_g5 ha_g5 hb_g5 hl_g5 hs_g5
set_option maxRecDepth 100000 in
theorem c_E_ar1_l {E : mn_En} {g : mn_H} {ee un gv v t a nb m w jr : Nat} {nu c pb ln sn r : Nat → Nat} (hnb : nb < 5000) (hj : jr < 4) (hun : un ≤ 3) (hgv : gv < 3) (hnu : ∀ i, nu i < 60) (hev : ee + 5 < v ∨ v + 1 < ee) (hea : ee + 5 < a ∨ a + 3 < ee) (ht : t ≤ 80) (htw : t = w + 12) (hm1 : 1 ≤ m) (hm : m ≤ 60) (hmw : m * w ≤ nb) (hpb : ∀ j, pb j < 256) (hln : ∀ j, ln j < 256) (hsn : ∀ j, sn j < 256) (ht6 : 6 ≤ t) : ∀ (fu i : Nat) (g0 : mn_H), i ≤ un → un - i < fu → mn_fr (fun q => q = ee + 2 + gv) g g0 → mn_at g0 ee (.inr (0, [.ref (ee + 1), .ref (ee + 5), .int (nI un), .int (nI gv)])) → mn_at g0 (ee + 1) (.inl (2, 3, .inr (.inr (.inr (.inr (eq_q ee)))))) → mn_at g0 (ee + 5) (.inl (0, 3, .inl (fun j => nI (nu j)))) → mn_at g0 (ee + 2 + gv) (.inl (0, 83, .inl (fun j => nI ((ar1 r nu jr i) j)))) → mn_at g0 v (.inr (8, [.ref (v + 1), .int (nI t)])) → mn_at g0 (v + 1) (.inl (0, 80, .inl (fun j => nI (c j)))) → mn_at g0 a (.inr (2, [.ref (a + 3), .ref (a + 1), .ref (a + 2), .int (nI m), .int (nI w)])) → mn_at g0 (a + 3) (.inl (0, nb, .inl (fun j => nI (pb j)))) → mn_at g0 (a + 1) (.inl (0, 60, .inl (fun j => nI (ln j)))) → mn_at g0 (a + 2) (.inl (0, 60, .inl (fun j => nI (sn j)))) → mn_R E MEq_addRepair 3 70 0 0 23 [(0, .ref ee), (1, .int (nI jr)), (2, .ref v), (3, .ref a), (4, .ref (ee + 2 + gv)), (5, .int (nI i))] [] g0 (fun x g' => x = none ∧ mn_fr (fun q => q = ee ∨ q = ee + 2 + gv) g g' ∧ mn_at g' ee (.inr (0, [.ref (ee + 1), .ref (ee + 5), .int (nI un), .int (nI (gv + 1))])) ∧ mn_at g' (ee + 2 + gv) (.inl (0, 83, .inl (fun j0 => nI (ar2 (ar1 r nu jr un) (rsN c pb ln sn w m jr) t j0))))) := by
  intro fu
  induction fu with
  | zero => intro i g0 h1 h2; exact absurd h2 (by omega)
  | succ fu ih =>
    intro i g0 h1 h2 hfr e1 e2 e4 er hv0 hv1 ha hb hl hs
    refine mn_iload 5 dEq_addRepair_23 rfl ?_
    refine mn_aload_n 0 dEq_addRepair_25 rfl rfl ?_
    refine mn_get okEq 2 lEq_20 (by decide) e1 rfl dEq_addRepair_26 ?_
    refine mn_icmp_ge 62 dEq_addRepair_29 (by decide) (fun c1 => ?_) (fun c1 => ?_)
    · have c1 := (nI_leI (a := un) (b := i) (by omega) (by omega)).mp c1
      refine mn_bipush (v := 6) dEq_addRepair_62 (by decide) ?_
      refine mn_istore (ls' := [(0, .ref ee), (1, .int (nI jr)), (2, .ref v), (3, .ref a), (4, .ref (ee + 2 + gv)), (5, .int 6)]) dEq_addRepair_64 (by decide) rfl ?_
      obtain rfl : i = un := (by omega)
      have er9 : mn_at g0 (ee + 2 + gv) (.inl (0, 83, .inl (fun j0 => nI (ar2 (ar1 r nu jr i) (rsN c pb ln sn w m jr) 6 j0)))) := by rw [ar2_0]; exact er
      exact c_E_ar2_l hnb hj hun hgv hnu hev hea ht htw hm1 hm hmw hpb hln hsn (t + 1) 6 g0 (by omega) (by omega) (by omega) hfr e1 e2 e4 er9 hv0 hv1 ha hb hl hs
    · have c1 := _root_.mt (nI_leI (a := un) (b := i) (by omega) (by omega)).mpr c1
      refine mn_iload 5 dEq_addRepair_32 rfl ?_
      refine mn_iconst (v := 3) dEq_addRepair_34 (by decide) ?_
      refine mn_icmp_ge 62 dEq_addRepair_35 (by decide) (fun c2 => ?_) (fun c2 => ?_)
      · have c2 := (nI_leI (a := 3) (b := i) (by omega) (by omega)).mp c2
        refine mn_bipush (v := 6) dEq_addRepair_62 (by decide) ?_
        refine mn_istore (ls' := [(0, .ref ee), (1, .int (nI jr)), (2, .ref v), (3, .ref a), (4, .ref (ee + 2 + gv)), (5, .int 6)]) dEq_addRepair_64 (by decide) rfl ?_
        obtain rfl : i = un := (by omega)
        have er9 : mn_at g0 (ee + 2 + gv) (.inl (0, 83, .inl (fun j0 => nI (ar2 (ar1 r nu jr i) (rsN c pb ln sn w m jr) 6 j0)))) := by rw [ar2_0]; exact er
        exact c_E_ar2_l hnb hj hun hgv hnu hev hea ht htw hm1 hm hmw hpb hln hsn (t + 1) 6 g0 (by omega) (by omega) (by omega) hfr e1 e2 e4 er9 hv0 hv1 ha hb hl hs
      · have c2 := _root_.mt (nI_leI (a := 3) (b := i) (by omega) (by omega)).mpr c2
        have hni := hnu i
        have hjn : jr * nu i < 1000 := by have := Nat.mul_le_mul (show jr ≤ 3 by omega) (show nu i ≤ 59 by omega); omega
        refine mn_aload 4 dEq_addRepair_38 rfl ?_
        refine mn_iload 5 dEq_addRepair_40 rfl ?_
        refine mn_iconst (v := 1) dEq_addRepair_42 (by decide) ?_
        refine mn_iload_n 1 dEq_addRepair_43 rfl rfl ?_
        refine mn_aload_n 0 dEq_addRepair_44 rfl rfl ?_
        refine mn_get okEq 1 lEq_16 (by decide) e1 rfl dEq_addRepair_45 ?_
        refine mn_iload 5 dEq_addRepair_48 rfl ?_
        refine mn_ialdN (j := i) e4 rfl (by omega) (by omega) dEq_addRepair_50 ?_
        refine mn_imul (z := nI (jr * (nu i))) dEq_addRepair_51 (pk_mul jr (nu i)) ?_
        refine mn_cS (d' := 1) (w' := 21) (As := [.int 1, .int (nI (jr * (nu i)))]) (stk' := [.int (nI (twsN 1 (jr * (nu i)))), .int (nI i), .ref (ee + 2 + gv)]) okBy_raised lEq_27 dEq_addRepair_52 rfl rfl (Nat.le_of_ble_eq_true rfl) (Nat.le_of_ble_eq_true rfl) (by decide) (c_raisedN (x := 1) (n := jr * (nu i)) (by decide) (by omega)) rfl ?_
        refine mn_iastN (j := i) er rfl (by omega) (by omega) dEq_addRepair_55 ?_
        obtain ⟨g3, eg3⟩ : ∃ gg_, gg_ = mn_set g0 (ee + 2 + gv) (.inl (0, 83, .inl (upd (fun j => nI ((ar1 r nu jr i) j)) i (nI (twsN 1 (jr * (nu i))))))) := ⟨_, rfl⟩
        refine mn_R.toG eg3 ?_
        have e1_g3 : mn_at g3 ee (.inr (0, [.ref (ee + 1), .ref (ee + 5), .int (nI un), .int (nI gv)])) := by rw [eg3]; exact e1.off (by omega)
        have e2_g3 : mn_at g3 (ee + 1) (.inl (2, 3, .inr (.inr (.inr (.inr (eq_q ee)))))) := by rw [eg3]; exact e2.off (by omega)
        have e4_g3 : mn_at g3 (ee + 5) (.inl (0, 3, .inl (fun j => nI (nu j)))) := by rw [eg3]; exact e4.off (by omega)
        have er_g3 : mn_at g3 (ee + 2 + gv) (.inl (0, 83, .inl (upd (fun j => nI ((ar1 r nu jr i) j)) i (nI (twsN 1 (jr * (nu i))))))) := by rw [eg3]; exact er.same
        have hv0_g3 : mn_at g3 v (.inr (8, [.ref (v + 1), .int (nI t)])) := by rw [eg3]; exact hv0.off (by omega)
        have hv1_g3 : mn_at g3 (v + 1) (.inl (0, 80, .inl (fun j => nI (c j)))) := by rw [eg3]; exact hv1.off (by omega)
        have ha_g3 : mn_at g3 a (.inr (2, [.ref (a + 3), .ref (a + 1), .ref (a + 2), .int (nI m), .int (nI w)])) := by rw [eg3]; exact ha.off (by omega)
        have hb_g3 : mn_at g3 (a + 3) (.inl (0, nb, .inl (fun j => nI (pb j)))) := by rw [eg3]; exact hb.off (by omega)
        have hl_g3 : mn_at g3 (a + 1) (.inl (0, 60, .inl (fun j => nI (ln j)))) := by rw [eg3]; exact hl.off (by omega)
        have hs_g3 : mn_at g3 (a + 2) (.inl (0, 60, .inl (fun j => nI (sn j)))) := by rw [eg3]; exact hs.off (by omega)
        refine mn_iinc (v := nI (i + 1)) (ls' := [(0, .ref ee), (1, .int (nI jr)), (2, .ref v), (3, .ref a), (4, .ref (ee + 2 + gv)), (5, .int (nI (i + 1)))]) 5 dEq_addRepair_56 rfl (nI_add i 1) (by decide) rfl ?_
        refine mn_goto 23 dEq_addRepair_59 (by decide) ?_
        rw [upd_nI, ar1_s] at er_g3
        exact ih (i + 1) g3 (by omega) (by omega) (hfr.set eg3 (by show (ee + 2 + gv) = ee + 2 + gv; omega)) e1_g3 e2_g3 e4_g3 er_g3 hv0_g3 hv1_g3 ha_g3 hb_g3 hl_g3 hs_g3
set_option maxRecDepth 100000 in
theorem c_E_addRepair {E : mn_En} {g : mn_H} {ee un gv : Nat} {rw : Nat → Nat → Nat} {nu : Nat → Nat} (hE : EqP g ee rw nu un gv) {v t a nb m w jr : Nat} {c pb ln sn : Nat → Nat} (hv0 : mn_at g v (.inr (8, [.ref (v + 1), .int (nI t)]))) (hv1 : mn_at g (v + 1) (.inl (0, 80, .inl (fun j => nI (c j))))) (ha : mn_at g a (.inr (2, [.ref (a + 3), .ref (a + 1), .ref (a + 2), .int (nI m), .int (nI w)]))) (hb : mn_at g (a + 3) (.inl (0, nb, .inl (fun j => nI (pb j))))) (hl : mn_at g (a + 1) (.inl (0, 60, .inl (fun j => nI (ln j))))) (hs : mn_at g (a + 2) (.inl (0, 60, .inl (fun j => nI (sn j))))) (hnb : nb < 5000) (hj : jr < 4) (hgv : gv < 3) (hev : ee + 5 < v ∨ v + 1 < ee) (hea : ee + 5 < a ∨ a + 3 < ee) (ht : t ≤ 80) (htw : t = w + 12) (hm1 : 1 ≤ m) (hm : m ≤ 60) (hmw : m * w ≤ nb) (hpb : ∀ j, pb j < 256) (hln : ∀ j, ln j < 256) (hsn : ∀ j, sn j < 256) (ht6 : 6 ≤ t) (hc : ∀ j, c j < 256) : mn_R E MEq_addRepair 3 70 0 0 0 [(0, .ref ee), (1, .int (nI jr)), (2, .ref v), (3, .ref a)] [] g (fun x g' => x = none ∧ mn_fr (fun q => q = ee ∨ q = ee + 2 + gv) g g' ∧ EqP g' ee (va_up rw gv (ar2 (ar1 (rw gv) nu jr un) (rsN c pb ln sn w m jr) t)) nu un (gv + 1)) := by
  have hE0 := hE
  obtain ⟨e1, e2, e3, e4, e5, e6, e7, e8⟩ := hE
  have er := e3 gv hgv
  refine mn_aload_n 0 dEq_addRepair_0 rfl rfl ?_
  refine mn_get okEq 3 lEq_24 (by decide) e1 rfl dEq_addRepair_1 ?_
  refine mn_iconst (v := 3) dEq_addRepair_4 (by decide) ?_
  refine mn_icmp_lt 9 dEq_addRepair_5 (by decide) (fun c1 => ?_) (fun c1 => ?_)
  · have c1 := (nI_ltI (a := gv) (b := 3) (by omega) (by omega)).mp c1
    refine mn_aload_n 0 dEq_addRepair_9 rfl rfl ?_
    refine mn_get okEq 0 lEq_11 (by decide) e1 rfl dEq_addRepair_10 ?_
    refine mn_aload_n 0 dEq_addRepair_13 rfl rfl ?_
    refine mn_get okEq 3 lEq_24 (by decide) e1 rfl dEq_addRepair_14 ?_
    refine mn_aaldN (j := gv) e2 rfl rfl (by omega) (by omega) (show eq_q ee gv = some (ee + 2 + gv) from if_pos (by omega)) dEq_addRepair_17 ?_
    refine mn_astore (ls' := [(0, .ref ee), (1, .int (nI jr)), (2, .ref v), (3, .ref a), (4, .ref (ee + 2 + gv))]) dEq_addRepair_18 (by decide) rfl ?_
    refine mn_iconst (v := 0) dEq_addRepair_20 (by decide) ?_
    refine mn_istore (ls' := [(0, .ref ee), (1, .int (nI jr)), (2, .ref v), (3, .ref a), (4, .ref (ee + 2 + gv)), (5, .int 0)]) dEq_addRepair_21 (by decide) rfl ?_
    have er : mn_at g (ee + 2 + gv) (.inl (0, 83, .inl (fun j0 => nI (ar1 (rw gv) nu jr 0 j0)))) := by rw [ar1_0]; exact er
    refine mn_R.post (c_E_ar1_l (r := rw gv) hnb hj e6 hgv e8 hev hea ht htw hm1 hm hmw hpb hln hsn ht6 (un + 1) 0 g (by omega) (by omega) mn_fr.rf e1 e2 e4 er hv0 hv1 ha hb hl hs) (fun x g' hq => ⟨hq.1, hq.2.1, ?_⟩)
    obtain ⟨-, q1, q2, q3⟩ := hq
    refine ⟨q2, e2.fr q1 (fun q => by have h9 : ee + 1 = ee ∨ ee + 1 = ee + 2 + gv := q; omega), fun i hi => ?_, e4.fr q1 (fun q => by have h9 : ee + 5 = ee ∨ ee + 5 = ee + 2 + gv := q; omega), fun i j0 => ?_, e6, by omega, e8⟩
    · by_cases hik : i = gv
      · subst hik; rw [va_up_s]; exact q3
      · rw [va_up_n _ _ hik]; exact (e3 i hi).fr q1 (fun q => by have h9 : ee + 2 + i = ee ∨ ee + 2 + i = ee + 2 + gv := q; omega)
    · by_cases hik : i = gv
      · subst hik; rw [va_up_s]; exact ar2_lt (ar1_lt (e5 i) nu jr un) (rsN_lt hc hpb hln hsn w m jr) t j0
      · rw [va_up_n _ _ hik]; exact e5 i j0
  · have c1 := _root_.mt (nI_ltI (a := gv) (b := 3) (by omega) (by omega)).mpr c1
    exact mn_vret rfl dEq_addRepair_8 (absurd hgv (by omega))
set_option maxRecDepth 100000 in
theorem c_E_solve_i {E : mn_En} {g : mn_H} {ee un gv k : Nat} {R0 : Nat → Nat → Nat} {nu : Nat → Nat} {Q : Option Value → mn_H → Prop} (hun : un ≤ 3) (hk : k < un) (KK : ∀ g1, mn_fr (fun q => ee + 2 ≤ q ∧ q < ee + 5) g g1 → EqP g1 ee (elI R0 k un) nu un gv → mn_R E MEq_solve 3 70 0 0 71 [(0, .ref ee), (1, .int (nI k))] [] g1 Q) : ∀ (fu o : Nat) (g0 : mn_H), o ≤ un → un - o < fu → mn_fr (fun q => ee + 2 ≤ q ∧ q < ee + 5) g g0 → EqP g0 ee (elI R0 k o) nu un gv → mn_R E MEq_solve 3 70 0 0 33 [(0, .ref ee), (1, .int (nI k)), (2, .int (nI o))] [] g0 (Q) := by
  intro fu
  induction fu with
  | zero => intro o g0 h1 h2; exact absurd h2 (by omega)
  | succ fu ih =>
    intro o g0 h1 h2 hfr hE0
    obtain ⟨rw, hrw⟩ : ∃ r, r = elI R0 k o := ⟨_, rfl⟩
    have hE : EqP g0 ee rw nu un gv := by rw [hrw]; exact hE0
    obtain ⟨e1, e2, e3, e4, e5, e6, e7, e8⟩ := id hE
    refine mn_iload_n 2 dEq_solve_33 rfl rfl ?_
    refine mn_aload_n 0 dEq_solve_34 rfl rfl ?_
    refine mn_get okEq 2 lEq_20 (by decide) e1 rfl dEq_solve_35 ?_
    refine mn_icmp_ge 71 dEq_solve_38 (by decide) (fun c1 => ?_) (fun c1 => ?_)
    · have c1 := (nI_leI (a := un) (b := o) (by omega) (by omega)).mp c1
      refine mn_R.sub [0, 1] (ls' := [(0, .ref ee), (1, .int (nI k))]) rfl ?_
      obtain rfl : o = un := (by omega)
      exact KK g0 hfr hE0
    · have c1 := _root_.mt (nI_leI (a := un) (b := o) (by omega) (by omega)).mpr c1
      refine mn_iload_n 2 dEq_solve_41 rfl rfl ?_
      refine mn_iconst (v := 3) dEq_solve_42 (by decide) ?_
      refine mn_icmp_ge 71 dEq_solve_43 (by decide) (fun c2 => ?_) (fun c2 => ?_)
      · have c2 := (nI_leI (a := 3) (b := o) (by omega) (by omega)).mp c2
        refine mn_R.sub [0, 1] (ls' := [(0, .ref ee), (1, .int (nI k))]) rfl ?_
        obtain rfl : o = un := (by omega)
        exact KK g0 hfr hE0
      · have c2 := _root_.mt (nI_leI (a := 3) (b := o) (by omega) (by omega)).mpr c2
        refine mn_iload_n 2 dEq_solve_46 rfl rfl ?_
        refine mn_iload_n 1 dEq_solve_47 rfl rfl ?_
        refine mn_icmp_eq 65 dEq_solve_48 (by decide) (fun c3 => ?_) (fun c3 => ?_)
        · have c3 := (nI_eq (a := o) (b := k) (by omega) (by omega)).mp c3
          refine mn_iinc (v := nI (o + 1)) (ls' := [(0, .ref ee), (1, .int (nI k)), (2, .int (nI (o + 1)))]) 2 dEq_solve_65 rfl (nI_add o 1) (by decide) rfl ?_
          refine mn_goto 33 dEq_solve_68 (by decide) ?_
          exact ih (o + 1) g0 (by omega) (by omega) hfr (by unfold elI; rw [if_pos c3]; exact hE0)
        · have c3 := _root_.mt (nI_eq (a := o) (b := k) (by omega) (by omega)).mpr c3
          have er4 := e3 o (by omega)
          refine mn_aload_n 0 dEq_solve_51 rfl rfl ?_
          refine mn_iload_n 2 dEq_solve_52 rfl rfl ?_
          refine mn_iload_n 1 dEq_solve_53 rfl rfl ?_
          refine mn_aload_n 0 dEq_solve_54 rfl rfl ?_
          refine mn_get okEq 0 lEq_11 (by decide) e1 rfl dEq_solve_55 ?_
          refine mn_iload_n 2 dEq_solve_58 rfl rfl ?_
          refine mn_aaldN (j := o) e2 rfl rfl (by omega) (by omega) (show eq_q ee o = some (ee + 2 + o) from if_pos (by omega)) dEq_solve_59 ?_
          refine mn_iload_n 1 dEq_solve_60 rfl rfl ?_
          refine mn_ialdN (j := k) er4 rfl (by omega) (by omega) dEq_solve_61 ?_
          refine mn_callV (d' := 2) (w' := 45) (nc' := 0) (ns' := 0) (As := [.int (nI o), .int (nI k), .int (nI (rw o k))]) (st := []) okEq_addTo lEq_54 dEq_solve_62 e1 rfl rfl rfl rfl (Nat.le_of_ble_eq_true rfl) (Nat.le_of_ble_eq_true rfl) (by decide) (c_E_addTo hE (by omega) (by omega) c3 (e5 o k)) (fun v g5 hq => ?_)
          obtain ⟨rfl, fg5, hE_g5⟩ := hq
          show mn_R E MEq_solve 3 70 _ _ 65 [(0, .ref ee), (1, .int (nI k)), (2, .int (nI o))] [] g5 _
          have e1_g5 := hE_g5.1
          have e2_g5 := hE_g5.2.1
          have e3_g5 := hE_g5.2.2.1
          have e4_g5 := hE_g5.2.2.2.1
          have e5_g5 := hE_g5.2.2.2.2.1
          refine mn_iinc (v := nI (o + 1)) (ls' := [(0, .ref ee), (1, .int (nI k)), (2, .int (nI (o + 1)))]) 2 dEq_solve_65 rfl (nI_add o 1) (by decide) rfl ?_
          refine mn_goto 33 dEq_solve_68 (by decide) ?_
          exact ih (o + 1) g5 (by omega) (by omega) (hfr.tr (fg5.mo (fun q h => by have h9 : q = ee + 2 + o := h; show ee + 2 ≤ q ∧ q < ee + 5; omega))) (by unfold elI; rw [if_neg c3, ← hrw]; exact hE_g5)
set_option maxRecDepth 100000 in
theorem c_E_solve_l {E : mn_En} {g : mn_H} {ee un gv : Nat} {R0 : Nat → Nat → Nat} {nu : Nat → Nat} (hun : un ≤ 3) : ∀ (fu k : Nat) (g0 : mn_H), k ≤ un → un - k < fu → mn_fr (fun q => ee + 2 ≤ q ∧ q < ee + 5) g g0 → EqP g0 ee (elO R0 un k) nu un gv → mn_R E MEq_solve 3 70 0 0 2 [(0, .ref ee), (1, .int (nI k))] [] g0 (fun x g' => x = none ∧ mn_fr (fun q => ee + 2 ≤ q ∧ q < ee + 5) g g' ∧ EqP g' ee (elO R0 un un) nu un gv) := by
  intro fu
  induction fu with
  | zero => intro k g0 h1 h2; exact absurd h2 (by omega)
  | succ fu ih =>
    intro k g0 h1 h2 hfr hE0
    obtain ⟨rw, hrw⟩ : ∃ r, r = elO R0 un k := ⟨_, rfl⟩
    have hE : EqP g0 ee rw nu un gv := by rw [hrw]; exact hE0
    obtain ⟨e1, e2, e3, e4, e5, e6, e7, e8⟩ := id hE
    refine mn_iload_n 1 dEq_solve_2 rfl rfl ?_
    refine mn_aload_n 0 dEq_solve_3 rfl rfl ?_
    refine mn_get okEq 2 lEq_20 (by decide) e1 rfl dEq_solve_4 ?_
    refine mn_icmp_ge 77 dEq_solve_7 (by decide) (fun c1 => ?_) (fun c1 => ?_)
    · have c1 := (nI_leI (a := un) (b := k) (by omega) (by omega)).mp c1
      exact mn_vret rfl dEq_solve_77 (by obtain rfl : k = un := (by omega); exact ⟨rfl, hfr, hE0⟩)
    · have c1 := _root_.mt (nI_leI (a := un) (b := k) (by omega) (by omega)).mpr c1
      refine mn_iload_n 1 dEq_solve_10 rfl rfl ?_
      refine mn_iconst (v := 3) dEq_solve_11 (by decide) ?_
      refine mn_icmp_ge 77 dEq_solve_12 (by decide) (fun c2 => ?_) (fun c2 => ?_)
      · have c2 := (nI_leI (a := 3) (b := k) (by omega) (by omega)).mp c2
        exact mn_vret rfl dEq_solve_77 (by obtain rfl : k = un := (by omega); exact ⟨rfl, hfr, hE0⟩)
      · have c2 := _root_.mt (nI_leI (a := 3) (b := k) (by omega) (by omega)).mpr c2
        have er3 := e3 k (by omega)
        refine mn_aload_n 0 dEq_solve_15 rfl rfl ?_
        refine mn_iload_n 1 dEq_solve_16 rfl rfl ?_
        refine mn_aload_n 0 dEq_solve_17 rfl rfl ?_
        refine mn_get okEq 0 lEq_11 (by decide) e1 rfl dEq_solve_18 ?_
        refine mn_iload_n 1 dEq_solve_21 rfl rfl ?_
        refine mn_aaldN (j := k) e2 rfl rfl (by omega) (by omega) (show eq_q ee k = some (ee + 2 + k) from if_pos (by omega)) dEq_solve_22 ?_
        refine mn_iload_n 1 dEq_solve_23 rfl rfl ?_
        refine mn_ialdN (j := k) er3 rfl (by omega) (by omega) dEq_solve_24 ?_
        refine mn_cS (d' := 2) (w' := 45) (As := [.int (nI (rw k k))]) (stk' := [.int (nI (ivN (rw k k))), .int (nI k), .ref ee]) okBy_inverse lEq_47 dEq_solve_25 rfl rfl (Nat.le_of_ble_eq_true rfl) (Nat.le_of_ble_eq_true rfl) (by decide) (c_inverse (a := rw k k) (e5 k k)) rfl ?_
        refine mn_callV (d' := 2) (w' := 45) (nc' := 0) (ns' := 0) (As := [.int (nI k), .int (nI (ivN (rw k k)))]) (st := []) okEq_scale lEq_50 dEq_solve_28 e1 rfl rfl rfl rfl (Nat.le_of_ble_eq_true rfl) (Nat.le_of_ble_eq_true rfl) (by decide) (c_E_scale hE (k := k) (f := ivN (rw k k)) (by omega) (ivN_lt _)) (fun v g4 hq => ?_)
        obtain ⟨rfl, fg4, hE_g4⟩ := hq
        show mn_R E MEq_solve 3 70 _ _ 31 [(0, .ref ee), (1, .int (nI k))] [] g4 _
        have e1_g4 := hE_g4.1
        have e2_g4 := hE_g4.2.1
        have e3_g4 := hE_g4.2.2.1
        have e4_g4 := hE_g4.2.2.2.1
        have e5_g4 := hE_g4.2.2.2.2.1
        refine mn_iconst (v := 0) dEq_solve_31 (by decide) ?_
        refine mn_istore_n (ls' := [(0, .ref ee), (1, .int (nI k)), (2, .int 0)]) dEq_solve_32 rfl (by decide) rfl ?_
        exact c_E_solve_i (g := g4) (R0 := scA rw k (ivN (rw k k))) hun (by omega) (fun g1 hf1 hE1 => by refine mn_iinc (v := nI (k + 1)) (ls' := [(0, .ref ee), (1, .int (nI (k + 1)))]) 1 dEq_solve_71 rfl (nI_add k 1) (by decide) rfl ?_; refine mn_goto 2 dEq_solve_74 (by decide) ?_; exact ih (k + 1) g1 (by omega) (by omega) ((hfr.tr (fg4.mo (fun q h => by have h9 : q = ee + 2 + k := h; show ee + 2 ≤ q ∧ q < ee + 5; omega))).tr hf1) (by unfold elO; rw [← hrw]; exact hE1)) (un + 1) 0 g4 (by omega) (by omega) mn_fr.rf hE_g4
set_option maxRecDepth 100000 in
theorem c_E_solve {E : mn_En} {g : mn_H} {ee un gv : Nat} {rw : Nat → Nat → Nat} {nu : Nat → Nat} (hE : EqP g ee rw nu un gv) : mn_R E MEq_solve 3 70 0 0 0 [(0, .ref ee)] [] g (fun x g' => x = none ∧ mn_fr (fun q => ee + 2 ≤ q ∧ q < ee + 5) g g' ∧ EqP g' ee (elO rw un un) nu un gv) := by
  refine mn_iconst (v := 0) dEq_solve_0 (by decide) ?_
  refine mn_istore_n (ls' := [(0, .ref ee), (1, .int 0)]) dEq_solve_1 rfl (by decide) rfl ?_
  exact c_E_solve_l hE.2.2.2.2.2.1 (un + 1) 0 g (by omega) (by omega) mn_fr.rf hE
