set_option maxRecDepth 100000 in
theorem c_V_byteAt {E : mn_En} {g : mn_H} {a r s : Nat} {f : Nat → Int32} (ha : mn_at g a (.inr (8, [.ref r, .int (nI s)]))) (hr : mn_at g r (.inl (0, 80, .inl f))) {j : Nat} (hj : j < 80) : mn_R E MVo_byteAt 0 0 0 0 0 [(0, .ref a), (1, .int (nI j))] [] g (mn_is (some (.int (f j))) g) := by
  refine mn_iload_n 1 dVo_byteAt_0 rfl rfl ?_
  refine mn_if_lt 10 dVo_byteAt_1 (by decide) (fun c1 => ?_) (fun c1 => ?_)
  · exact absurd c1 (nI_pos (by omega))
  · refine mn_iload_n 1 dVo_byteAt_4 rfl rfl ?_
    refine mn_bipush (v := 80) dVo_byteAt_5 (by decide) ?_
    refine mn_icmp_lt 14 dVo_byteAt_7 (by decide) (fun c2 => ?_) (fun c2 => ?_)
    · have c2 := (nI_ltI (a := j) (b := 80) (by omega) (by omega)).mp c2
      refine mn_aload_n 0 dVo_byteAt_14 rfl rfl ?_
      refine mn_get okVo 0 lVo_9 (by decide) ha rfl dVo_byteAt_15 ?_
      refine mn_iload_n 1 dVo_byteAt_18 rfl rfl ?_
      refine mn_ialdN (j := j) hr rfl (by omega) (by omega) dVo_byteAt_19 ?_
      exact mn_iret rfl dVo_byteAt_20 ⟨rfl, rfl⟩
    · have c2 := mt (nI_ltI (a := j) (b := 80) (by omega) (by omega)).mpr c2
      refine mn_iconst (v := 0) dVo_byteAt_10 (by decide) ?_
      refine mn_goto 20 dVo_byteAt_11 (by decide) ?_
      exact mn_iret rfl dVo_byteAt_20 (absurd hj (by omega))
set_option maxRecDepth 100000 in
theorem c_V_put {E : mn_En} {g : mn_H} {a r s : Nat} {f : Nat → Int32} (ha : mn_at g a (.inr (8, [.ref r, .int (nI s)]))) (hr : mn_at g r (.inl (0, 80, .inl f))) {j : Nat} (hj : j < 80) {x : Int32} : mn_R E MVo_put 0 0 0 0 0 [(0, .ref a), (1, .int (nI j)), (2, .int x)] [] g (mn_is none (mn_set g r (.inl (0, 80, .inl (upd f j x))))) := by
  refine mn_iload_n 1 dVo_put_0 rfl rfl ?_
  refine mn_if_lt 17 dVo_put_1 (by decide) (fun c1 => ?_) (fun c1 => ?_)
  · exact absurd c1 (nI_pos (by omega))
  · refine mn_iload_n 1 dVo_put_4 rfl rfl ?_
    refine mn_bipush (v := 80) dVo_put_5 (by decide) ?_
    refine mn_icmp_ge 17 dVo_put_7 (by decide) (fun c2 => ?_) (fun c2 => ?_)
    · have c2 := (nI_leI (a := 80) (b := j) (by omega) (by omega)).mp c2
      exact mn_vret rfl dVo_put_17 (absurd hj (by omega))
    · have c2 := mt (nI_leI (a := 80) (b := j) (by omega) (by omega)).mpr c2
      refine mn_aload_n 0 dVo_put_10 rfl rfl ?_
      refine mn_get okVo 0 lVo_9 (by decide) ha rfl dVo_put_11 ?_
      refine mn_iload_n 1 dVo_put_14 rfl rfl ?_
      refine mn_iload_n 2 dVo_put_15 rfl rfl ?_
      refine mn_iastN (j := j) hr rfl (by omega) (by omega) dVo_put_16 ?_
      obtain ⟨g3, eg3⟩ : ∃ gg_, gg_ = mn_set g r (.inl (0, 80, .inl (upd f j x))) := ⟨_, rfl⟩
      refine mn_R.toG eg3 ?_
      have ha_g3 : mn_at g3 a (.inr (8, [.ref r, .int (nI s)])) := by rw [eg3]; exact ha.off (mn_at.ne ha hr (fun h => by cases h))
      have hr_g3 : mn_at g3 r (.inl (0, 80, .inl (upd f j x))) := by rw [eg3]; exact hr.same
      exact mn_vret rfl dVo_put_17 ⟨rfl, eg3⟩
set_option maxRecDepth 100000 in
theorem c_V_putSum {E : mn_En} {g : mn_H} {a r s : Nat} {f : Nat → Int32} (ha : mn_at g a (.inr (8, [.ref r, .int (nI s)]))) (hr : mn_at g r (.inl (0, 80, .inl f))) {j : Nat} (hj : j + 1 < 80) {x : Int32} : mn_R E MVo_putSum 1 22 0 0 0 [(0, .ref a), (1, .int (nI j)), (2, .int x)] [] g (mn_is none (mn_set g r (.inl (0, 80, .inl (ps f j x))))) := by
  refine mn_aload_n 0 dVo_putSum_0 rfl rfl ?_
  refine mn_iload_n 1 dVo_putSum_1 rfl rfl ?_
  refine mn_iload_n 2 dVo_putSum_2 rfl rfl ?_
  refine mn_sipush (v := 255) dVo_putSum_3 (by decide) ?_
  refine mn_iand (z := x &&& 255) dVo_putSum_6 rfl ?_
  refine mn_cV (As := [.int (nI j), .int (x &&& 255)]) (stk' := []) okVo_put lVo_15 dVo_putSum_7 ha rfl rfl rfl rfl (Nat.le_of_ble_eq_true rfl) (Nat.le_of_ble_eq_true rfl) (by decide) (c_V_put ha hr (j := j) (by omega)) rfl ?_
  obtain ⟨g1, eg1⟩ : ∃ gg_, gg_ = mn_set g r (.inl (0, 80, .inl (upd f j (x &&& 255)))) := ⟨_, rfl⟩
  refine mn_R.toG eg1 ?_
  have ha_g1 : mn_at g1 a (.inr (8, [.ref r, .int (nI s)])) := by rw [eg1]; exact ha.off (mn_at.ne ha hr (fun h => by cases h))
  have hr_g1 : mn_at g1 r (.inl (0, 80, .inl (upd f j (x &&& 255)))) := by rw [eg1]; exact hr.same
  refine mn_aload_n 0 dVo_putSum_10 rfl rfl ?_
  refine mn_iload_n 1 dVo_putSum_11 rfl rfl ?_
  refine mn_iconst (v := 1) dVo_putSum_12 (by decide) ?_
  refine mn_iadd (z := nI (j + 1)) dVo_putSum_13 (nI_add j 1) ?_
  refine mn_iload_n 2 dVo_putSum_14 rfl rfl ?_
  refine mn_bipush (v := 8) dVo_putSum_15 (by decide) ?_
  refine mn_iushr (z := (Int32.toUInt32 x >>> (Int32.toUInt32 8 &&& Int32.toUInt32 31)).toInt32) dVo_putSum_17 rfl ?_
  refine mn_cV (As := [.int (nI (j + 1)), .int ((Int32.toUInt32 x >>> (Int32.toUInt32 8 &&& Int32.toUInt32 31)).toInt32)]) (stk' := []) okVo_put lVo_15 dVo_putSum_18 ha_g1 rfl rfl rfl rfl (Nat.le_of_ble_eq_true rfl) (Nat.le_of_ble_eq_true rfl) (by decide) (c_V_put ha_g1 hr_g1 (j := j + 1) (by omega)) rfl ?_
  obtain ⟨g2, eg2⟩ : ∃ gg_, gg_ = mn_set g1 r (.inl (0, 80, .inl (upd (upd f j (x &&& 255)) (j + 1) ((Int32.toUInt32 x >>> (Int32.toUInt32 8 &&& Int32.toUInt32 31)).toInt32)))) := ⟨_, rfl⟩
  refine mn_R.toG eg2 ?_
  have ha_g2 : mn_at g2 a (.inr (8, [.ref r, .int (nI s)])) := by rw [eg2]; exact ha_g1.off (mn_at.ne ha_g1 hr_g1 (fun h => by cases h))
  have hr_g2 : mn_at g2 r (.inl (0, 80, .inl (upd (upd f j (x &&& 255)) (j + 1) ((Int32.toUInt32 x >>> (Int32.toUInt32 8 &&& Int32.toUInt32 31)).toInt32)))) := by rw [eg2]; exact hr_g1.same
  exact mn_vret rfl dVo_putSum_21 ⟨rfl, by rw [eg2, eg1, mn_set_set]; rfl⟩
set_option maxRecDepth 100000 in
theorem c_V_sumAt {E : mn_En} {g : mn_H} {a r s : Nat} {f : Nat → Int32} (ha : mn_at g a (.inr (8, [.ref r, .int (nI s)]))) (hr : mn_at g r (.inl (0, 80, .inl f))) {j : Nat} (hj : j + 1 < 80) : mn_R E MVo_sumAt 1 21 0 0 0 [(0, .ref a), (1, .int (nI j))] [] g (mn_is (some (.int (sa f j))) g) := by
  refine mn_aload_n 0 dVo_sumAt_0 rfl rfl ?_
  refine mn_iload_n 1 dVo_sumAt_1 rfl rfl ?_
  refine mn_cV (As := [.int (nI j)]) (stk' := [.int (f j)]) okVo_byteAt lVo_19 dVo_sumAt_2 ha rfl rfl rfl rfl (Nat.le_of_ble_eq_true rfl) (Nat.le_of_ble_eq_true rfl) (by decide) (c_V_byteAt ha hr (j := j) (by omega)) rfl ?_
  refine mn_aload_n 0 dVo_sumAt_5 rfl rfl ?_
  refine mn_iload_n 1 dVo_sumAt_6 rfl rfl ?_
  refine mn_iconst (v := 1) dVo_sumAt_7 (by decide) ?_
  refine mn_iadd (z := nI (j + 1)) dVo_sumAt_8 (nI_add j 1) ?_
  refine mn_cV (As := [.int (nI (j + 1))]) (stk' := [.int (f (j + 1)), .int (f j)]) okVo_byteAt lVo_19 dVo_sumAt_9 ha rfl rfl rfl rfl (Nat.le_of_ble_eq_true rfl) (Nat.le_of_ble_eq_true rfl) (by decide) (c_V_byteAt ha hr (j := j + 1) (by omega)) rfl ?_
  refine mn_bipush (v := 8) dVo_sumAt_12 (by decide) ?_
  refine mn_ishl (z := (f (j + 1)) <<< (8 &&& 31)) dVo_sumAt_14 rfl ?_
  refine mn_iadd (z := (f j) + ((f (j + 1)) <<< (8 &&& 31))) dVo_sumAt_15 rfl ?_
  exact mn_iret rfl dVo_sumAt_16 ⟨rfl, rfl⟩
set_option maxRecDepth 100000 in
theorem c_V_seal {E : mn_En} {g : mn_H} {a r s : Nat} {f : Nat → Int32} (ha : mn_at g a (.inr (8, [.ref r, .int (nI s)]))) (hr : mn_at g r (.inl (0, 80, .inl f))) (hs : 12 ≤ s) (hs2 : s ≤ 80) : mn_R E MVo_seal 2 45 0 0 0 [(0, .ref a)] [] g (mn_is none (mn_set g r (.inl (0, 80, .inl (sealF f s))))) := by
  refine mn_aload_n 0 dVo_seal_0 rfl rfl ?_
  refine mn_bipush (v := 8) dVo_seal_1 (by decide) ?_
  refine mn_aload_n 0 dVo_seal_3 rfl rfl ?_
  refine mn_get okVo 0 lVo_9 (by decide) ha rfl dVo_seal_4 ?_
  refine mn_bipush (v := 12) dVo_seal_7 (by decide) ?_
  refine mn_aload_n 0 dVo_seal_9 rfl rfl ?_
  refine mn_get okVo 1 lVo_23 (by decide) ha rfl dVo_seal_10 ?_
  refine mn_cS (As := [.ref r, .int 12, .int (nI s)]) (stk' := [.int (su f 12 (s - 12)), .int 8, .ref a]) okBy_sum lVo_27 dVo_seal_13 rfl rfl (Nat.le_of_ble_eq_true rfl) (Nat.le_of_ble_eq_true rfl) (by decide) (c_sum hr (a := 12) (b := s) (by omega) (by omega) (by omega)) rfl ?_
  refine mn_cV (As := [.int 8, .int (su f 12 (s - 12))]) (stk' := []) okVo_putSum lVo_33 dVo_seal_16 ha rfl rfl rfl rfl (Nat.le_of_ble_eq_true rfl) (Nat.le_of_ble_eq_true rfl) (by decide) (c_V_putSum ha hr (j := 8) (by omega)) rfl ?_
  obtain ⟨g1, eg1⟩ : ∃ gg_, gg_ = mn_set g r (.inl (0, 80, .inl (ps f 8 (su f 12 (s - 12))))) := ⟨_, rfl⟩
  refine mn_R.toG eg1 ?_
  have ha_g1 : mn_at g1 a (.inr (8, [.ref r, .int (nI s)])) := by rw [eg1]; exact ha.off (mn_at.ne ha hr (fun h => by cases h))
  have hr_g1 : mn_at g1 r (.inl (0, 80, .inl (ps f 8 (su f 12 (s - 12))))) := by rw [eg1]; exact hr.same
  refine mn_aload_n 0 dVo_seal_19 rfl rfl ?_
  refine mn_bipush (v := 10) dVo_seal_20 (by decide) ?_
  refine mn_aload_n 0 dVo_seal_22 rfl rfl ?_
  refine mn_get okVo 0 lVo_9 (by decide) ha_g1 rfl dVo_seal_23 ?_
  refine mn_iconst (v := 0) dVo_seal_26 (by decide) ?_
  refine mn_bipush (v := 10) dVo_seal_27 (by decide) ?_
  refine mn_cS (As := [.ref r, .int 0, .int 10]) (stk' := [.int (su (ps f 8 (su f 12 (s - 12))) 0 10), .int 10, .ref a]) okBy_sum lVo_27 dVo_seal_29 rfl rfl (Nat.le_of_ble_eq_true rfl) (Nat.le_of_ble_eq_true rfl) (by decide) (c_sum hr_g1 (a := 0) (b := 10) (by omega) (by omega) (by omega)) rfl ?_
  refine mn_cV (As := [.int 10, .int (su (ps f 8 (su f 12 (s - 12))) 0 10)]) (stk' := []) okVo_putSum lVo_33 dVo_seal_32 ha_g1 rfl rfl rfl rfl (Nat.le_of_ble_eq_true rfl) (Nat.le_of_ble_eq_true rfl) (by decide) (c_V_putSum ha_g1 hr_g1 (j := 10) (by omega)) rfl ?_
  obtain ⟨g2, eg2⟩ : ∃ gg_, gg_ = mn_set g1 r (.inl (0, 80, .inl (ps (ps f 8 (su f 12 (s - 12))) 10 (su (ps f 8 (su f 12 (s - 12))) 0 10)))) := ⟨_, rfl⟩
  refine mn_R.toG eg2 ?_
  have ha_g2 : mn_at g2 a (.inr (8, [.ref r, .int (nI s)])) := by rw [eg2]; exact ha_g1.off (mn_at.ne ha_g1 hr_g1 (fun h => by cases h))
  have hr_g2 : mn_at g2 r (.inl (0, 80, .inl (ps (ps f 8 (su f 12 (s - 12))) 10 (su (ps f 8 (su f 12 (s - 12))) 0 10)))) := by rw [eg2]; exact hr_g1.same
  exact mn_vret rfl dVo_seal_35 ⟨rfl, by rw [eg2, eg1, mn_set_set]; rfl⟩
set_option maxRecDepth 100000 in
theorem c_V_cutOff_l {E : mn_En} {a r s : Nat} {f : Nat → Int32} (hs2 : s ≤ 80) : ∀ (fl i : Nat) (g : mn_H), s / 2 ≤ i → i ≤ s → s - i < fl → mn_at g a (.inr (8, [.ref r, .int (nI s)])) → mn_at g r (.inl (0, 80, .inl (zr f (s / 2) i))) → mn_R E MVo_cutOff 1 22 0 0 7 [(0, .ref a), (1, .int (nI i))] [] g (mn_is none (mn_set g r (.inl (0, 80, .inl (zr f (s / 2) s))))) := by
  intro fl
  induction fl with
  | zero => intro i g h1 h2 h3 ha hr; exact absurd h3 (by omega)
  | succ fl ih =>
    intro i g h1 h2 h3 ha hr
    refine mn_iload_n 1 dVo_cutOff_7 rfl rfl ?_
    refine mn_aload_n 0 dVo_cutOff_8 rfl rfl ?_
    refine mn_get okVo 1 lVo_23 (by decide) ha rfl dVo_cutOff_9 ?_
    refine mn_icmp_ge 27 dVo_cutOff_12 (by decide) (fun c1 => ?_) (fun c1 => ?_)
    · have c1 := (nI_leI (a := s) (b := i) (by omega) (by omega)).mp c1
      exact mn_vret rfl dVo_cutOff_27 ⟨rfl, by rw [show zr f (s / 2) s = zr f (s / 2) i by rw [show i = s by omega]]; exact (mn_set_id hr).symm⟩
    · have c1 := mt (nI_leI (a := s) (b := i) (by omega) (by omega)).mpr c1
      refine mn_aload_n 0 dVo_cutOff_15 rfl rfl ?_
      refine mn_iload_n 1 dVo_cutOff_16 rfl rfl ?_
      refine mn_iconst (v := 0) dVo_cutOff_17 (by decide) ?_
      refine mn_cV (As := [.int (nI i), .int 0]) (stk' := []) okVo_put lVo_15 dVo_cutOff_18 ha rfl rfl rfl rfl (Nat.le_of_ble_eq_true rfl) (Nat.le_of_ble_eq_true rfl) (by decide) (c_V_put ha hr (j := i) (by omega)) rfl ?_
      obtain ⟨g2, eg2⟩ : ∃ gg_, gg_ = mn_set g r (.inl (0, 80, .inl (upd (zr f (s / 2) i) i 0))) := ⟨_, rfl⟩
      refine mn_R.toG eg2 ?_
      have ha_g2 : mn_at g2 a (.inr (8, [.ref r, .int (nI s)])) := by rw [eg2]; exact ha.off (mn_at.ne ha hr (fun h => by cases h))
      have hr_g2 : mn_at g2 r (.inl (0, 80, .inl (upd (zr f (s / 2) i) i 0))) := by rw [eg2]; exact hr.same
      refine mn_iinc (v := nI (i + 1)) (ls' := [(0, .ref a), (1, .int (nI (i + 1)))]) 1 dVo_cutOff_21 rfl (nI_add i 1) (by decide) rfl ?_
      refine mn_goto 7 dVo_cutOff_24 (by decide) ?_
      rw [zr_s f h1] at hr_g2
      refine (ih (i + 1) g2 (by omega) (by omega) (by omega) ha_g2 hr_g2).post (fun v g' hq => ⟨hq.1, ?_⟩)
      rw [hq.2, eg2, mn_set_set]
set_option maxRecDepth 100000 in
theorem c_V_cutOff {E : mn_En} {g : mn_H} {a r s : Nat} {f : Nat → Int32} (ha : mn_at g a (.inr (8, [.ref r, .int (nI s)]))) (hr : mn_at g r (.inl (0, 80, .inl f))) (hs2 : s ≤ 80) : mn_R E MVo_cutOff 1 22 0 0 0 [(0, .ref a)] [] g (mn_is none (mn_set g r (.inl (0, 80, .inl (zr f (s / 2) s))))) := by
  refine mn_aload_n 0 dVo_cutOff_0 rfl rfl ?_
  refine mn_get okVo 1 lVo_23 (by decide) ha rfl dVo_cutOff_1 ?_
  refine mn_iconst (v := 2) dVo_cutOff_4 (by decide) ?_
  refine mn_idiv (z := nI (s / 2)) dVo_cutOff_5 (nI_ne0 (n := 2) (by omega) (by omega)) (pk_div (a := s) (d := 2) (by omega) (by omega) (by omega)) ?_
  refine mn_istore_n (ls' := [(0, .ref a), (1, .int (nI (s / 2)))]) dVo_cutOff_6 rfl (by decide) rfl ?_
  have hr : mn_at g r (.inl (0, 80, .inl (zr f (s / 2) (s / 2)))) := by rw [zr_0]; exact hr
  exact c_V_cutOff_l hs2 (s - s / 2 + 1) (s / 2) g (by omega) (by omega) (by omega) ha hr
set_option maxRecDepth 100000 in
theorem c_V_become {E : mn_En} {g : mn_H} {a r s : Nat} {f : Nat → Int32} (ha : mn_at g a (.inr (8, [.ref r, .int (nI s)]))) (hr : mn_at g r (.inl (0, 80, .inl f))) {b q t : Nat} {e : Nat → Int32} (hb : mn_at g b (.inr (8, [.ref q, .int (nI t)]))) (hq : mn_at g q (.inl (0, 80, .inl e))) (hrq : r ≠ q) (hab : a ≠ b) : mn_R E MVo_become 1 26 0 0 0 [(0, .ref a), (1, .ref b)] [] g (mn_is none (mn_set (mn_set g r (.inl (0, 80, .inl (va_cpy e f 0 0 80)))) a (.inr (8, [.ref r, .int (nI t)])))) := by
  refine mn_aload_n 1 dVo_become_0 rfl rfl ?_
  refine mn_get okVo 0 lVo_9 (by decide) hb rfl dVo_become_1 ?_
  refine mn_iconst (v := 0) dVo_become_4 (by decide) ?_
  refine mn_aload_n 0 dVo_become_5 rfl rfl ?_
  refine mn_get okVo 0 lVo_9 (by decide) ha rfl dVo_become_6 ?_
  refine mn_iconst (v := 0) dVo_become_9 (by decide) ?_
  refine mn_bipush (v := 80) dVo_become_10 (by decide) ?_
  refine mn_copy lVo_36 ac_nat ac_st sys_ini rfl hq hr (by decide) (by decide) (by decide) (by decide) (by decide) (by decide) (by decide) (by decide) dVo_become_12 ?_
  obtain ⟨g1, eg1⟩ : ∃ gg_, gg_ = mn_set g r (.inl (0, 80, .inl (va_cpy e f 0 0 80))) := ⟨_, rfl⟩
  refine mn_R.toG eg1 ?_
  have ha_g1 : mn_at g1 a (.inr (8, [.ref r, .int (nI s)])) := by rw [eg1]; exact ha.off (mn_at.ne ha hr (fun h => by cases h))
  have hr_g1 : mn_at g1 r (.inl (0, 80, .inl (va_cpy e f 0 0 80))) := by rw [eg1]; exact hr.same
  have hb_g1 : mn_at g1 b (.inr (8, [.ref q, .int (nI t)])) := by rw [eg1]; exact hb.off (mn_at.ne hb hr (fun h => by cases h))
  have hq_g1 : mn_at g1 q (.inl (0, 80, .inl e)) := by rw [eg1]; exact hq.off (Ne.symm hrq)
  refine mn_aload_n 0 dVo_become_15 rfl rfl ?_
  refine mn_aload_n 1 dVo_become_16 rfl rfl ?_
  refine mn_get okVo 1 lVo_23 (by decide) hb_g1 rfl dVo_become_17 ?_
  refine mn_putf okVo 1 lVo_23 (by decide) rfl ha_g1 rfl rfl (Nat.le_of_ble_eq_true rfl) dVo_become_20 ?_
  obtain ⟨g2, eg2⟩ : ∃ gg_, gg_ = mn_set g1 a (.inr (8, [.ref r, .int (nI t)])) := ⟨_, rfl⟩
  refine mn_R.toG eg2 ?_
  have ha_g2 : mn_at g2 a (.inr (8, [.ref r, .int (nI t)])) := by rw [eg2]; exact ha_g1.same
  have hr_g2 : mn_at g2 r (.inl (0, 80, .inl (va_cpy e f 0 0 80))) := by rw [eg2]; exact hr_g1.off (mn_at.ne hr_g1 ha_g1 (fun h => by cases h))
  have hb_g2 : mn_at g2 b (.inr (8, [.ref q, .int (nI t)])) := by rw [eg2]; exact hb_g1.off (Ne.symm hab)
  have hq_g2 : mn_at g2 q (.inl (0, 80, .inl e)) := by rw [eg2]; exact hq_g1.off (mn_at.ne hq_g1 ha_g1 (fun h => by cases h))
  exact mn_vret rfl dVo_become_23 ⟨rfl, by rw [eg2, eg1]⟩
set_option maxRecDepth 100000 in
theorem c_V_same_l {E : mn_En} {g : mn_H} {a r s : Nat} {f : Nat → Int32} (ha : mn_at g a (.inr (8, [.ref r, .int (nI s)]))) (hr : mn_at g r (.inl (0, 80, .inl f))) {b q t : Nat} {e : Nat → Int32} (hb : mn_at g b (.inr (8, [.ref q, .int (nI t)]))) (hq : mn_at g q (.inl (0, 80, .inl e))) (hs2 : s ≤ 80) (hst : s = t) : ∀ (fl i : Nat), i ≤ s → s - i < fl → (∀ k, k < i → f k = e k) → mn_R E MVo_hasJustTheBytesOf 1 21 0 0 15 [(0, .ref a), (1, .ref b), (2, .int (nI i))] [] g (mn_is (some (.int (sameB s t f e))) g) := by
  intro fl
  induction fl with
  | zero => intro i h1 h2 h3; exact absurd h2 (by omega)
  | succ fl ih =>
    intro i h1 h2 h3
    refine mn_iload_n 2 dVo_hasJustTheBytesOf_15 rfl rfl ?_
    refine mn_aload_n 0 dVo_hasJustTheBytesOf_16 rfl rfl ?_
    refine mn_get okVo 1 lVo_23 (by decide) ha rfl dVo_hasJustTheBytesOf_17 ?_
    refine mn_icmp_ge 44 dVo_hasJustTheBytesOf_20 (by decide) (fun c1 => ?_) (fun c1 => ?_)
    · have c1 := (nI_leI (a := s) (b := i) (by omega) (by omega)).mp c1
      refine mn_iconst (v := 1) dVo_hasJustTheBytesOf_44 (by decide) ?_
      exact mn_zret rfl rfl dVo_hasJustTheBytesOf_45 ⟨by unfold sameB; rw [if_pos ⟨hst, fun k hk => h3 k (by omega)⟩], rfl⟩
    · have c1 := mt (nI_leI (a := s) (b := i) (by omega) (by omega)).mpr c1
      refine mn_aload_n 0 dVo_hasJustTheBytesOf_23 rfl rfl ?_
      refine mn_iload_n 2 dVo_hasJustTheBytesOf_24 rfl rfl ?_
      refine mn_cV (As := [.int (nI i)]) (stk' := [.int (f i)]) okVo_byteAt lVo_19 dVo_hasJustTheBytesOf_25 ha rfl rfl rfl rfl (Nat.le_of_ble_eq_true rfl) (Nat.le_of_ble_eq_true rfl) (by decide) (c_V_byteAt ha hr (j := i) (by omega)) rfl ?_
      refine mn_aload_n 1 dVo_hasJustTheBytesOf_28 rfl rfl ?_
      refine mn_iload_n 2 dVo_hasJustTheBytesOf_29 rfl rfl ?_
      refine mn_cV (As := [.int (nI i)]) (stk' := [.int (e i), .int (f i)]) okVo_byteAt lVo_19 dVo_hasJustTheBytesOf_30 hb rfl rfl rfl rfl (Nat.le_of_ble_eq_true rfl) (Nat.le_of_ble_eq_true rfl) (by decide) (c_V_byteAt hb hq (j := i) (by omega)) rfl ?_
      refine mn_icmp_eq 38 dVo_hasJustTheBytesOf_33 (by decide) (fun c2 => ?_) (fun c2 => ?_)
      · refine mn_iinc (v := nI (i + 1)) (ls' := [(0, .ref a), (1, .ref b), (2, .int (nI (i + 1)))]) 2 dVo_hasJustTheBytesOf_38 rfl (nI_add i 1) (by decide) rfl ?_
        refine mn_goto 15 dVo_hasJustTheBytesOf_41 (by decide) ?_
        exact ih (i + 1) (by omega) (by omega) (fun k hk => by rcases Nat.lt_or_ge k i with h | h; exact h3 k h; rw [show k = i by omega]; exact c2)
      · refine mn_iconst (v := 0) dVo_hasJustTheBytesOf_36 (by decide) ?_
        exact mn_zret rfl rfl dVo_hasJustTheBytesOf_37 ⟨by unfold sameB; rw [if_neg (fun h => c2 (h.2 i (by omega)))], rfl⟩
set_option maxRecDepth 100000 in
theorem c_V_same {E : mn_En} {g : mn_H} {a r s : Nat} {f : Nat → Int32} (ha : mn_at g a (.inr (8, [.ref r, .int (nI s)]))) (hr : mn_at g r (.inl (0, 80, .inl f))) {b q t : Nat} {e : Nat → Int32} (hb : mn_at g b (.inr (8, [.ref q, .int (nI t)]))) (hq : mn_at g q (.inl (0, 80, .inl e))) (hs2 : s ≤ 80) (ht2 : t ≤ 80) : mn_R E MVo_hasJustTheBytesOf 1 21 0 0 0 [(0, .ref a), (1, .ref b)] [] g (mn_is (some (.int (sameB s t f e))) g) := by
  refine mn_aload_n 0 dVo_hasJustTheBytesOf_0 rfl rfl ?_
  refine mn_get okVo 1 lVo_23 (by decide) ha rfl dVo_hasJustTheBytesOf_1 ?_
  refine mn_aload_n 1 dVo_hasJustTheBytesOf_4 rfl rfl ?_
  refine mn_get okVo 1 lVo_23 (by decide) hb rfl dVo_hasJustTheBytesOf_5 ?_
  refine mn_icmp_eq 13 dVo_hasJustTheBytesOf_8 (by decide) (fun c1 => ?_) (fun c1 => ?_)
  · have c1 := (nI_eq (a := s) (b := t) (by omega) (by omega)).mp c1
    refine mn_iconst (v := 0) dVo_hasJustTheBytesOf_13 (by decide) ?_
    refine mn_istore_n (ls' := [(0, .ref a), (1, .ref b), (2, .int 0)]) dVo_hasJustTheBytesOf_14 rfl (by decide) rfl ?_
    exact c_V_same_l ha hr hb hq hs2 c1 (s + 1) 0 (by omega) (by omega) (fun k hk => absurd hk (by omega))
  · have c1 := mt (nI_eq (a := s) (b := t) (by omega) (by omega)).mpr c1
    refine mn_iconst (v := 0) dVo_hasJustTheBytesOf_11 (by decide) ?_
    exact mn_zret rfl rfl dVo_hasJustTheBytesOf_12 ⟨by unfold sameB; rw [if_neg (fun h => c1 h.1)], rfl⟩
set_option maxRecDepth 100000 in
theorem c_V_hasHead {E : mn_En} {g : mn_H} {a r s : Nat} {f : Nat → Int32} (ha : mn_at g a (.inr (8, [.ref r, .int (nI s)]))) (hr : mn_at g r (.inl (0, 80, .inl f))) (hs2 : s ≤ 80) : mn_R E MVo_hasHead 2 45 0 0 0 [(0, .ref a)] [] g (mn_is (some (.int (hh f s))) g) := by
  refine mn_aload_n 0 dVo_hasHead_0 rfl rfl ?_
  refine mn_iconst (v := 4) dVo_hasHead_1 (by decide) ?_
  refine mn_cV (As := [.int 4]) (stk' := [.int (f 4)]) okVo_byteAt lVo_19 dVo_hasHead_2 ha rfl rfl rfl rfl (Nat.le_of_ble_eq_true rfl) (Nat.le_of_ble_eq_true rfl) (by decide) (c_V_byteAt ha hr (j := 4) (by omega)) rfl ?_
  refine mn_istore_n (ls' := [(0, .ref a), (1, .int (f 4))]) dVo_hasHead_5 rfl (by decide) rfl ?_
  refine mn_aload_n 0 dVo_hasHead_6 rfl rfl ?_
  refine mn_iconst (v := 5) dVo_hasHead_7 (by decide) ?_
  refine mn_cV (As := [.int 5]) (stk' := [.int (f 5)]) okVo_byteAt lVo_19 dVo_hasHead_8 ha rfl rfl rfl rfl (Nat.le_of_ble_eq_true rfl) (Nat.le_of_ble_eq_true rfl) (by decide) (c_V_byteAt ha hr (j := 5) (by omega)) rfl ?_
  refine mn_istore_n (ls' := [(0, .ref a), (1, .int (f 4)), (2, .int (f 5))]) dVo_hasHead_11 rfl (by decide) rfl ?_
  refine mn_aload_n 0 dVo_hasHead_12 rfl rfl ?_
  refine mn_get okVo 1 lVo_23 (by decide) ha rfl dVo_hasHead_13 ?_
  refine mn_bipush (v := 12) dVo_hasHead_16 (by decide) ?_
  refine mn_icmp_lt 91 dVo_hasHead_18 (by decide) (fun c1 => ?_) (fun c1 => ?_)
  · have c1 := (nI_ltI (a := s) (b := 12) (by omega) (by omega)).mp c1
    refine mn_iconst (v := 0) dVo_hasHead_91 (by decide) ?_
    exact mn_zret rfl rfl dVo_hasHead_92 ⟨by rw [hh_neg (fun h => h.1 c1)], rfl⟩
  · have c1 := mt (nI_ltI (a := s) (b := 12) (by omega) (by omega)).mpr c1
    refine mn_aload_n 0 dVo_hasHead_21 rfl rfl ?_
    refine mn_iconst (v := 0) dVo_hasHead_22 (by decide) ?_
    refine mn_cV (As := [.int 0]) (stk' := [.int (f 0)]) okVo_byteAt lVo_19 dVo_hasHead_23 ha rfl rfl rfl rfl (Nat.le_of_ble_eq_true rfl) (Nat.le_of_ble_eq_true rfl) (by decide) (c_V_byteAt ha hr (j := 0) (by omega)) rfl ?_
    refine mn_bipush (v := 86) dVo_hasHead_26 (by decide) ?_
    refine mn_icmp_ne 91 dVo_hasHead_28 (by decide) (fun c2 => ?_) (fun c2 => ?_)
    · refine mn_iconst (v := 0) dVo_hasHead_91 (by decide) ?_
      exact mn_zret rfl rfl dVo_hasHead_92 ⟨by rw [hh_neg (fun h => c2 (h.2.1))], rfl⟩
    · refine mn_aload_n 0 dVo_hasHead_31 rfl rfl ?_
      refine mn_iconst (v := 1) dVo_hasHead_32 (by decide) ?_
      refine mn_cV (As := [.int 1]) (stk' := [.int (f 1)]) okVo_byteAt lVo_19 dVo_hasHead_33 ha rfl rfl rfl rfl (Nat.le_of_ble_eq_true rfl) (Nat.le_of_ble_eq_true rfl) (by decide) (c_V_byteAt ha hr (j := 1) (by omega)) rfl ?_
      refine mn_bipush (v := 83) dVo_hasHead_36 (by decide) ?_
      refine mn_icmp_ne 91 dVo_hasHead_38 (by decide) (fun c3 => ?_) (fun c3 => ?_)
      · refine mn_iconst (v := 0) dVo_hasHead_91 (by decide) ?_
        exact mn_zret rfl rfl dVo_hasHead_92 ⟨by rw [hh_neg (fun h => c3 (h.2.2.1))], rfl⟩
      · refine mn_aload_n 0 dVo_hasHead_41 rfl rfl ?_
        refine mn_bipush (v := 10) dVo_hasHead_42 (by decide) ?_
        refine mn_cV (As := [.int 10]) (stk' := [.int (sa f 10)]) okVo_sumAt lVo_42 dVo_hasHead_44 ha rfl rfl rfl rfl (Nat.le_of_ble_eq_true rfl) (Nat.le_of_ble_eq_true rfl) (by decide) (c_V_sumAt ha hr (j := 10) (by omega)) rfl ?_
        refine mn_aload_n 0 dVo_hasHead_47 rfl rfl ?_
        refine mn_get okVo 0 lVo_9 (by decide) ha rfl dVo_hasHead_48 ?_
        refine mn_iconst (v := 0) dVo_hasHead_51 (by decide) ?_
        refine mn_bipush (v := 10) dVo_hasHead_52 (by decide) ?_
        refine mn_cS (As := [.ref r, .int 0, .int 10]) (stk' := [.int (su f 0 10), .int (sa f 10)]) okBy_sum lVo_27 dVo_hasHead_54 rfl rfl (Nat.le_of_ble_eq_true rfl) (Nat.le_of_ble_eq_true rfl) (by decide) (c_sum hr (a := 0) (b := 10) (by omega) (by omega) (by omega)) rfl ?_
        refine mn_icmp_ne 91 dVo_hasHead_57 (by decide) (fun c4 => ?_) (fun c4 => ?_)
        · refine mn_iconst (v := 0) dVo_hasHead_91 (by decide) ?_
          exact mn_zret rfl rfl dVo_hasHead_92 ⟨by rw [hh_neg (fun h => c4 (h.2.2.2.1))], rfl⟩
        · refine mn_iload_n 1 dVo_hasHead_60 rfl rfl ?_
          refine mn_iconst (v := 1) dVo_hasHead_61 (by decide) ?_
          refine mn_icmp_lt 91 dVo_hasHead_62 (by decide) (fun c5 => ?_) (fun c5 => ?_)
          · refine mn_iconst (v := 0) dVo_hasHead_91 (by decide) ?_
            exact mn_zret rfl rfl dVo_hasHead_92 ⟨by rw [hh_neg (fun h => h.2.2.2.2.1 c5)], rfl⟩
          · refine mn_iload_n 1 dVo_hasHead_65 rfl rfl ?_
            refine mn_bipush (v := 60) dVo_hasHead_66 (by decide) ?_
            refine mn_icmp_gt 91 dVo_hasHead_68 (by decide) (fun c6 => ?_) (fun c6 => ?_)
            · refine mn_iconst (v := 0) dVo_hasHead_91 (by decide) ?_
              exact mn_zret rfl rfl dVo_hasHead_92 ⟨by rw [hh_neg (fun h => h.2.2.2.2.2.1 c6)], rfl⟩
            · refine mn_iload_n 2 dVo_hasHead_71 rfl rfl ?_
              refine mn_iconst (v := 3) dVo_hasHead_72 (by decide) ?_
              refine mn_icmp_gt 91 dVo_hasHead_73 (by decide) (fun c7 => ?_) (fun c7 => ?_)
              · refine mn_iconst (v := 0) dVo_hasHead_91 (by decide) ?_
                exact mn_zret rfl rfl dVo_hasHead_92 ⟨by rw [hh_neg (fun h => h.2.2.2.2.2.2.1 c7)], rfl⟩
              · refine mn_aload_n 0 dVo_hasHead_76 rfl rfl ?_
                refine mn_iconst (v := 3) dVo_hasHead_77 (by decide) ?_
                refine mn_cV (As := [.int 3]) (stk' := [.int (f 3)]) okVo_byteAt lVo_19 dVo_hasHead_78 ha rfl rfl rfl rfl (Nat.le_of_ble_eq_true rfl) (Nat.le_of_ble_eq_true rfl) (by decide) (c_V_byteAt ha hr (j := 3) (by omega)) rfl ?_
                refine mn_iload_n 1 dVo_hasHead_81 rfl rfl ?_
                refine mn_iload_n 2 dVo_hasHead_82 rfl rfl ?_
                refine mn_iadd (z := (f 4) + (f 5)) dVo_hasHead_83 rfl ?_
                refine mn_icmp_ge 91 dVo_hasHead_84 (by decide) (fun c8 => ?_) (fun c8 => ?_)
                · refine mn_iconst (v := 0) dVo_hasHead_91 (by decide) ?_
                  exact mn_zret rfl rfl dVo_hasHead_92 ⟨by rw [hh_neg (fun h => h.2.2.2.2.2.2.2 c8)], rfl⟩
                · refine mn_iconst (v := 1) dVo_hasHead_87 (by decide) ?_
                  refine mn_goto 92 dVo_hasHead_88 (by decide) ?_
                  exact mn_zret rfl rfl dVo_hasHead_92 ⟨by rw [hh_pos ⟨c1, c2, c3, c4, c5, c6, c7, c8⟩], rfl⟩
set_option maxRecDepth 100000 in
theorem c_V_state {E : mn_En} {g : mn_H} {a r s : Nat} {f : Nat → Int32} (ha : mn_at g a (.inr (8, [.ref r, .int (nI s)]))) (hr : mn_at g r (.inl (0, 80, .inl f))) (hs2 : s ≤ 80) : mn_R E MVo_state 3 68 0 0 0 [(0, .ref a)] [] g (mn_is (some (.int (stV f s))) g) := by
  refine mn_aload_n 0 dVo_state_0 rfl rfl ?_
  refine mn_get okVo 1 lVo_23 (by decide) ha rfl dVo_state_1 ?_
  refine mn_if_ne 9 dVo_state_4 (by decide) (fun c1 => ?_) (fun c1 => ?_)
  · have c1 := mt (nI_eq (a := s) (b := 0) (by omega) (by omega)).mpr c1
    refine mn_aload_n 0 dVo_state_9 rfl rfl ?_
    refine mn_cV (As := []) (stk' := [.int (hh f s)]) okVo_hasHead lVo_45 dVo_state_10 ha rfl rfl rfl rfl (Nat.le_of_ble_eq_true rfl) (Nat.le_of_ble_eq_true rfl) (by decide) (c_V_hasHead ha hr (by omega)) rfl ?_
    refine mn_if_ne 18 dVo_state_13 (by decide) (fun c2 => ?_) (fun c2 => ?_)
    · have h12 : 12 ≤ s := by have := (hh_ge c2).1; omega
      refine mn_aload_n 0 dVo_state_18 rfl rfl ?_
      refine mn_bipush (v := 8) dVo_state_19 (by decide) ?_
      refine mn_cV (As := [.int 8]) (stk' := [.int (sa f 8)]) okVo_sumAt lVo_42 dVo_state_21 ha rfl rfl rfl rfl (Nat.le_of_ble_eq_true rfl) (Nat.le_of_ble_eq_true rfl) (by decide) (c_V_sumAt ha hr (j := 8) (by omega)) rfl ?_
      refine mn_aload_n 0 dVo_state_24 rfl rfl ?_
      refine mn_get okVo 0 lVo_9 (by decide) ha rfl dVo_state_25 ?_
      refine mn_bipush (v := 12) dVo_state_28 (by decide) ?_
      refine mn_aload_n 0 dVo_state_30 rfl rfl ?_
      refine mn_get okVo 1 lVo_23 (by decide) ha rfl dVo_state_31 ?_
      refine mn_cS (As := [.ref r, .int 12, .int (nI s)]) (stk' := [.int (su f 12 (s - 12)), .int (sa f 8)]) okBy_sum lVo_27 dVo_state_34 rfl rfl (Nat.le_of_ble_eq_true rfl) (Nat.le_of_ble_eq_true rfl) (by decide) (c_sum hr (a := 12) (b := s) (by omega) (by omega) (by omega)) rfl ?_
      refine mn_icmp_ne 44 dVo_state_37 (by decide) (fun c3 => ?_) (fun c3 => ?_)
      · refine mn_iconst (v := 2) dVo_state_44 (by decide) ?_
        exact mn_iret rfl dVo_state_45 ⟨by unfold stV; rw [if_neg c1, if_neg c2, if_neg c3], rfl⟩
      · refine mn_iconst (v := 1) dVo_state_40 (by decide) ?_
        refine mn_goto 45 dVo_state_41 (by decide) ?_
        exact mn_iret rfl dVo_state_45 ⟨by unfold stV; rw [if_neg c1, if_neg c2, if_pos c3], rfl⟩
    · refine mn_iconst (v := 3) dVo_state_16 (by decide) ?_
      exact mn_iret rfl dVo_state_17 ⟨by unfold stV; rw [if_neg c1, if_pos c2], rfl⟩
  · have c1 := (nI_eq (a := s) (b := 0) (by omega) (by omega)).mp c1
    refine mn_iconst (v := 0) dVo_state_7 (by decide) ?_
    exact mn_iret rfl dVo_state_8 ⟨by unfold stV; rw [if_pos c1], rfl⟩
set_option maxRecDepth 100000 in
theorem c_V_isGoodOf {E : mn_En} {g : mn_H} {a r s : Nat} {f : Nat → Int32} (ha : mn_at g a (.inr (8, [.ref r, .int (nI s)]))) (hr : mn_at g r (.inl (0, 80, .inl f))) (hs2 : s ≤ 80) {x : Int32} : mn_R E MVo_isGoodOf 4 91 0 0 0 [(0, .ref a), (1, .int x)] [] g (mn_is (some (.int (gdV f s x))) g) := by
  refine mn_aload_n 0 dVo_isGoodOf_0 rfl rfl ?_
  refine mn_iconst (v := 2) dVo_isGoodOf_1 (by decide) ?_
  refine mn_cV (As := [.int 2]) (stk' := [.int (f 2)]) okVo_byteAt lVo_19 dVo_isGoodOf_2 ha rfl rfl rfl rfl (Nat.le_of_ble_eq_true rfl) (Nat.le_of_ble_eq_true rfl) (by decide) (c_V_byteAt ha hr (j := 2) (by omega)) rfl ?_
  refine mn_iload_n 1 dVo_isGoodOf_5 rfl rfl ?_
  refine mn_icmp_ne 21 dVo_isGoodOf_6 (by decide) (fun c1 => ?_) (fun c1 => ?_)
  · refine mn_iconst (v := 0) dVo_isGoodOf_21 (by decide) ?_
    exact mn_zret rfl rfl dVo_isGoodOf_22 ⟨by unfold gdV; rw [if_neg (fun h => c1 h.1)], rfl⟩
  · refine mn_aload_n 0 dVo_isGoodOf_9 rfl rfl ?_
    refine mn_cV (As := []) (stk' := [.int (stV f s)]) okVo_state lVo_49 dVo_isGoodOf_10 ha rfl rfl rfl rfl (Nat.le_of_ble_eq_true rfl) (Nat.le_of_ble_eq_true rfl) (by decide) (c_V_state ha hr (by omega)) rfl ?_
    refine mn_iconst (v := 1) dVo_isGoodOf_13 (by decide) ?_
    refine mn_icmp_ne 21 dVo_isGoodOf_14 (by decide) (fun c2 => ?_) (fun c2 => ?_)
    · refine mn_iconst (v := 0) dVo_isGoodOf_21 (by decide) ?_
      exact mn_zret rfl rfl dVo_isGoodOf_22 ⟨by unfold gdV; rw [if_neg (fun h => c2 h.2)], rfl⟩
    · refine mn_iconst (v := 1) dVo_isGoodOf_17 (by decide) ?_
      refine mn_goto 22 dVo_isGoodOf_18 (by decide) ?_
      exact mn_zret rfl rfl dVo_isGoodOf_22 ⟨by unfold gdV; rw [if_pos ⟨c1, c2⟩], rfl⟩
set_option maxRecDepth 100000 in
theorem c_V_wm {E : mn_En} {g : mn_H} {a r s : Nat} {f : Nat → Int32} (ha : mn_at g a (.inr (8, [.ref r, .int (nI s)]))) (hr : mn_at g r (.inl (0, 80, .inl f))) {b q t : Nat} {e : Nat → Int32} (hb : mn_at g b (.inr (8, [.ref q, .int (nI t)]))) (hq : mn_at g q (.inl (0, 80, .inl e))) (hs2 : s ≤ 80) (ht2 : t ≤ 80) : mn_R E MVo_isAsWideAndManyAs 1 21 0 0 0 [(0, .ref a), (1, .ref b)] [] g (mn_is (some (.int (wmV s t f e))) g) := by
  refine mn_aload_n 0 dVo_isAsWideAndManyAs_0 rfl rfl ?_
  refine mn_get okVo 1 lVo_23 (by decide) ha rfl dVo_isAsWideAndManyAs_1 ?_
  refine mn_aload_n 1 dVo_isAsWideAndManyAs_4 rfl rfl ?_
  refine mn_get okVo 1 lVo_23 (by decide) hb rfl dVo_isAsWideAndManyAs_5 ?_
  refine mn_icmp_ne 41 dVo_isAsWideAndManyAs_8 (by decide) (fun c1 => ?_) (fun c1 => ?_)
  · have c1 := mt (nI_eq (a := s) (b := t) (by omega) (by omega)).mpr c1
    refine mn_iconst (v := 0) dVo_isAsWideAndManyAs_41 (by decide) ?_
    exact mn_zret rfl rfl dVo_isAsWideAndManyAs_42 ⟨by unfold wmV; rw [if_neg (fun h => c1 h.1)], rfl⟩
  · have c1 := (nI_eq (a := s) (b := t) (by omega) (by omega)).mp c1
    refine mn_aload_n 0 dVo_isAsWideAndManyAs_11 rfl rfl ?_
    refine mn_iconst (v := 4) dVo_isAsWideAndManyAs_12 (by decide) ?_
    refine mn_cV (As := [.int 4]) (stk' := [.int (f 4)]) okVo_byteAt lVo_19 dVo_isAsWideAndManyAs_13 ha rfl rfl rfl rfl (Nat.le_of_ble_eq_true rfl) (Nat.le_of_ble_eq_true rfl) (by decide) (c_V_byteAt ha hr (j := 4) (by omega)) rfl ?_
    refine mn_aload_n 1 dVo_isAsWideAndManyAs_16 rfl rfl ?_
    refine mn_iconst (v := 4) dVo_isAsWideAndManyAs_17 (by decide) ?_
    refine mn_cV (As := [.int 4]) (stk' := [.int (e 4), .int (f 4)]) okVo_byteAt lVo_19 dVo_isAsWideAndManyAs_18 hb rfl rfl rfl rfl (Nat.le_of_ble_eq_true rfl) (Nat.le_of_ble_eq_true rfl) (by decide) (c_V_byteAt hb hq (j := 4) (by omega)) rfl ?_
    refine mn_icmp_ne 41 dVo_isAsWideAndManyAs_21 (by decide) (fun c2 => ?_) (fun c2 => ?_)
    · refine mn_iconst (v := 0) dVo_isAsWideAndManyAs_41 (by decide) ?_
      exact mn_zret rfl rfl dVo_isAsWideAndManyAs_42 ⟨by unfold wmV; rw [if_neg (fun h => c2 h.2.1)], rfl⟩
    · refine mn_aload_n 0 dVo_isAsWideAndManyAs_24 rfl rfl ?_
      refine mn_iconst (v := 5) dVo_isAsWideAndManyAs_25 (by decide) ?_
      refine mn_cV (As := [.int 5]) (stk' := [.int (f 5)]) okVo_byteAt lVo_19 dVo_isAsWideAndManyAs_26 ha rfl rfl rfl rfl (Nat.le_of_ble_eq_true rfl) (Nat.le_of_ble_eq_true rfl) (by decide) (c_V_byteAt ha hr (j := 5) (by omega)) rfl ?_
      refine mn_aload_n 1 dVo_isAsWideAndManyAs_29 rfl rfl ?_
      refine mn_iconst (v := 5) dVo_isAsWideAndManyAs_30 (by decide) ?_
      refine mn_cV (As := [.int 5]) (stk' := [.int (e 5), .int (f 5)]) okVo_byteAt lVo_19 dVo_isAsWideAndManyAs_31 hb rfl rfl rfl rfl (Nat.le_of_ble_eq_true rfl) (Nat.le_of_ble_eq_true rfl) (by decide) (c_V_byteAt hb hq (j := 5) (by omega)) rfl ?_
      refine mn_icmp_ne 41 dVo_isAsWideAndManyAs_34 (by decide) (fun c3 => ?_) (fun c3 => ?_)
      · refine mn_iconst (v := 0) dVo_isAsWideAndManyAs_41 (by decide) ?_
        exact mn_zret rfl rfl dVo_isAsWideAndManyAs_42 ⟨by unfold wmV; rw [if_neg (fun h => c3 h.2.2)], rfl⟩
      · refine mn_iconst (v := 1) dVo_isAsWideAndManyAs_37 (by decide) ?_
        refine mn_goto 42 dVo_isAsWideAndManyAs_38 (by decide) ?_
        exact mn_zret rfl rfl dVo_isAsWideAndManyAs_42 ⟨by unfold wmV; rw [if_pos ⟨c1, c2, c3⟩], rfl⟩
