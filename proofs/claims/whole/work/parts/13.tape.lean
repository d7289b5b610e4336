set_option maxRecDepth 100000 in
theorem c_T_add {E : mn_En} {g : mn_H} {a l : Nat} {f : Nat → Int32} (ha : mn_at g a (.inr (7, [.ref (a + 1), .int (nI l)]))) (hr : mn_at g (a + 1) (.inl (0, 60, .inl f))) (hl : l < 60) {x : Int32} : mn_R E MTa_add 0 0 0 0 0 [(0, .ref a), (1, .int x)] [] g (fun v g' => v = none ∧ mn_fr (fun q => q = a ∨ q = a + 1) g g' ∧ mn_at g' a (.inr (7, [.ref (a + 1), .int (nI (l + 1))])) ∧ mn_at g' (a + 1) (.inl (0, 60, .inl (upd f l x)))) := by
  refine mn_aload_n 0 dTa_add_0 rfl rfl ?_
  refine mn_get okTa 1 lTa_19 (by decide) ha rfl dTa_add_1 ?_
  refine mn_if_lt 36 dTa_add_4 (by decide) (fun c1 => ?_) (fun c1 => ?_)
  · exact absurd c1 (nI_pos (by omega))
  · refine mn_aload_n 0 dTa_add_7 rfl rfl ?_
    refine mn_get okTa 1 lTa_19 (by decide) ha rfl dTa_add_8 ?_
    refine mn_bipush (v := 60) dTa_add_11 (by decide) ?_
    refine mn_icmp_ge 36 dTa_add_13 (by decide) (fun c2 => ?_) (fun c2 => ?_)
    · have c2 := (nI_leI (a := 60) (b := l) (by omega) (by omega)).mp c2
      exact mn_vret rfl dTa_add_36 (absurd hl (by omega))
    · have c2 := mt (nI_leI (a := 60) (b := l) (by omega) (by omega)).mpr c2
      refine mn_aload_n 0 dTa_add_16 rfl rfl ?_
      refine mn_get okTa 0 lTa_9 (by decide) ha rfl dTa_add_17 ?_
      refine mn_aload_n 0 dTa_add_20 rfl rfl ?_
      refine mn_get okTa 1 lTa_19 (by decide) ha rfl dTa_add_21 ?_
      refine mn_iload_n 1 dTa_add_24 rfl rfl ?_
      refine mn_iastN (j := l) hr rfl (by omega) (by omega) dTa_add_25 ?_
      obtain ⟨g3, eg3⟩ : ∃ gg_, gg_ = mn_set g (a + 1) (.inl (0, 60, .inl (upd f l x))) := ⟨_, rfl⟩
      refine mn_R.toG eg3 ?_
      have ha_g3 : mn_at g3 a (.inr (7, [.ref (a + 1), .int (nI l)])) := by rw [eg3]; exact ha.off (by omega)
      have hr_g3 : mn_at g3 (a + 1) (.inl (0, 60, .inl (upd f l x))) := by rw [eg3]; exact hr.same
      refine mn_aload_n 0 dTa_add_26 rfl rfl ?_
      refine mn_dup dTa_add_27 rfl ?_
      refine mn_get okTa 1 lTa_19 (by decide) ha_g3 rfl dTa_add_28 ?_
      refine mn_iconst (v := 1) dTa_add_31 (by decide) ?_
      refine mn_iadd (z := nI (l + 1)) dTa_add_32 (nI_add l 1) ?_
      refine mn_putf okTa 1 lTa_19 (by decide) rfl ha_g3 rfl rfl (Nat.le_of_ble_eq_true rfl) dTa_add_33 ?_
      obtain ⟨g4, eg4⟩ : ∃ gg_, gg_ = mn_set g3 a (.inr (7, [.ref (a + 1), .int (nI (l + 1))])) := ⟨_, rfl⟩
      refine mn_R.toG eg4 ?_
      have ha_g4 : mn_at g4 a (.inr (7, [.ref (a + 1), .int (nI (l + 1))])) := by rw [eg4]; exact ha_g3.same
      have hr_g4 : mn_at g4 (a + 1) (.inl (0, 60, .inl (upd f l x))) := by rw [eg4]; exact hr_g3.off (by omega)
      exact mn_vret rfl dTa_add_36 ⟨rfl, ((mn_fr.rf.set eg3 (by show (a + 1) = a ∨ (a + 1) = a + 1; omega)).set eg4 (by show a = a ∨ a = a + 1; omega)), ha_g4, hr_g4⟩
set_option maxRecDepth 100000 in
theorem c_T_addN {E : mn_En} {g : mn_H} {a l : Nat} {f : Nat → Int32} (ha : mn_at g a (.inr (7, [.ref (a + 1), .int (nI l)]))) (hr : mn_at g (a + 1) (.inl (0, 60, .inl f))) (hl : l + 4 ≤ 60) {x : Int32} : mn_R E MTa_addNumber 1 22 0 0 0 [(0, .ref a), (1, .int x)] [] g (fun v g' => v = none ∧ mn_fr (fun q => q = a ∨ q = a + 1) g g' ∧ mn_at g' a (.inr (7, [.ref (a + 1), .int (nI (l + 4))])) ∧ mn_at g' (a + 1) (.inl (0, 60, .inl (up4 f l x)))) := by
  refine mn_bipush (v := 24) dTa_addNumber_0 (by decide) ?_
  refine mn_istore_n (ls' := [(0, .ref a), (1, .int x), (2, .int 24)]) dTa_addNumber_2 rfl (by decide) rfl ?_
  refine mn_iload_n 2 dTa_addNumber_3 rfl rfl ?_
  refine mn_if_lt 24 dTa_addNumber_4 (by decide) (fun c1 => ?_) (fun c1 => ?_)
  · exact absurd c1 (by decide)
  · refine mn_aload_n 0 dTa_addNumber_7 rfl rfl ?_
    refine mn_iload_n 1 dTa_addNumber_8 rfl rfl ?_
    refine mn_iload_n 2 dTa_addNumber_9 rfl rfl ?_
    refine mn_iushr (z := (Int32.toUInt32 x >>> (Int32.toUInt32 24 &&& Int32.toUInt32 31)).toInt32) dTa_addNumber_10 rfl ?_
    refine mn_sipush (v := 255) dTa_addNumber_11 (by decide) ?_
    refine mn_iand (z := ((Int32.toUInt32 x >>> (Int32.toUInt32 24 &&& Int32.toUInt32 31)).toInt32) &&& 255) dTa_addNumber_14 rfl ?_
    refine mn_callV (As := [.int (((Int32.toUInt32 x >>> (Int32.toUInt32 24 &&& Int32.toUInt32 31)).toInt32) &&& 255)]) (st := []) okTa_add lTa_15 dTa_addNumber_15 ha rfl rfl rfl rfl (Nat.le_of_ble_eq_true rfl) (Nat.le_of_ble_eq_true rfl) (by decide) (c_T_add ha hr (by omega)) (fun v g2 hq => ?_)
    obtain ⟨rfl, fg2, ha_g2, hr_g2⟩ := hq
    show mn_R E MTa_addNumber 1 22 _ _ 18 [(0, .ref a), (1, .int x), (2, .int 24)] [] g2 _
    refine mn_iinc (v := 16) (ls' := [(0, .ref a), (1, .int x), (2, .int 16)]) 2 dTa_addNumber_18 rfl (by decide) (by decide) rfl ?_
    refine mn_goto 3 dTa_addNumber_21 (by decide) ?_
    refine mn_iload_n 2 dTa_addNumber_3 rfl rfl ?_
    refine mn_if_lt 24 dTa_addNumber_4 (by decide) (fun c3 => ?_) (fun c3 => ?_)
    · exact absurd c3 (by decide)
    · refine mn_aload_n 0 dTa_addNumber_7 rfl rfl ?_
      refine mn_iload_n 1 dTa_addNumber_8 rfl rfl ?_
      refine mn_iload_n 2 dTa_addNumber_9 rfl rfl ?_
      refine mn_iushr (z := (Int32.toUInt32 x >>> (Int32.toUInt32 16 &&& Int32.toUInt32 31)).toInt32) dTa_addNumber_10 rfl ?_
      refine mn_sipush (v := 255) dTa_addNumber_11 (by decide) ?_
      refine mn_iand (z := ((Int32.toUInt32 x >>> (Int32.toUInt32 16 &&& Int32.toUInt32 31)).toInt32) &&& 255) dTa_addNumber_14 rfl ?_
      refine mn_callV (As := [.int (((Int32.toUInt32 x >>> (Int32.toUInt32 16 &&& Int32.toUInt32 31)).toInt32) &&& 255)]) (st := []) okTa_add lTa_15 dTa_addNumber_15 ha_g2 rfl rfl rfl rfl (Nat.le_of_ble_eq_true rfl) (Nat.le_of_ble_eq_true rfl) (by decide) (c_T_add ha_g2 hr_g2 (by omega)) (fun v g4 hq => ?_)
      obtain ⟨rfl, fg4, ha_g4, hr_g4⟩ := hq
      show mn_R E MTa_addNumber 1 22 _ _ 18 [(0, .ref a), (1, .int x), (2, .int 16)] [] g4 _
      refine mn_iinc (v := 8) (ls' := [(0, .ref a), (1, .int x), (2, .int 8)]) 2 dTa_addNumber_18 rfl (by decide) (by decide) rfl ?_
      refine mn_goto 3 dTa_addNumber_21 (by decide) ?_
      refine mn_iload_n 2 dTa_addNumber_3 rfl rfl ?_
      refine mn_if_lt 24 dTa_addNumber_4 (by decide) (fun c5 => ?_) (fun c5 => ?_)
      · exact absurd c5 (by decide)
      · refine mn_aload_n 0 dTa_addNumber_7 rfl rfl ?_
        refine mn_iload_n 1 dTa_addNumber_8 rfl rfl ?_
        refine mn_iload_n 2 dTa_addNumber_9 rfl rfl ?_
        refine mn_iushr (z := (Int32.toUInt32 x >>> (Int32.toUInt32 8 &&& Int32.toUInt32 31)).toInt32) dTa_addNumber_10 rfl ?_
        refine mn_sipush (v := 255) dTa_addNumber_11 (by decide) ?_
        refine mn_iand (z := ((Int32.toUInt32 x >>> (Int32.toUInt32 8 &&& Int32.toUInt32 31)).toInt32) &&& 255) dTa_addNumber_14 rfl ?_
        refine mn_callV (As := [.int (((Int32.toUInt32 x >>> (Int32.toUInt32 8 &&& Int32.toUInt32 31)).toInt32) &&& 255)]) (st := []) okTa_add lTa_15 dTa_addNumber_15 ha_g4 rfl rfl rfl rfl (Nat.le_of_ble_eq_true rfl) (Nat.le_of_ble_eq_true rfl) (by decide) (c_T_add ha_g4 hr_g4 (by omega)) (fun v g6 hq => ?_)
        obtain ⟨rfl, fg6, ha_g6, hr_g6⟩ := hq
        show mn_R E MTa_addNumber 1 22 _ _ 18 [(0, .ref a), (1, .int x), (2, .int 8)] [] g6 _
        refine mn_iinc (v := 0) (ls' := [(0, .ref a), (1, .int x), (2, .int 0)]) 2 dTa_addNumber_18 rfl (by decide) (by decide) rfl ?_
        refine mn_goto 3 dTa_addNumber_21 (by decide) ?_
        refine mn_iload_n 2 dTa_addNumber_3 rfl rfl ?_
        refine mn_if_lt 24 dTa_addNumber_4 (by decide) (fun c7 => ?_) (fun c7 => ?_)
        · exact absurd c7 (by decide)
        · refine mn_aload_n 0 dTa_addNumber_7 rfl rfl ?_
          refine mn_iload_n 1 dTa_addNumber_8 rfl rfl ?_
          refine mn_iload_n 2 dTa_addNumber_9 rfl rfl ?_
          refine mn_iushr (z := (Int32.toUInt32 x >>> (Int32.toUInt32 0 &&& Int32.toUInt32 31)).toInt32) dTa_addNumber_10 rfl ?_
          refine mn_sipush (v := 255) dTa_addNumber_11 (by decide) ?_
          refine mn_iand (z := ((Int32.toUInt32 x >>> (Int32.toUInt32 0 &&& Int32.toUInt32 31)).toInt32) &&& 255) dTa_addNumber_14 rfl ?_
          refine mn_callV (As := [.int (((Int32.toUInt32 x >>> (Int32.toUInt32 0 &&& Int32.toUInt32 31)).toInt32) &&& 255)]) (st := []) okTa_add lTa_15 dTa_addNumber_15 ha_g6 rfl rfl rfl rfl (Nat.le_of_ble_eq_true rfl) (Nat.le_of_ble_eq_true rfl) (by decide) (c_T_add ha_g6 hr_g6 (by omega)) (fun v g8 hq => ?_)
          obtain ⟨rfl, fg8, ha_g8, hr_g8⟩ := hq
          show mn_R E MTa_addNumber 1 22 _ _ 18 [(0, .ref a), (1, .int x), (2, .int 0)] [] g8 _
          refine mn_iinc (v := (-8)) (ls' := [(0, .ref a), (1, .int x), (2, .int (-8))]) 2 dTa_addNumber_18 rfl (by decide) (by decide) rfl ?_
          refine mn_goto 3 dTa_addNumber_21 (by decide) ?_
          refine mn_iload_n 2 dTa_addNumber_3 rfl rfl ?_
          refine mn_if_lt 24 dTa_addNumber_4 (by decide) (fun c9 => ?_) (fun c9 => ?_)
          · exact mn_vret rfl dTa_addNumber_24 ⟨rfl, ((((mn_fr.rf.tr (fg2.mo (fun q h => by have h9 : q = a ∨ q = a + 1 := h; show q = a ∨ q = a + 1; omega))).tr (fg4.mo (fun q h => by have h9 : q = a ∨ q = a + 1 := h; show q = a ∨ q = a + 1; omega))).tr (fg6.mo (fun q h => by have h9 : q = a ∨ q = a + 1 := h; show q = a ∨ q = a + 1; omega))).tr (fg8.mo (fun q h => by have h9 : q = a ∨ q = a + 1 := h; show q = a ∨ q = a + 1; omega))), ha_g8, hr_g8⟩
          · exact absurd c9 (by decide)
set_option maxRecDepth 100000 in
theorem c_T_byteAt {E : mn_En} {g : mn_H} {a l : Nat} {f : Nat → Int32} (ha : mn_at g a (.inr (7, [.ref (a + 1), .int (nI l)]))) (hr : mn_at g (a + 1) (.inl (0, 60, .inl f))) {j : Nat} (hj : j < 60) : mn_R E MTa_byteAt 0 0 0 0 0 [(0, .ref a), (1, .int (nI j))] [] g (mn_is (some (.int (f j))) g) := by
  refine mn_iload_n 1 dTa_byteAt_0 rfl rfl ?_
  refine mn_if_lt 10 dTa_byteAt_1 (by decide) (fun c1 => ?_) (fun c1 => ?_)
  · exact absurd c1 (nI_pos (by omega))
  · refine mn_iload_n 1 dTa_byteAt_4 rfl rfl ?_
    refine mn_bipush (v := 60) dTa_byteAt_5 (by decide) ?_
    refine mn_icmp_lt 14 dTa_byteAt_7 (by decide) (fun c2 => ?_) (fun c2 => ?_)
    · have c2 := (nI_ltI (a := j) (b := 60) (by omega) (by omega)).mp c2
      refine mn_aload_n 0 dTa_byteAt_14 rfl rfl ?_
      refine mn_get okTa 0 lTa_9 (by decide) ha rfl dTa_byteAt_15 ?_
      refine mn_iload_n 1 dTa_byteAt_18 rfl rfl ?_
      refine mn_ialdN (j := j) hr rfl (by omega) (by omega) dTa_byteAt_19 ?_
      exact mn_iret rfl dTa_byteAt_20 ⟨rfl, rfl⟩
    · have c2 := mt (nI_ltI (a := j) (b := 60) (by omega) (by omega)).mpr c2
      refine mn_iconst (v := 0) dTa_byteAt_10 (by decide) ?_
      refine mn_goto 20 dTa_byteAt_11 (by decide) ?_
      exact mn_iret rfl dTa_byteAt_20 (absurd hj (by omega))
set_option maxRecDepth 100000 in
theorem c_T_sum {E : mn_En} {g : mn_H} {a l : Nat} {f : Nat → Int32} (ha : mn_at g a (.inr (7, [.ref (a + 1), .int (nI l)]))) (hr : mn_at g (a + 1) (.inl (0, 60, .inl f))) (hl : l ≤ 60) : mn_R E MTa_sum 2 45 0 0 0 [(0, .ref a)] [] g (mn_is (some (.int (su f 0 l))) g) := by
  refine mn_aload_n 0 dTa_sum_0 rfl rfl ?_
  refine mn_get okTa 0 lTa_9 (by decide) ha rfl dTa_sum_1 ?_
  refine mn_iconst (v := 0) dTa_sum_4 (by decide) ?_
  refine mn_aload_n 0 dTa_sum_5 rfl rfl ?_
  refine mn_get okTa 1 lTa_19 (by decide) ha rfl dTa_sum_6 ?_
  refine mn_cS (As := [.ref (a + 1), .int 0, .int (nI l)]) (stk' := [.int (su f 0 l)]) okBy_sum lTa_23 dTa_sum_9 rfl rfl (Nat.le_of_ble_eq_true rfl) (Nat.le_of_ble_eq_true rfl) (by decide) (c_sum hr (a := 0) (b := l) (by omega) (by omega) (by omega)) rfl ?_
  exact mn_iret rfl dTa_sum_12 ⟨rfl, rfl⟩
set_option maxRecDepth 100000 in
theorem c_R_width {E : mn_En} {g : mn_H} {a sz rp st : Nat} (ha : mn_at g a (.inr (4, [.int (nI sz), .int (nI rp), .int (nI st)]))) (hs : 20 ≤ sz) : mn_R E MRu_width 0 0 0 0 0 [(0, .ref a)] [] g (mn_is (some (.int (nI (sz - 12)))) g) := by
  refine mn_aload_n 0 dRu_width_0 rfl rfl ?_
  refine mn_get okRu 0 lRu_9 (by decide) ha rfl dRu_width_1 ?_
  refine mn_bipush (v := 12) dRu_width_4 (by decide) ?_
  refine mn_isub (z := nI (sz - 12)) dRu_width_6 (pk_sub (a := sz) (b := 12) (by omega)) ?_
  exact mn_iret rfl dRu_width_7 ⟨rfl, rfl⟩
set_option maxRecDepth 100000 in
theorem c_R_changeSize {E : mn_En} {g : mn_H} {a sz rp st : Nat} (ha : mn_at g a (.inr (4, [.int (nI sz), .int (nI rp), .int (nI st)]))) {k : Nat} (hk : 20 ≤ k) (hk2 : k ≤ 80) : mn_R E MRu_changeSize 0 0 0 0 0 [(0, .ref a), (1, .int (nI k))] [] g (fun v g' => v = some (.int (nI sz)) ∧ mn_fr (fun q => q = a) g g' ∧ mn_at g' a (.inr (4, [.int (nI k), .int (nI rp), .int (nI st)]))) := by
  refine mn_iload_n 1 dRu_changeSize_0 rfl rfl ?_
  refine mn_bipush (v := 20) dRu_changeSize_1 (by decide) ?_
  refine mn_icmp_lt 12 dRu_changeSize_3 (by decide) (fun c1 => ?_) (fun c1 => ?_)
  · have c1 := (nI_ltI (a := k) (b := 20) (by omega) (by omega)).mp c1
    refine mn_iconst (v := -1) dRu_changeSize_12 (by decide) ?_
    exact mn_iret rfl dRu_changeSize_13 (absurd hk2 (by omega))
  · have c1 := mt (nI_ltI (a := k) (b := 20) (by omega) (by omega)).mpr c1
    refine mn_iload_n 1 dRu_changeSize_6 rfl rfl ?_
    refine mn_bipush (v := 80) dRu_changeSize_7 (by decide) ?_
    refine mn_icmp_le 14 dRu_changeSize_9 (by decide) (fun c2 => ?_) (fun c2 => ?_)
    · have c2 := (nI_leI (a := k) (b := 80) (by omega) (by omega)).mp c2
      refine mn_aload_n 0 dRu_changeSize_14 rfl rfl ?_
      refine mn_get okRu 0 lRu_9 (by decide) ha rfl dRu_changeSize_15 ?_
      refine mn_istore_n (ls' := [(0, .ref a), (1, .int (nI k)), (2, .int (nI sz))]) dRu_changeSize_18 rfl (by decide) rfl ?_
      refine mn_aload_n 0 dRu_changeSize_19 rfl rfl ?_
      refine mn_iload_n 1 dRu_changeSize_20 rfl rfl ?_
      refine mn_putf okRu 0 lRu_9 (by decide) rfl ha rfl rfl (Nat.le_of_ble_eq_true rfl) dRu_changeSize_21 ?_
      obtain ⟨g3, eg3⟩ : ∃ gg_, gg_ = mn_set g a (.inr (4, [.int (nI k), .int (nI rp), .int (nI st)])) := ⟨_, rfl⟩
      refine mn_R.toG eg3 ?_
      have ha_g3 : mn_at g3 a (.inr (4, [.int (nI k), .int (nI rp), .int (nI st)])) := by rw [eg3]; exact ha.same
      refine mn_iload_n 2 dRu_changeSize_24 rfl rfl ?_
      exact mn_iret rfl dRu_changeSize_25 ⟨rfl, (mn_fr.rf.set eg3 (by show a = a; omega)), ha_g3⟩
    · have c2 := mt (nI_leI (a := k) (b := 80) (by omega) (by omega)).mpr c2
      refine mn_iconst (v := -1) dRu_changeSize_12 (by decide) ?_
      exact mn_iret rfl dRu_changeSize_13 (absurd hk2 (by omega))
set_option maxRecDepth 100000 in
theorem c_R_changeSize_bad {E : mn_En} {g : mn_H} {a sz rp st : Nat} (ha : mn_at g a (.inr (4, [.int (nI sz), .int (nI rp), .int (nI st)]))) {x : Int32} (hx : x < 20 ∨ 80 < x) : mn_R E MRu_changeSize 0 0 0 0 0 [(0, .ref a), (1, .int x)] [] g (mn_is (some (.int (-1))) g) := by
  refine mn_iload_n 1 dRu_changeSize_0 rfl rfl ?_
  refine mn_bipush (v := 20) dRu_changeSize_1 (by decide) ?_
  refine mn_icmp_lt 12 dRu_changeSize_3 (by decide) (fun c1 => ?_) (fun c1 => ?_)
  · refine mn_iconst (v := -1) dRu_changeSize_12 (by decide) ?_
    exact mn_iret rfl dRu_changeSize_13 ⟨rfl, rfl⟩
  · refine mn_iload_n 1 dRu_changeSize_6 rfl rfl ?_
    refine mn_bipush (v := 80) dRu_changeSize_7 (by decide) ?_
    refine mn_icmp_le 14 dRu_changeSize_9 (by decide) (fun c2 => ?_) (fun c2 => ?_)
    · refine mn_aload_n 0 dRu_changeSize_14 rfl rfl ?_
      refine mn_get okRu 0 lRu_9 (by decide) ha rfl dRu_changeSize_15 ?_
      refine mn_istore_n (ls' := [(0, .ref a), (1, .int x), (2, .int (nI sz))]) dRu_changeSize_18 rfl (by decide) rfl ?_
      refine mn_aload_n 0 dRu_changeSize_19 rfl rfl ?_
      refine mn_iload_n 1 dRu_changeSize_20 rfl rfl ?_
      refine mn_putf okRu 0 lRu_9 (by decide) rfl ha rfl rfl (Nat.le_of_ble_eq_true rfl) dRu_changeSize_21 ?_
      obtain ⟨g3, eg3⟩ : ∃ gg_, gg_ = mn_set g a (.inr (4, [.int x, .int (nI rp), .int (nI st)])) := ⟨_, rfl⟩
      refine mn_R.toG eg3 ?_
      have ha_g3 : mn_at g3 a (.inr (4, [.int x, .int (nI rp), .int (nI st)])) := by rw [eg3]; exact ha.same
      refine mn_iload_n 2 dRu_changeSize_24 rfl rfl ?_
      exact mn_iret rfl dRu_changeSize_25 (absurd hx (fun h => h.elim c1 (Int32.not_lt.mpr c2)))
    · refine mn_iconst (v := -1) dRu_changeSize_12 (by decide) ?_
      exact mn_iret rfl dRu_changeSize_13 ⟨rfl, rfl⟩
set_option maxRecDepth 100000 in
theorem c_R_changeRepairs {E : mn_En} {g : mn_H} {a sz rp st : Nat} (ha : mn_at g a (.inr (4, [.int (nI sz), .int (nI rp), .int (nI st)]))) {k : Nat} (hk : 0 ≤ k) (hk2 : k ≤ 3) : mn_R E MRu_changeRepairs 0 0 0 0 0 [(0, .ref a), (1, .int (nI k))] [] g (fun v g' => v = some (.int (nI rp)) ∧ mn_fr (fun q => q = a) g g' ∧ mn_at g' a (.inr (4, [.int (nI sz), .int (nI k), .int (nI st)]))) := by
  refine mn_iload_n 1 dRu_changeRepairs_0 rfl rfl ?_
  refine mn_if_lt 9 dRu_changeRepairs_1 (by decide) (fun c1 => ?_) (fun c1 => ?_)
  · exact absurd c1 (nI_pos (by omega))
  · refine mn_iload_n 1 dRu_changeRepairs_4 rfl rfl ?_
    refine mn_iconst (v := 3) dRu_changeRepairs_5 (by decide) ?_
    refine mn_icmp_le 11 dRu_changeRepairs_6 (by decide) (fun c2 => ?_) (fun c2 => ?_)
    · have c2 := (nI_leI (a := k) (b := 3) (by omega) (by omega)).mp c2
      refine mn_aload_n 0 dRu_changeRepairs_11 rfl rfl ?_
      refine mn_get okRu 1 lRu_25 (by decide) ha rfl dRu_changeRepairs_12 ?_
      refine mn_istore_n (ls' := [(0, .ref a), (1, .int (nI k)), (2, .int (nI rp))]) dRu_changeRepairs_15 rfl (by decide) rfl ?_
      refine mn_aload_n 0 dRu_changeRepairs_16 rfl rfl ?_
      refine mn_iload_n 1 dRu_changeRepairs_17 rfl rfl ?_
      refine mn_putf okRu 1 lRu_25 (by decide) rfl ha rfl rfl (Nat.le_of_ble_eq_true rfl) dRu_changeRepairs_18 ?_
      obtain ⟨g3, eg3⟩ : ∃ gg_, gg_ = mn_set g a (.inr (4, [.int (nI sz), .int (nI k), .int (nI st)])) := ⟨_, rfl⟩
      refine mn_R.toG eg3 ?_
      have ha_g3 : mn_at g3 a (.inr (4, [.int (nI sz), .int (nI k), .int (nI st)])) := by rw [eg3]; exact ha.same
      refine mn_iload_n 2 dRu_changeRepairs_21 rfl rfl ?_
      exact mn_iret rfl dRu_changeRepairs_22 ⟨rfl, (mn_fr.rf.set eg3 (by show a = a; omega)), ha_g3⟩
    · have c2 := mt (nI_leI (a := k) (b := 3) (by omega) (by omega)).mpr c2
      refine mn_iconst (v := -1) dRu_changeRepairs_9 (by decide) ?_
      exact mn_iret rfl dRu_changeRepairs_10 (absurd hk2 (by omega))
set_option maxRecDepth 100000 in
theorem c_R_changeRepairs_bad {E : mn_En} {g : mn_H} {a sz rp st : Nat} (ha : mn_at g a (.inr (4, [.int (nI sz), .int (nI rp), .int (nI st)]))) {x : Int32} (hx : x < 0 ∨ 3 < x) : mn_R E MRu_changeRepairs 0 0 0 0 0 [(0, .ref a), (1, .int x)] [] g (mn_is (some (.int (-1))) g) := by
  refine mn_iload_n 1 dRu_changeRepairs_0 rfl rfl ?_
  refine mn_if_lt 9 dRu_changeRepairs_1 (by decide) (fun c1 => ?_) (fun c1 => ?_)
  · refine mn_iconst (v := -1) dRu_changeRepairs_9 (by decide) ?_
    exact mn_iret rfl dRu_changeRepairs_10 ⟨rfl, rfl⟩
  · refine mn_iload_n 1 dRu_changeRepairs_4 rfl rfl ?_
    refine mn_iconst (v := 3) dRu_changeRepairs_5 (by decide) ?_
    refine mn_icmp_le 11 dRu_changeRepairs_6 (by decide) (fun c2 => ?_) (fun c2 => ?_)
    · refine mn_aload_n 0 dRu_changeRepairs_11 rfl rfl ?_
      refine mn_get okRu 1 lRu_25 (by decide) ha rfl dRu_changeRepairs_12 ?_
      refine mn_istore_n (ls' := [(0, .ref a), (1, .int x), (2, .int (nI rp))]) dRu_changeRepairs_15 rfl (by decide) rfl ?_
      refine mn_aload_n 0 dRu_changeRepairs_16 rfl rfl ?_
      refine mn_iload_n 1 dRu_changeRepairs_17 rfl rfl ?_
      refine mn_putf okRu 1 lRu_25 (by decide) rfl ha rfl rfl (Nat.le_of_ble_eq_true rfl) dRu_changeRepairs_18 ?_
      obtain ⟨g3, eg3⟩ : ∃ gg_, gg_ = mn_set g a (.inr (4, [.int (nI sz), .int x, .int (nI st)])) := ⟨_, rfl⟩
      refine mn_R.toG eg3 ?_
      have ha_g3 : mn_at g3 a (.inr (4, [.int (nI sz), .int x, .int (nI st)])) := by rw [eg3]; exact ha.same
      refine mn_iload_n 2 dRu_changeRepairs_21 rfl rfl ?_
      exact mn_iret rfl dRu_changeRepairs_22 (absurd hx (fun h => h.elim c1 (Int32.not_lt.mpr c2)))
    · refine mn_iconst (v := -1) dRu_changeRepairs_9 (by decide) ?_
      exact mn_iret rfl dRu_changeRepairs_10 ⟨rfl, rfl⟩
set_option maxRecDepth 100000 in
theorem c_R_changeSet {E : mn_En} {g : mn_H} {a sz rp st : Nat} (ha : mn_at g a (.inr (4, [.int (nI sz), .int (nI rp), .int (nI st)]))) {k : Nat} (hk : 0 ≤ k) (hk2 : k ≤ 255) : mn_R E MRu_changeSet 0 0 0 0 0 [(0, .ref a), (1, .int (nI k))] [] g (fun v g' => v = some (.int (nI st)) ∧ mn_fr (fun q => q = a) g g' ∧ mn_at g' a (.inr (4, [.int (nI sz), .int (nI rp), .int (nI k)]))) := by
  refine mn_iload_n 1 dRu_changeSet_0 rfl rfl ?_
  refine mn_if_lt 11 dRu_changeSet_1 (by decide) (fun c1 => ?_) (fun c1 => ?_)
  · exact absurd c1 (nI_pos (by omega))
  · refine mn_iload_n 1 dRu_changeSet_4 rfl rfl ?_
    refine mn_sipush (v := 255) dRu_changeSet_5 (by decide) ?_
    refine mn_icmp_le 13 dRu_changeSet_8 (by decide) (fun c2 => ?_) (fun c2 => ?_)
    · have c2 := (nI_leI (a := k) (b := 255) (by omega) (by omega)).mp c2
      refine mn_aload_n 0 dRu_changeSet_13 rfl rfl ?_
      refine mn_get okRu 2 lRu_28 (by decide) ha rfl dRu_changeSet_14 ?_
      refine mn_istore_n (ls' := [(0, .ref a), (1, .int (nI k)), (2, .int (nI st))]) dRu_changeSet_17 rfl (by decide) rfl ?_
      refine mn_aload_n 0 dRu_changeSet_18 rfl rfl ?_
      refine mn_iload_n 1 dRu_changeSet_19 rfl rfl ?_
      refine mn_putf okRu 2 lRu_28 (by decide) rfl ha rfl rfl (Nat.le_of_ble_eq_true rfl) dRu_changeSet_20 ?_
      obtain ⟨g3, eg3⟩ : ∃ gg_, gg_ = mn_set g a (.inr (4, [.int (nI sz), .int (nI rp), .int (nI k)])) := ⟨_, rfl⟩
      refine mn_R.toG eg3 ?_
      have ha_g3 : mn_at g3 a (.inr (4, [.int (nI sz), .int (nI rp), .int (nI k)])) := by rw [eg3]; exact ha.same
      refine mn_iload_n 2 dRu_changeSet_23 rfl rfl ?_
      exact mn_iret rfl dRu_changeSet_24 ⟨rfl, (mn_fr.rf.set eg3 (by show a = a; omega)), ha_g3⟩
    · have c2 := mt (nI_leI (a := k) (b := 255) (by omega) (by omega)).mpr c2
      refine mn_iconst (v := -1) dRu_changeSet_11 (by decide) ?_
      exact mn_iret rfl dRu_changeSet_12 (absurd hk2 (by omega))
set_option maxRecDepth 100000 in
theorem c_R_changeSet_bad {E : mn_En} {g : mn_H} {a sz rp st : Nat} (ha : mn_at g a (.inr (4, [.int (nI sz), .int (nI rp), .int (nI st)]))) {x : Int32} (hx : x < 0 ∨ 255 < x) : mn_R E MRu_changeSet 0 0 0 0 0 [(0, .ref a), (1, .int x)] [] g (mn_is (some (.int (-1))) g) := by
  refine mn_iload_n 1 dRu_changeSet_0 rfl rfl ?_
  refine mn_if_lt 11 dRu_changeSet_1 (by decide) (fun c1 => ?_) (fun c1 => ?_)
  · refine mn_iconst (v := -1) dRu_changeSet_11 (by decide) ?_
    exact mn_iret rfl dRu_changeSet_12 ⟨rfl, rfl⟩
  · refine mn_iload_n 1 dRu_changeSet_4 rfl rfl ?_
    refine mn_sipush (v := 255) dRu_changeSet_5 (by decide) ?_
    refine mn_icmp_le 13 dRu_changeSet_8 (by decide) (fun c2 => ?_) (fun c2 => ?_)
    · refine mn_aload_n 0 dRu_changeSet_13 rfl rfl ?_
      refine mn_get okRu 2 lRu_28 (by decide) ha rfl dRu_changeSet_14 ?_
      refine mn_istore_n (ls' := [(0, .ref a), (1, .int x), (2, .int (nI st))]) dRu_changeSet_17 rfl (by decide) rfl ?_
      refine mn_aload_n 0 dRu_changeSet_18 rfl rfl ?_
      refine mn_iload_n 1 dRu_changeSet_19 rfl rfl ?_
      refine mn_putf okRu 2 lRu_28 (by decide) rfl ha rfl rfl (Nat.le_of_ble_eq_true rfl) dRu_changeSet_20 ?_
      obtain ⟨g3, eg3⟩ : ∃ gg_, gg_ = mn_set g a (.inr (4, [.int (nI sz), .int (nI rp), .int x])) := ⟨_, rfl⟩
      refine mn_R.toG eg3 ?_
      have ha_g3 : mn_at g3 a (.inr (4, [.int (nI sz), .int (nI rp), .int x])) := by rw [eg3]; exact ha.same
      refine mn_iload_n 2 dRu_changeSet_23 rfl rfl ?_
      exact mn_iret rfl dRu_changeSet_24 (absurd hx (fun h => h.elim c1 (Int32.not_lt.mpr c2)))
    · refine mn_iconst (v := -1) dRu_changeSet_11 (by decide) ?_
      exact mn_iret rfl dRu_changeSet_12 ⟨rfl, rfl⟩
set_option maxRecDepth 100000 in
theorem c_R_change0 {E : mn_En} {g : mn_H} {a sz rp st : Nat} (ha : mn_at g a (.inr (4, [.int (nI sz), .int (nI rp), .int (nI st)]))) {k : Nat} (hk : 20 ≤ k) (hk2 : k ≤ 80) : mn_R E MRu_change 1 22 0 0 0 [(0, .ref a), (1, .int 0), (2, .int (nI k))] [] g (fun v g' => v = some (.int (nI sz)) ∧ mn_fr (fun q => q = a) g g' ∧ mn_at g' a (.inr (4, [.int (nI k), .int (nI rp), .int (nI st)]))) := by
  refine mn_iload_n 1 dRu_change_0 rfl rfl ?_
  refine mn_tableIn (off := 27) 28 dRu_change_1 (by decide) (by decide) (by decide) (by decide) ?_
  refine mn_aload_n 0 dRu_change_28 rfl rfl ?_
  refine mn_iload_n 2 dRu_change_29 rfl rfl ?_
  refine mn_callV (As := [.int (nI k)]) (st := []) okRu_changeSize lRu_15 dRu_change_30 ha rfl rfl rfl rfl (Nat.le_of_ble_eq_true rfl) (Nat.le_of_ble_eq_true rfl) (by decide) (c_R_changeSize ha hk hk2) (fun v g1 hq => ?_)
  obtain ⟨rfl, fg1, ha_g1⟩ := hq
  show mn_R E MRu_change 1 22 _ _ 33 [(0, .ref a), (1, .int 0), (2, .int (nI k))] [.int (nI sz)] g1 _
  exact mn_iret rfl dRu_change_33 ⟨rfl, (mn_fr.rf.tr (fg1.mo (fun q h => by have h9 : q = a := h; show q = a; omega))), ha_g1⟩
set_option maxRecDepth 100000 in
theorem c_R_change0_bad {E : mn_En} {g : mn_H} {a sz rp st : Nat} (ha : mn_at g a (.inr (4, [.int (nI sz), .int (nI rp), .int (nI st)]))) {x : Int32} (hx : x < 20 ∨ 80 < x) : mn_R E MRu_change 1 22 0 0 0 [(0, .ref a), (1, .int 0), (2, .int x)] [] g (mn_is (some (.int (-1))) g) := by
  refine mn_iload_n 1 dRu_change_0 rfl rfl ?_
  refine mn_tableIn (off := 27) 28 dRu_change_1 (by decide) (by decide) (by decide) (by decide) ?_
  refine mn_aload_n 0 dRu_change_28 rfl rfl ?_
  refine mn_iload_n 2 dRu_change_29 rfl rfl ?_
  refine mn_cV (As := [.int x]) (stk' := [.int (-1)]) okRu_changeSize lRu_15 dRu_change_30 ha rfl rfl rfl rfl (Nat.le_of_ble_eq_true rfl) (Nat.le_of_ble_eq_true rfl) (by decide) (c_R_changeSize_bad ha hx) rfl ?_
  exact mn_iret rfl dRu_change_33 ⟨rfl, rfl⟩
set_option maxRecDepth 100000 in
theorem c_R_change1 {E : mn_En} {g : mn_H} {a sz rp st : Nat} (ha : mn_at g a (.inr (4, [.int (nI sz), .int (nI rp), .int (nI st)]))) {k : Nat} (hk : 0 ≤ k) (hk2 : k ≤ 3) : mn_R E MRu_change 1 22 0 0 0 [(0, .ref a), (1, .int 1), (2, .int (nI k))] [] g (fun v g' => v = some (.int (nI rp)) ∧ mn_fr (fun q => q = a) g g' ∧ mn_at g' a (.inr (4, [.int (nI sz), .int (nI k), .int (nI st)]))) := by
  refine mn_iload_n 1 dRu_change_0 rfl rfl ?_
  refine mn_tableIn (off := 33) 34 dRu_change_1 (by decide) (by decide) (by decide) (by decide) ?_
  refine mn_aload_n 0 dRu_change_34 rfl rfl ?_
  refine mn_iload_n 2 dRu_change_35 rfl rfl ?_
  refine mn_callV (As := [.int (nI k)]) (st := []) okRu_changeRepairs lRu_19 dRu_change_36 ha rfl rfl rfl rfl (Nat.le_of_ble_eq_true rfl) (Nat.le_of_ble_eq_true rfl) (by decide) (c_R_changeRepairs ha hk hk2) (fun v g1 hq => ?_)
  obtain ⟨rfl, fg1, ha_g1⟩ := hq
  show mn_R E MRu_change 1 22 _ _ 39 [(0, .ref a), (1, .int 1), (2, .int (nI k))] [.int (nI rp)] g1 _
  exact mn_iret rfl dRu_change_39 ⟨rfl, (mn_fr.rf.tr (fg1.mo (fun q h => by have h9 : q = a := h; show q = a; omega))), ha_g1⟩
set_option maxRecDepth 100000 in
theorem c_R_change1_bad {E : mn_En} {g : mn_H} {a sz rp st : Nat} (ha : mn_at g a (.inr (4, [.int (nI sz), .int (nI rp), .int (nI st)]))) {x : Int32} (hx : x < 0 ∨ 3 < x) : mn_R E MRu_change 1 22 0 0 0 [(0, .ref a), (1, .int 1), (2, .int x)] [] g (mn_is (some (.int (-1))) g) := by
  refine mn_iload_n 1 dRu_change_0 rfl rfl ?_
  refine mn_tableIn (off := 33) 34 dRu_change_1 (by decide) (by decide) (by decide) (by decide) ?_
  refine mn_aload_n 0 dRu_change_34 rfl rfl ?_
  refine mn_iload_n 2 dRu_change_35 rfl rfl ?_
  refine mn_cV (As := [.int x]) (stk' := [.int (-1)]) okRu_changeRepairs lRu_19 dRu_change_36 ha rfl rfl rfl rfl (Nat.le_of_ble_eq_true rfl) (Nat.le_of_ble_eq_true rfl) (by decide) (c_R_changeRepairs_bad ha hx) rfl ?_
  exact mn_iret rfl dRu_change_39 ⟨rfl, rfl⟩
set_option maxRecDepth 100000 in
theorem c_R_change2 {E : mn_En} {g : mn_H} {a sz rp st : Nat} (ha : mn_at g a (.inr (4, [.int (nI sz), .int (nI rp), .int (nI st)]))) {k : Nat} (hk : 0 ≤ k) (hk2 : k ≤ 255) : mn_R E MRu_change 1 22 0 0 0 [(0, .ref a), (1, .int 2), (2, .int (nI k))] [] g (fun v g' => v = some (.int (nI st)) ∧ mn_fr (fun q => q = a) g g' ∧ mn_at g' a (.inr (4, [.int (nI sz), .int (nI rp), .int (nI k)]))) := by
  refine mn_iload_n 1 dRu_change_0 rfl rfl ?_
  refine mn_tableIn (off := 39) 40 dRu_change_1 (by decide) (by decide) (by decide) (by decide) ?_
  refine mn_aload_n 0 dRu_change_40 rfl rfl ?_
  refine mn_iload_n 2 dRu_change_41 rfl rfl ?_
  refine mn_callV (As := [.int (nI k)]) (st := []) okRu_changeSet lRu_22 dRu_change_42 ha rfl rfl rfl rfl (Nat.le_of_ble_eq_true rfl) (Nat.le_of_ble_eq_true rfl) (by decide) (c_R_changeSet ha hk hk2) (fun v g1 hq => ?_)
  obtain ⟨rfl, fg1, ha_g1⟩ := hq
  show mn_R E MRu_change 1 22 _ _ 45 [(0, .ref a), (1, .int 2), (2, .int (nI k))] [.int (nI st)] g1 _
  exact mn_iret rfl dRu_change_45 ⟨rfl, (mn_fr.rf.tr (fg1.mo (fun q h => by have h9 : q = a := h; show q = a; omega))), ha_g1⟩
set_option maxRecDepth 100000 in
theorem c_R_change2_bad {E : mn_En} {g : mn_H} {a sz rp st : Nat} (ha : mn_at g a (.inr (4, [.int (nI sz), .int (nI rp), .int (nI st)]))) {x : Int32} (hx : x < 0 ∨ 255 < x) : mn_R E MRu_change 1 22 0 0 0 [(0, .ref a), (1, .int 2), (2, .int x)] [] g (mn_is (some (.int (-1))) g) := by
  refine mn_iload_n 1 dRu_change_0 rfl rfl ?_
  refine mn_tableIn (off := 39) 40 dRu_change_1 (by decide) (by decide) (by decide) (by decide) ?_
  refine mn_aload_n 0 dRu_change_40 rfl rfl ?_
  refine mn_iload_n 2 dRu_change_41 rfl rfl ?_
  refine mn_cV (As := [.int x]) (stk' := [.int (-1)]) okRu_changeSet lRu_22 dRu_change_42 ha rfl rfl rfl rfl (Nat.le_of_ble_eq_true rfl) (Nat.le_of_ble_eq_true rfl) (by decide) (c_R_changeSet_bad ha hx) rfl ?_
  exact mn_iret rfl dRu_change_45 ⟨rfl, rfl⟩
set_option maxRecDepth 100000 in
theorem c_R_change_bad {E : mn_En} {g : mn_H} {a sz rp st : Nat} (ha : mn_at g a (.inr (4, [.int (nI sz), .int (nI rp), .int (nI st)]))) {x y : Int32} (hw : y.toInt < 0 ∨ 2 < y.toInt) : mn_R E MRu_change 1 22 0 0 0 [(0, .ref a), (1, .int y), (2, .int x)] [] g (mn_is (some (.int (-1))) g) := by
  refine mn_iload_n 1 dRu_change_0 rfl rfl ?_
  refine mn_tableOut 46 dRu_change_1 hw (by decide) ?_
  refine mn_iconst (v := -1) dRu_change_46 (by decide) ?_
  exact mn_iret rfl dRu_change_47 ⟨rfl, rfl⟩
