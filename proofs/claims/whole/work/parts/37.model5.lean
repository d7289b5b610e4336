set_option maxRecDepth 100000 in
theorem c_M_noSlot_y {E : mn_En} {g : mn_H} {mo tl e sz rp st m r wd ag td om : Nat} {ir : Int32} (hM : mn_at g mo (.inr (11, [.int 0, .ref (mo + 1), .int (nI tl), .ref (mo + 2), .ref (mo + 3), .int (nI e), .int (nI sz), .int (nI rp), .int (nI st), .ref (mo + 4), .ref (mo + 5), .ref (mo + 6), .int ir, .int (nI m), .int (nI r), .int (nI wd), .int (nI ag), .ref (mo + 7), .ref (mo + 8), .ref (mo + 9), .ref (mo + 10), .int (nI td), .int (nI om), .ref (mo + 11), .ref (mo + 12), .ref (mo + 13), .ref (mo + 14), .ref (mo + 15), .ref (mo + 16)]))) {x : Int32} (hx : x < 0 ∨ 60 ≤ x) : mn_R E MMo_noSlot 1 22 0 0 0 [(0, .ref mo), (1, .int x)] [] g (mn_is (some (.int 1)) g) := by
  refine mn_iload_n 1 dMo_noSlot_0 rfl rfl ?_
  refine mn_iconst (v := 0) dMo_noSlot_1 (by decide) ?_
  refine mn_bipush (v := 59) dMo_noSlot_2 (by decide) ?_
  refine mn_cS (d' := 0) (w' := 0) (As := [.int x, .int 0, .int 59]) (stk' := [.int 0]) okMo_in lMo_68 dMo_noSlot_4 rfl rfl (Nat.le_of_ble_eq_true rfl) (Nat.le_of_ble_eq_true rfl) (by decide) (c_M_in_n (i32_n1 (N := 60) (by omega) (by omega) hx)) rfl ?_
  refine mn_if_ne 14 dMo_noSlot_7 (by decide) (fun c1 => ?_) (fun c1 => ?_)
  · exact absurd c1 (by decide)
  · refine mn_iconst (v := 1) dMo_noSlot_10 (by decide) ?_
    refine mn_goto 15 dMo_noSlot_11 (by decide) ?_
    exact mn_zret rfl rfl dMo_noSlot_15 ⟨rfl, rfl⟩
set_option maxRecDepth 100000 in
theorem c_M_noSlot_n {E : mn_En} {g : mn_H} {mo tl e sz rp st m r wd ag td om : Nat} {ir : Int32} (hM : mn_at g mo (.inr (11, [.int 0, .ref (mo + 1), .int (nI tl), .ref (mo + 2), .ref (mo + 3), .int (nI e), .int (nI sz), .int (nI rp), .int (nI st), .ref (mo + 4), .ref (mo + 5), .ref (mo + 6), .int ir, .int (nI m), .int (nI r), .int (nI wd), .int (nI ag), .ref (mo + 7), .ref (mo + 8), .ref (mo + 9), .ref (mo + 10), .int (nI td), .int (nI om), .ref (mo + 11), .ref (mo + 12), .ref (mo + 13), .ref (mo + 14), .ref (mo + 15), .ref (mo + 16)]))) {k : Nat} (hk : k < 60) : mn_R E MMo_noSlot 1 22 0 0 0 [(0, .ref mo), (1, .int (nI k))] [] g (mn_is (some (.int 0)) g) := by
  refine mn_iload_n 1 dMo_noSlot_0 rfl rfl ?_
  refine mn_iconst (v := 0) dMo_noSlot_1 (by decide) ?_
  refine mn_bipush (v := 59) dMo_noSlot_2 (by decide) ?_
  refine mn_cS (d' := 0) (w' := 0) (As := [.int (nI k), .int 0, .int 59]) (stk' := [.int 1]) okMo_in lMo_68 dMo_noSlot_4 rfl rfl (Nat.le_of_ble_eq_true rfl) (Nat.le_of_ble_eq_true rfl) (by decide) (c_M_in_y (nI_pos (by omega)) (ml_lt (a := k) (b := 59) (by omega) (by omega) (by omega))) rfl ?_
  refine mn_if_ne 14 dMo_noSlot_7 (by decide) (fun c1 => ?_) (fun c1 => ?_)
  · refine mn_iconst (v := 0) dMo_noSlot_14 (by decide) ?_
    exact mn_zret rfl rfl dMo_noSlot_15 ⟨rfl, rfl⟩
  · exact absurd c1 (by decide)
set_option maxRecDepth 100000 in
theorem c_M_lose_bad {E : mn_En} {g : mn_H} {mo tl e sz rp st m r wd ag td om : Nat} {ir : Int32} (hM : mn_at g mo (.inr (11, [.int 0, .ref (mo + 1), .int (nI tl), .ref (mo + 2), .ref (mo + 3), .int (nI e), .int (nI sz), .int (nI rp), .int (nI st), .ref (mo + 4), .ref (mo + 5), .ref (mo + 6), .int ir, .int (nI m), .int (nI r), .int (nI wd), .int (nI ag), .ref (mo + 7), .ref (mo + 8), .ref (mo + 9), .ref (mo + 10), .int (nI td), .int (nI om), .ref (mo + 11), .ref (mo + 12), .ref (mo + 13), .ref (mo + 14), .ref (mo + 15), .ref (mo + 16)]))) {x : Int32} (hx : x < 0 ∨ 60 ≤ x) : mn_R E MMo_lose 2 43 0 0 0 [(0, .ref mo), (1, .int x)] [] g (fun x g' => x = some (.int (-1)) ∧ mn_fr (fun q => q = mo) g g' ∧ mn_at g' mo (.inr (11, [.int 0, .ref (mo + 1), .int (nI tl), .ref (mo + 2), .ref (mo + 3), .int (nI e), .int (nI sz), .int (nI rp), .int (nI st), .ref (mo + 4), .ref (mo + 5), .ref (mo + 6), .int ir, .int (nI m), .int (nI r), .int (nI wd), .int (nI ag), .ref (mo + 7), .ref (mo + 8), .ref (mo + 9), .ref (mo + 10), .int (nI td), .int (nI om), .ref (mo + 11), .ref (mo + 12), .ref (mo + 13), .ref (mo + 14), .ref (mo + 15), .ref (mo + 16)]))) := by
  refine mn_aload_n 0 dMo_lose_0 rfl rfl ?_
  refine mn_iconst (v := 0) dMo_lose_1 (by decide) ?_
  refine mn_putf okMo 0 lMo_1 (by decide) rfl hM rfl rfl (Nat.le_of_ble_eq_true rfl) dMo_lose_2 ?_
  obtain ⟨g1, eg1⟩ : ∃ gg_, gg_ = mn_set g mo (.inr (11, [.int 0, .ref (mo + 1), .int (nI tl), .ref (mo + 2), .ref (mo + 3), .int (nI e), .int (nI sz), .int (nI rp), .int (nI st), .ref (mo + 4), .ref (mo + 5), .ref (mo + 6), .int ir, .int (nI m), .int (nI r), .int (nI wd), .int (nI ag), .ref (mo + 7), .ref (mo + 8), .ref (mo + 9), .ref (mo + 10), .int (nI td), .int (nI om), .ref (mo + 11), .ref (mo + 12), .ref (mo + 13), .ref (mo + 14), .ref (mo + 15), .ref (mo + 16)])) := ⟨_, rfl⟩
  refine mn_R.toG eg1 ?_
  have hM_g1 : mn_at g1 mo (.inr (11, [.int 0, .ref (mo + 1), .int (nI tl), .ref (mo + 2), .ref (mo + 3), .int (nI e), .int (nI sz), .int (nI rp), .int (nI st), .ref (mo + 4), .ref (mo + 5), .ref (mo + 6), .int ir, .int (nI m), .int (nI r), .int (nI wd), .int (nI ag), .ref (mo + 7), .ref (mo + 8), .ref (mo + 9), .ref (mo + 10), .int (nI td), .int (nI om), .ref (mo + 11), .ref (mo + 12), .ref (mo + 13), .ref (mo + 14), .ref (mo + 15), .ref (mo + 16)])) := by rw [eg1]; exact hM.same
  refine mn_aload_n 0 dMo_lose_5 rfl rfl ?_
  refine mn_iload_n 1 dMo_lose_6 rfl rfl ?_
  refine mn_cV (d' := 1) (w' := 22) (As := [.int x]) (stk' := [.int 1]) okMo_noSlot lMo_130 dMo_lose_7 hM_g1 rfl rfl rfl rfl (Nat.le_of_ble_eq_true rfl) (Nat.le_of_ble_eq_true rfl) (by decide) (c_M_noSlot_y hM_g1 hx) rfl ?_
  refine mn_if_ne 22 dMo_lose_10 (by decide) (fun c2 => ?_) (fun c2 => ?_)
  · refine mn_iconst (v := -1) dMo_lose_22 (by decide) ?_
    exact mn_iret rfl dMo_lose_23 ⟨rfl, (mn_fr.rf.set eg1 (by show mo = mo; omega)), hM_g1⟩
  · exact absurd c2 (by decide)
set_option maxRecDepth 100000 in
theorem c_M_lose_empty {E : mn_En} {g : mn_H} {mo tl e sz rp st m r wd ag td om : Nat} {ir : Int32} {ss : Nat → Nat} (hM : mn_at g mo (.inr (11, [.int 0, .ref (mo + 1), .int (nI tl), .ref (mo + 2), .ref (mo + 3), .int (nI e), .int (nI sz), .int (nI rp), .int (nI st), .ref (mo + 4), .ref (mo + 5), .ref (mo + 6), .int ir, .int (nI m), .int (nI r), .int (nI wd), .int (nI ag), .ref (mo + 7), .ref (mo + 8), .ref (mo + 9), .ref (mo + 10), .int (nI td), .int (nI om), .ref (mo + 11), .ref (mo + 12), .ref (mo + 13), .ref (mo + 14), .ref (mo + 15), .ref (mo + 16)]))) (hSs : mn_at g (mo + 5) (.inl (0, 60, .inl (fun j => nI (ss j))))) {k : Nat} (hk : k < 60) (hss : ∀ k, ss k ≤ 80) (h0 : ss k = 0) : mn_R E MMo_lose 2 43 0 0 0 [(0, .ref mo), (1, .int (nI k))] [] g (fun x g' => x = some (.int (-1)) ∧ mn_fr (fun q => q = mo) g g' ∧ mn_at g' mo (.inr (11, [.int 0, .ref (mo + 1), .int (nI tl), .ref (mo + 2), .ref (mo + 3), .int (nI e), .int (nI sz), .int (nI rp), .int (nI st), .ref (mo + 4), .ref (mo + 5), .ref (mo + 6), .int ir, .int (nI m), .int (nI r), .int (nI wd), .int (nI ag), .ref (mo + 7), .ref (mo + 8), .ref (mo + 9), .ref (mo + 10), .int (nI td), .int (nI om), .ref (mo + 11), .ref (mo + 12), .ref (mo + 13), .ref (mo + 14), .ref (mo + 15), .ref (mo + 16)]))) := by
  have hssk := hss k
  refine mn_aload_n 0 dMo_lose_0 rfl rfl ?_
  refine mn_iconst (v := 0) dMo_lose_1 (by decide) ?_
  refine mn_putf okMo 0 lMo_1 (by decide) rfl hM rfl rfl (Nat.le_of_ble_eq_true rfl) dMo_lose_2 ?_
  obtain ⟨g1, eg1⟩ : ∃ gg_, gg_ = mn_set g mo (.inr (11, [.int 0, .ref (mo + 1), .int (nI tl), .ref (mo + 2), .ref (mo + 3), .int (nI e), .int (nI sz), .int (nI rp), .int (nI st), .ref (mo + 4), .ref (mo + 5), .ref (mo + 6), .int ir, .int (nI m), .int (nI r), .int (nI wd), .int (nI ag), .ref (mo + 7), .ref (mo + 8), .ref (mo + 9), .ref (mo + 10), .int (nI td), .int (nI om), .ref (mo + 11), .ref (mo + 12), .ref (mo + 13), .ref (mo + 14), .ref (mo + 15), .ref (mo + 16)])) := ⟨_, rfl⟩
  refine mn_R.toG eg1 ?_
  have hM_g1 : mn_at g1 mo (.inr (11, [.int 0, .ref (mo + 1), .int (nI tl), .ref (mo + 2), .ref (mo + 3), .int (nI e), .int (nI sz), .int (nI rp), .int (nI st), .ref (mo + 4), .ref (mo + 5), .ref (mo + 6), .int ir, .int (nI m), .int (nI r), .int (nI wd), .int (nI ag), .ref (mo + 7), .ref (mo + 8), .ref (mo + 9), .ref (mo + 10), .int (nI td), .int (nI om), .ref (mo + 11), .ref (mo + 12), .ref (mo + 13), .ref (mo + 14), .ref (mo + 15), .ref (mo + 16)])) := by rw [eg1]; exact hM.same
  have hSs_g1 : mn_at g1 (mo + 5) (.inl (0, 60, .inl (fun j => nI (ss j)))) := by rw [eg1]; exact hSs.off (by omega)
  refine mn_aload_n 0 dMo_lose_5 rfl rfl ?_
  refine mn_iload_n 1 dMo_lose_6 rfl rfl ?_
  refine mn_cV (d' := 1) (w' := 22) (As := [.int (nI k)]) (stk' := [.int 0]) okMo_noSlot lMo_130 dMo_lose_7 hM_g1 rfl rfl rfl rfl (Nat.le_of_ble_eq_true rfl) (Nat.le_of_ble_eq_true rfl) (by decide) (c_M_noSlot_n hM_g1 (k := k) (by omega)) rfl ?_
  refine mn_if_ne 22 dMo_lose_10 (by decide) (fun c2 => ?_) (fun c2 => ?_)
  · exact absurd c2 (by decide)
  · refine mn_aload_n 0 dMo_lose_13 rfl rfl ?_
    refine mn_get okMo 10 lMo_29 (by decide) hM_g1 rfl dMo_lose_14 ?_
    refine mn_iload_n 1 dMo_lose_17 rfl rfl ?_
    refine mn_ialdN (j := k) hSs_g1 rfl (by omega) (by omega) dMo_lose_18 ?_
    refine mn_if_ne 24 dMo_lose_19 (by decide) (fun c3 => ?_) (fun c3 => ?_)
    · have c3 := mt (nI_eq (a := (ss k)) (b := 0) (by omega) (by omega)).mpr c3
      exact absurd h0 c3
    · have c3 := (nI_eq (a := (ss k)) (b := 0) (by omega) (by omega)).mp c3
      refine mn_iconst (v := -1) dMo_lose_22 (by decide) ?_
      exact mn_iret rfl dMo_lose_23 ⟨rfl, (mn_fr.rf.set eg1 (by show mo = mo; omega)), hM_g1⟩
set_option maxRecDepth 100000 in
theorem c_M_lose {E : mn_En} {g : mn_H} {mo tl e sz rp st m r wd ag td om : Nat} {ir : Int32} {ss : Nat → Nat} (hM : mn_at g mo (.inr (11, [.int 0, .ref (mo + 1), .int (nI tl), .ref (mo + 2), .ref (mo + 3), .int (nI e), .int (nI sz), .int (nI rp), .int (nI st), .ref (mo + 4), .ref (mo + 5), .ref (mo + 6), .int ir, .int (nI m), .int (nI r), .int (nI wd), .int (nI ag), .ref (mo + 7), .ref (mo + 8), .ref (mo + 9), .ref (mo + 10), .int (nI td), .int (nI om), .ref (mo + 11), .ref (mo + 12), .ref (mo + 13), .ref (mo + 14), .ref (mo + 15), .ref (mo + 16)]))) (hSs : mn_at g (mo + 5) (.inl (0, 60, .inl (fun j => nI (ss j))))) {k : Nat} (hk : k < 60) (hss : ∀ k, ss k ≤ 80) (h0 : ¬ ss k = 0) : mn_R E MMo_lose 2 43 0 0 0 [(0, .ref mo), (1, .int (nI k))] [] g (fun x g' => x = some (.int (nI (ss k))) ∧ mn_fr (fun q => q = mo ∨ q = mo + 5) g g' ∧ mn_at g' mo (.inr (11, [.int 0, .ref (mo + 1), .int (nI tl), .ref (mo + 2), .ref (mo + 3), .int (nI e), .int (nI sz), .int (nI rp), .int (nI st), .ref (mo + 4), .ref (mo + 5), .ref (mo + 6), .int ir, .int (nI m), .int (nI r), .int (nI wd), .int (nI ag), .ref (mo + 7), .ref (mo + 8), .ref (mo + 9), .ref (mo + 10), .int (nI td), .int (nI om), .ref (mo + 11), .ref (mo + 12), .ref (mo + 13), .ref (mo + 14), .ref (mo + 15), .ref (mo + 16)])) ∧ mn_at g' (mo + 5) (.inl (0, 60, .inl (fun j => nI (va_up ss k 0 j))))) := by
  have hssk := hss k
  refine mn_aload_n 0 dMo_lose_0 rfl rfl ?_
  refine mn_iconst (v := 0) dMo_lose_1 (by decide) ?_
  refine mn_putf okMo 0 lMo_1 (by decide) rfl hM rfl rfl (Nat.le_of_ble_eq_true rfl) dMo_lose_2 ?_
  obtain ⟨g1, eg1⟩ : ∃ gg_, gg_ = mn_set g mo (.inr (11, [.int 0, .ref (mo + 1), .int (nI tl), .ref (mo + 2), .ref (mo + 3), .int (nI e), .int (nI sz), .int (nI rp), .int (nI st), .ref (mo + 4), .ref (mo + 5), .ref (mo + 6), .int ir, .int (nI m), .int (nI r), .int (nI wd), .int (nI ag), .ref (mo + 7), .ref (mo + 8), .ref (mo + 9), .ref (mo + 10), .int (nI td), .int (nI om), .ref (mo + 11), .ref (mo + 12), .ref (mo + 13), .ref (mo + 14), .ref (mo + 15), .ref (mo + 16)])) := ⟨_, rfl⟩
  refine mn_R.toG eg1 ?_
  have hM_g1 : mn_at g1 mo (.inr (11, [.int 0, .ref (mo + 1), .int (nI tl), .ref (mo + 2), .ref (mo + 3), .int (nI e), .int (nI sz), .int (nI rp), .int (nI st), .ref (mo + 4), .ref (mo + 5), .ref (mo + 6), .int ir, .int (nI m), .int (nI r), .int (nI wd), .int (nI ag), .ref (mo + 7), .ref (mo + 8), .ref (mo + 9), .ref (mo + 10), .int (nI td), .int (nI om), .ref (mo + 11), .ref (mo + 12), .ref (mo + 13), .ref (mo + 14), .ref (mo + 15), .ref (mo + 16)])) := by rw [eg1]; exact hM.same
  have hSs_g1 : mn_at g1 (mo + 5) (.inl (0, 60, .inl (fun j => nI (ss j)))) := by rw [eg1]; exact hSs.off (by omega)
  refine mn_aload_n 0 dMo_lose_5 rfl rfl ?_
  refine mn_iload_n 1 dMo_lose_6 rfl rfl ?_
  refine mn_cV (d' := 1) (w' := 22) (As := [.int (nI k)]) (stk' := [.int 0]) okMo_noSlot lMo_130 dMo_lose_7 hM_g1 rfl rfl rfl rfl (Nat.le_of_ble_eq_true rfl) (Nat.le_of_ble_eq_true rfl) (by decide) (c_M_noSlot_n hM_g1 (k := k) (by omega)) rfl ?_
  refine mn_if_ne 22 dMo_lose_10 (by decide) (fun c2 => ?_) (fun c2 => ?_)
  · exact absurd c2 (by decide)
  · refine mn_aload_n 0 dMo_lose_13 rfl rfl ?_
    refine mn_get okMo 10 lMo_29 (by decide) hM_g1 rfl dMo_lose_14 ?_
    refine mn_iload_n 1 dMo_lose_17 rfl rfl ?_
    refine mn_ialdN (j := k) hSs_g1 rfl (by omega) (by omega) dMo_lose_18 ?_
    refine mn_if_ne 24 dMo_lose_19 (by decide) (fun c3 => ?_) (fun c3 => ?_)
    · have c3 := mt (nI_eq (a := (ss k)) (b := 0) (by omega) (by omega)).mpr c3
      refine mn_aload_n 0 dMo_lose_24 rfl rfl ?_
      refine mn_get okMo 10 lMo_29 (by decide) hM_g1 rfl dMo_lose_25 ?_
      refine mn_iload_n 1 dMo_lose_28 rfl rfl ?_
      refine mn_ialdN (j := k) hSs_g1 rfl (by omega) (by omega) dMo_lose_29 ?_
      refine mn_istore_n (ls' := [(0, .ref mo), (1, .int (nI k)), (2, .int (nI (ss k)))]) dMo_lose_30 rfl (by decide) rfl ?_
      refine mn_aload_n 0 dMo_lose_31 rfl rfl ?_
      refine mn_get okMo 10 lMo_29 (by decide) hM_g1 rfl dMo_lose_32 ?_
      refine mn_iload_n 1 dMo_lose_35 rfl rfl ?_
      refine mn_iconst (v := 0) dMo_lose_36 (by decide) ?_
      refine mn_iastN (j := k) hSs_g1 rfl (by omega) (by omega) dMo_lose_37 ?_
      obtain ⟨g4, eg4⟩ : ∃ gg_, gg_ = mn_set g1 (mo + 5) (.inl (0, 60, .inl (upd (fun j => nI (ss j)) k 0))) := ⟨_, rfl⟩
      refine mn_R.toG eg4 ?_
      have hM_g4 : mn_at g4 mo (.inr (11, [.int 0, .ref (mo + 1), .int (nI tl), .ref (mo + 2), .ref (mo + 3), .int (nI e), .int (nI sz), .int (nI rp), .int (nI st), .ref (mo + 4), .ref (mo + 5), .ref (mo + 6), .int ir, .int (nI m), .int (nI r), .int (nI wd), .int (nI ag), .ref (mo + 7), .ref (mo + 8), .ref (mo + 9), .ref (mo + 10), .int (nI td), .int (nI om), .ref (mo + 11), .ref (mo + 12), .ref (mo + 13), .ref (mo + 14), .ref (mo + 15), .ref (mo + 16)])) := by rw [eg4]; exact hM_g1.off (by omega)
      have hSs_g4 : mn_at g4 (mo + 5) (.inl (0, 60, .inl (upd (fun j => nI (ss j)) k 0))) := by rw [eg4]; exact hSs_g1.same
      refine mn_iload_n 2 dMo_lose_38 rfl rfl ?_
      exact mn_iret rfl dMo_lose_39 ⟨rfl, ((mn_fr.rf.set eg1 (by show mo = mo ∨ mo = mo + 5; omega)).set eg4 (by show (mo + 5) = mo ∨ (mo + 5) = mo + 5; omega)), hM_g4, by rw [← upd_nI]; exact hSs_g4⟩
    · have c3 := (nI_eq (a := (ss k)) (b := 0) (by omega) (by omega)).mp c3
      refine mn_iconst (v := -1) dMo_lose_22 (by decide) ?_
      exact mn_iret rfl dMo_lose_23 (absurd c3 h0)
set_option maxRecDepth 100000 in
theorem c_M_poke_bad {E : mn_En} {g : mn_H} {mo tl e sz rp st m r wd ag td om : Nat} {ir : Int32} (hM : mn_at g mo (.inr (11, [.int 0, .ref (mo + 1), .int (nI tl), .ref (mo + 2), .ref (mo + 3), .int (nI e), .int (nI sz), .int (nI rp), .int (nI st), .ref (mo + 4), .ref (mo + 5), .ref (mo + 6), .int ir, .int (nI m), .int (nI r), .int (nI wd), .int (nI ag), .ref (mo + 7), .ref (mo + 8), .ref (mo + 9), .ref (mo + 10), .int (nI td), .int (nI om), .ref (mo + 11), .ref (mo + 12), .ref (mo + 13), .ref (mo + 14), .ref (mo + 15), .ref (mo + 16)]))) {x x2 x3 : Int32} (hx : x < 0 ∨ 60 ≤ x) : mn_R E MMo_poke 2 43 0 0 0 [(0, .ref mo), (1, .int x), (2, .int x2), (3, .int x3)] [] g (fun x g' => x = some (.int (-1)) ∧ mn_fr (fun q => q = mo) g g' ∧ mn_at g' mo (.inr (11, [.int 0, .ref (mo + 1), .int (nI tl), .ref (mo + 2), .ref (mo + 3), .int (nI e), .int (nI sz), .int (nI rp), .int (nI st), .ref (mo + 4), .ref (mo + 5), .ref (mo + 6), .int ir, .int (nI m), .int (nI r), .int (nI wd), .int (nI ag), .ref (mo + 7), .ref (mo + 8), .ref (mo + 9), .ref (mo + 10), .int (nI td), .int (nI om), .ref (mo + 11), .ref (mo + 12), .ref (mo + 13), .ref (mo + 14), .ref (mo + 15), .ref (mo + 16)]))) := by
  refine mn_aload_n 0 dMo_poke_0 rfl rfl ?_
  refine mn_iconst (v := 0) dMo_poke_1 (by decide) ?_
  refine mn_putf okMo 0 lMo_1 (by decide) rfl hM rfl rfl (Nat.le_of_ble_eq_true rfl) dMo_poke_2 ?_
  obtain ⟨g1, eg1⟩ : ∃ gg_, gg_ = mn_set g mo (.inr (11, [.int 0, .ref (mo + 1), .int (nI tl), .ref (mo + 2), .ref (mo + 3), .int (nI e), .int (nI sz), .int (nI rp), .int (nI st), .ref (mo + 4), .ref (mo + 5), .ref (mo + 6), .int ir, .int (nI m), .int (nI r), .int (nI wd), .int (nI ag), .ref (mo + 7), .ref (mo + 8), .ref (mo + 9), .ref (mo + 10), .int (nI td), .int (nI om), .ref (mo + 11), .ref (mo + 12), .ref (mo + 13), .ref (mo + 14), .ref (mo + 15), .ref (mo + 16)])) := ⟨_, rfl⟩
  refine mn_R.toG eg1 ?_
  have hM_g1 : mn_at g1 mo (.inr (11, [.int 0, .ref (mo + 1), .int (nI tl), .ref (mo + 2), .ref (mo + 3), .int (nI e), .int (nI sz), .int (nI rp), .int (nI st), .ref (mo + 4), .ref (mo + 5), .ref (mo + 6), .int ir, .int (nI m), .int (nI r), .int (nI wd), .int (nI ag), .ref (mo + 7), .ref (mo + 8), .ref (mo + 9), .ref (mo + 10), .int (nI td), .int (nI om), .ref (mo + 11), .ref (mo + 12), .ref (mo + 13), .ref (mo + 14), .ref (mo + 15), .ref (mo + 16)])) := by rw [eg1]; exact hM.same
  refine mn_aload_n 0 dMo_poke_5 rfl rfl ?_
  refine mn_iload_n 1 dMo_poke_6 rfl rfl ?_
  refine mn_cV (d' := 1) (w' := 22) (As := [.int x]) (stk' := [.int 1]) okMo_noSlot lMo_130 dMo_poke_7 hM_g1 rfl rfl rfl rfl (Nat.le_of_ble_eq_true rfl) (Nat.le_of_ble_eq_true rfl) (by decide) (c_M_noSlot_y hM_g1 hx) rfl ?_
  refine mn_if_ne 40 dMo_poke_10 (by decide) (fun c2 => ?_) (fun c2 => ?_)
  · refine mn_iconst (v := -1) dMo_poke_40 (by decide) ?_
    exact mn_iret rfl dMo_poke_41 ⟨rfl, (mn_fr.rf.set eg1 (by show mo = mo; omega)), hM_g1⟩
  · exact absurd c2 (by decide)
theorem i32_n0 {x : Int32} {N : Nat} (h2 : N < 2 ^ 31) (h : x < 0 ∨ nI N ≤ x) : x < 0 ∨ nI N - 1 < x := by
  rcases Nat.eq_zero_or_pos N with q | q
  · subst q
    rcases h with h | h
    · exact Or.inl h
    · exact Or.inr (Int32.lt_of_lt_of_le (show nI 0 - 1 < nI 0 by decide) h)
  · rw [show nI N - 1 = nI (N - 1) from pk_sub (a := N) (b := 1) q]
    exact i32_n1 q h2 h
set_option maxRecDepth 100000 in
theorem c_M_poke_i {E : mn_En} {g : mn_H} {mo tl e sz rp st m r wd ag td om : Nat} {ir : Int32} {sl ss : Nat → Nat} (hM : mn_at g mo (.inr (11, [.int 0, .ref (mo + 1), .int (nI tl), .ref (mo + 2), .ref (mo + 3), .int (nI e), .int (nI sz), .int (nI rp), .int (nI st), .ref (mo + 4), .ref (mo + 5), .ref (mo + 6), .int ir, .int (nI m), .int (nI r), .int (nI wd), .int (nI ag), .ref (mo + 7), .ref (mo + 8), .ref (mo + 9), .ref (mo + 10), .int (nI td), .int (nI om), .ref (mo + 11), .ref (mo + 12), .ref (mo + 13), .ref (mo + 14), .ref (mo + 15), .ref (mo + 16)]))) (hSo : mn_at g (mo + 4) (.inl (0, 4800, .inl (fun j => nI (sl j))))) (hSs : mn_at g (mo + 5) (.inl (0, 60, .inl (fun j => nI (ss j))))) {k : Nat} (hk : k < 60) (hss : ∀ k, ss k ≤ 80) {x2 x3 : Int32} (hx : x2 < 0 ∨ nI (ss k) ≤ x2) : mn_R E MMo_poke 2 43 0 0 0 [(0, .ref mo), (1, .int (nI k)), (2, .int x2), (3, .int x3)] [] g (fun x g' => x = some (.int (-1)) ∧ mn_fr (fun q => q = mo) g g' ∧ mn_at g' mo (.inr (11, [.int 0, .ref (mo + 1), .int (nI tl), .ref (mo + 2), .ref (mo + 3), .int (nI e), .int (nI sz), .int (nI rp), .int (nI st), .ref (mo + 4), .ref (mo + 5), .ref (mo + 6), .int ir, .int (nI m), .int (nI r), .int (nI wd), .int (nI ag), .ref (mo + 7), .ref (mo + 8), .ref (mo + 9), .ref (mo + 10), .int (nI td), .int (nI om), .ref (mo + 11), .ref (mo + 12), .ref (mo + 13), .ref (mo + 14), .ref (mo + 15), .ref (mo + 16)]))) := by
  have hssk := hss k
  refine mn_aload_n 0 dMo_poke_0 rfl rfl ?_
  refine mn_iconst (v := 0) dMo_poke_1 (by decide) ?_
  refine mn_putf okMo 0 lMo_1 (by decide) rfl hM rfl rfl (Nat.le_of_ble_eq_true rfl) dMo_poke_2 ?_
  obtain ⟨g1, eg1⟩ : ∃ gg_, gg_ = mn_set g mo (.inr (11, [.int 0, .ref (mo + 1), .int (nI tl), .ref (mo + 2), .ref (mo + 3), .int (nI e), .int (nI sz), .int (nI rp), .int (nI st), .ref (mo + 4), .ref (mo + 5), .ref (mo + 6), .int ir, .int (nI m), .int (nI r), .int (nI wd), .int (nI ag), .ref (mo + 7), .ref (mo + 8), .ref (mo + 9), .ref (mo + 10), .int (nI td), .int (nI om), .ref (mo + 11), .ref (mo + 12), .ref (mo + 13), .ref (mo + 14), .ref (mo + 15), .ref (mo + 16)])) := ⟨_, rfl⟩
  refine mn_R.toG eg1 ?_
  have hM_g1 : mn_at g1 mo (.inr (11, [.int 0, .ref (mo + 1), .int (nI tl), .ref (mo + 2), .ref (mo + 3), .int (nI e), .int (nI sz), .int (nI rp), .int (nI st), .ref (mo + 4), .ref (mo + 5), .ref (mo + 6), .int ir, .int (nI m), .int (nI r), .int (nI wd), .int (nI ag), .ref (mo + 7), .ref (mo + 8), .ref (mo + 9), .ref (mo + 10), .int (nI td), .int (nI om), .ref (mo + 11), .ref (mo + 12), .ref (mo + 13), .ref (mo + 14), .ref (mo + 15), .ref (mo + 16)])) := by rw [eg1]; exact hM.same
  have hSo_g1 : mn_at g1 (mo + 4) (.inl (0, 4800, .inl (fun j => nI (sl j)))) := by rw [eg1]; exact hSo.off (by omega)
  have hSs_g1 : mn_at g1 (mo + 5) (.inl (0, 60, .inl (fun j => nI (ss j)))) := by rw [eg1]; exact hSs.off (by omega)
  refine mn_aload_n 0 dMo_poke_5 rfl rfl ?_
  refine mn_iload_n 1 dMo_poke_6 rfl rfl ?_
  refine mn_cV (d' := 1) (w' := 22) (As := [.int (nI k)]) (stk' := [.int 0]) okMo_noSlot lMo_130 dMo_poke_7 hM_g1 rfl rfl rfl rfl (Nat.le_of_ble_eq_true rfl) (Nat.le_of_ble_eq_true rfl) (by decide) (c_M_noSlot_n hM_g1 (k := k) (by omega)) rfl ?_
  refine mn_if_ne 40 dMo_poke_10 (by decide) (fun c2 => ?_) (fun c2 => ?_)
  · exact absurd c2 (by decide)
  · refine mn_iload_n 2 dMo_poke_13 rfl rfl ?_
    refine mn_iconst (v := 0) dMo_poke_14 (by decide) ?_
    refine mn_aload_n 0 dMo_poke_15 rfl rfl ?_
    refine mn_get okMo 10 lMo_29 (by decide) hM_g1 rfl dMo_poke_16 ?_
    refine mn_iload_n 1 dMo_poke_19 rfl rfl ?_
    refine mn_ialdN (j := k) hSs_g1 rfl (by omega) (by omega) dMo_poke_20 ?_
    refine mn_iconst (v := 1) dMo_poke_21 (by decide) ?_
    refine mn_isub (z := nI (ss k) - 1) dMo_poke_22 rfl ?_
    refine mn_cS (d' := 0) (w' := 0) (As := [.int x2, .int 0, .int (nI (ss k) - 1)]) (stk' := [.int 0]) okMo_in lMo_68 dMo_poke_23 rfl rfl (Nat.le_of_ble_eq_true rfl) (Nat.le_of_ble_eq_true rfl) (by decide) (c_M_in_n (i32_n0 (by omega) hx)) rfl ?_
    refine mn_if_eq 40 dMo_poke_26 (by decide) (fun c3 => ?_) (fun c3 => ?_)
    · refine mn_iconst (v := -1) dMo_poke_40 (by decide) ?_
      exact mn_iret rfl dMo_poke_41 ⟨rfl, (mn_fr.rf.set eg1 (by show mo = mo; omega)), hM_g1⟩
    · exact absurd c3 (by decide)
set_option maxRecDepth 100000 in
theorem c_M_poke_m {E : mn_En} {g : mn_H} {mo tl e sz rp st m r wd ag td om : Nat} {ir : Int32} {sl ss : Nat → Nat} (hM : mn_at g mo (.inr (11, [.int 0, .ref (mo + 1), .int (nI tl), .ref (mo + 2), .ref (mo + 3), .int (nI e), .int (nI sz), .int (nI rp), .int (nI st), .ref (mo + 4), .ref (mo + 5), .ref (mo + 6), .int ir, .int (nI m), .int (nI r), .int (nI wd), .int (nI ag), .ref (mo + 7), .ref (mo + 8), .ref (mo + 9), .ref (mo + 10), .int (nI td), .int (nI om), .ref (mo + 11), .ref (mo + 12), .ref (mo + 13), .ref (mo + 14), .ref (mo + 15), .ref (mo + 16)]))) (hSo : mn_at g (mo + 4) (.inl (0, 4800, .inl (fun j => nI (sl j))))) (hSs : mn_at g (mo + 5) (.inl (0, 60, .inl (fun j => nI (ss j))))) {k i : Nat} (hk : k < 60) (hss : ∀ k, ss k ≤ 80) (hi : i < ss k) {x3 : Int32} (hx : x3 < 1 ∨ 255 < x3) : mn_R E MMo_poke 2 43 0 0 0 [(0, .ref mo), (1, .int (nI k)), (2, .int (nI i)), (3, .int x3)] [] g (fun x g' => x = some (.int (-1)) ∧ mn_fr (fun q => q = mo) g g' ∧ mn_at g' mo (.inr (11, [.int 0, .ref (mo + 1), .int (nI tl), .ref (mo + 2), .ref (mo + 3), .int (nI e), .int (nI sz), .int (nI rp), .int (nI st), .ref (mo + 4), .ref (mo + 5), .ref (mo + 6), .int ir, .int (nI m), .int (nI r), .int (nI wd), .int (nI ag), .ref (mo + 7), .ref (mo + 8), .ref (mo + 9), .ref (mo + 10), .int (nI td), .int (nI om), .ref (mo + 11), .ref (mo + 12), .ref (mo + 13), .ref (mo + 14), .ref (mo + 15), .ref (mo + 16)]))) := by
  have hssk := hss k
  refine mn_aload_n 0 dMo_poke_0 rfl rfl ?_
  refine mn_iconst (v := 0) dMo_poke_1 (by decide) ?_
  refine mn_putf okMo 0 lMo_1 (by decide) rfl hM rfl rfl (Nat.le_of_ble_eq_true rfl) dMo_poke_2 ?_
  obtain ⟨g1, eg1⟩ : ∃ gg_, gg_ = mn_set g mo (.inr (11, [.int 0, .ref (mo + 1), .int (nI tl), .ref (mo + 2), .ref (mo + 3), .int (nI e), .int (nI sz), .int (nI rp), .int (nI st), .ref (mo + 4), .ref (mo + 5), .ref (mo + 6), .int ir, .int (nI m), .int (nI r), .int (nI wd), .int (nI ag), .ref (mo + 7), .ref (mo + 8), .ref (mo + 9), .ref (mo + 10), .int (nI td), .int (nI om), .ref (mo + 11), .ref (mo + 12), .ref (mo + 13), .ref (mo + 14), .ref (mo + 15), .ref (mo + 16)])) := ⟨_, rfl⟩
  refine mn_R.toG eg1 ?_
  have hM_g1 : mn_at g1 mo (.inr (11, [.int 0, .ref (mo + 1), .int (nI tl), .ref (mo + 2), .ref (mo + 3), .int (nI e), .int (nI sz), .int (nI rp), .int (nI st), .ref (mo + 4), .ref (mo + 5), .ref (mo + 6), .int ir, .int (nI m), .int (nI r), .int (nI wd), .int (nI ag), .ref (mo + 7), .ref (mo + 8), .ref (mo + 9), .ref (mo + 10), .int (nI td), .int (nI om), .ref (mo + 11), .ref (mo + 12), .ref (mo + 13), .ref (mo + 14), .ref (mo + 15), .ref (mo + 16)])) := by rw [eg1]; exact hM.same
  have hSo_g1 : mn_at g1 (mo + 4) (.inl (0, 4800, .inl (fun j => nI (sl j)))) := by rw [eg1]; exact hSo.off (by omega)
  have hSs_g1 : mn_at g1 (mo + 5) (.inl (0, 60, .inl (fun j => nI (ss j)))) := by rw [eg1]; exact hSs.off (by omega)
  refine mn_aload_n 0 dMo_poke_5 rfl rfl ?_
  refine mn_iload_n 1 dMo_poke_6 rfl rfl ?_
  refine mn_cV (d' := 1) (w' := 22) (As := [.int (nI k)]) (stk' := [.int 0]) okMo_noSlot lMo_130 dMo_poke_7 hM_g1 rfl rfl rfl rfl (Nat.le_of_ble_eq_true rfl) (Nat.le_of_ble_eq_true rfl) (by decide) (c_M_noSlot_n hM_g1 (k := k) (by omega)) rfl ?_
  refine mn_if_ne 40 dMo_poke_10 (by decide) (fun c2 => ?_) (fun c2 => ?_)
  · exact absurd c2 (by decide)
  · refine mn_iload_n 2 dMo_poke_13 rfl rfl ?_
    refine mn_iconst (v := 0) dMo_poke_14 (by decide) ?_
    refine mn_aload_n 0 dMo_poke_15 rfl rfl ?_
    refine mn_get okMo 10 lMo_29 (by decide) hM_g1 rfl dMo_poke_16 ?_
    refine mn_iload_n 1 dMo_poke_19 rfl rfl ?_
    refine mn_ialdN (j := k) hSs_g1 rfl (by omega) (by omega) dMo_poke_20 ?_
    refine mn_iconst (v := 1) dMo_poke_21 (by decide) ?_
    refine mn_isub (z := nI (ss k - 1)) dMo_poke_22 (pk_sub (a := ss k) (b := 1) (by omega)) ?_
    refine mn_cS (d' := 0) (w' := 0) (As := [.int (nI i), .int 0, .int (nI (ss k - 1))]) (stk' := [.int 1]) okMo_in lMo_68 dMo_poke_23 rfl rfl (Nat.le_of_ble_eq_true rfl) (Nat.le_of_ble_eq_true rfl) (by decide) (c_M_in_y (nI_pos (by omega)) (ml_lt (a := i) (b := ss k - 1) (by omega) (by omega) (by omega))) rfl ?_
    refine mn_if_eq 40 dMo_poke_26 (by decide) (fun c3 => ?_) (fun c3 => ?_)
    · exact absurd c3 (by decide)
    · refine mn_iload_n 3 dMo_poke_29 rfl rfl ?_
      refine mn_iconst (v := 1) dMo_poke_30 (by decide) ?_
      refine mn_sipush (v := 255) dMo_poke_31 (by decide) ?_
      refine mn_cS (d' := 0) (w' := 0) (As := [.int x3, .int 1, .int 255]) (stk' := [.int 0]) okMo_in lMo_68 dMo_poke_34 rfl rfl (Nat.le_of_ble_eq_true rfl) (Nat.le_of_ble_eq_true rfl) (by decide) (c_M_in_n hx) rfl ?_
      refine mn_if_ne 42 dMo_poke_37 (by decide) (fun c4 => ?_) (fun c4 => ?_)
      · exact absurd c4 (by decide)
      · refine mn_iconst (v := -1) dMo_poke_40 (by decide) ?_
        exact mn_iret rfl dMo_poke_41 ⟨rfl, (mn_fr.rf.set eg1 (by show mo = mo; omega)), hM_g1⟩
set_option maxRecDepth 100000 in
theorem c_M_poke {E : mn_En} {g : mn_H} {mo tl e sz rp st m r wd ag td om : Nat} {ir : Int32} {sl ss : Nat → Nat} (hM : mn_at g mo (.inr (11, [.int 0, .ref (mo + 1), .int (nI tl), .ref (mo + 2), .ref (mo + 3), .int (nI e), .int (nI sz), .int (nI rp), .int (nI st), .ref (mo + 4), .ref (mo + 5), .ref (mo + 6), .int ir, .int (nI m), .int (nI r), .int (nI wd), .int (nI ag), .ref (mo + 7), .ref (mo + 8), .ref (mo + 9), .ref (mo + 10), .int (nI td), .int (nI om), .ref (mo + 11), .ref (mo + 12), .ref (mo + 13), .ref (mo + 14), .ref (mo + 15), .ref (mo + 16)]))) (hSo : mn_at g (mo + 4) (.inl (0, 4800, .inl (fun j => nI (sl j))))) (hSs : mn_at g (mo + 5) (.inl (0, 60, .inl (fun j => nI (ss j))))) {k i mk : Nat} (hk : k < 60) (hss : ∀ k, ss k ≤ 80) (hi : i < ss k) (hm1 : 1 ≤ mk) (hm2 : mk < 256) : mn_R E MMo_poke 2 43 0 0 0 [(0, .ref mo), (1, .int (nI k)), (2, .int (nI i)), (3, .int (nI mk))] [] g (fun x g' => x = some (.int (nI (sl (80 * k + i) ^^^ mk))) ∧ mn_fr (fun q => q = mo ∨ q = mo + 4) g g' ∧ mn_at g' mo (.inr (11, [.int 0, .ref (mo + 1), .int (nI tl), .ref (mo + 2), .ref (mo + 3), .int (nI e), .int (nI sz), .int (nI rp), .int (nI st), .ref (mo + 4), .ref (mo + 5), .ref (mo + 6), .int ir, .int (nI m), .int (nI r), .int (nI wd), .int (nI ag), .ref (mo + 7), .ref (mo + 8), .ref (mo + 9), .ref (mo + 10), .int (nI td), .int (nI om), .ref (mo + 11), .ref (mo + 12), .ref (mo + 13), .ref (mo + 14), .ref (mo + 15), .ref (mo + 16)])) ∧ mn_at g' (mo + 4) (.inl (0, 4800, .inl (fun j => nI (va_up sl (80 * k + i) (sl (80 * k + i) ^^^ mk) j))))) := by
  have hssk := hss k
  refine mn_aload_n 0 dMo_poke_0 rfl rfl ?_
  refine mn_iconst (v := 0) dMo_poke_1 (by decide) ?_
  refine mn_putf okMo 0 lMo_1 (by decide) rfl hM rfl rfl (Nat.le_of_ble_eq_true rfl) dMo_poke_2 ?_
  obtain ⟨g1, eg1⟩ : ∃ gg_, gg_ = mn_set g mo (.inr (11, [.int 0, .ref (mo + 1), .int (nI tl), .ref (mo + 2), .ref (mo + 3), .int (nI e), .int (nI sz), .int (nI rp), .int (nI st), .ref (mo + 4), .ref (mo + 5), .ref (mo + 6), .int ir, .int (nI m), .int (nI r), .int (nI wd), .int (nI ag), .ref (mo + 7), .ref (mo + 8), .ref (mo + 9), .ref (mo + 10), .int (nI td), .int (nI om), .ref (mo + 11), .ref (mo + 12), .ref (mo + 13), .ref (mo + 14), .ref (mo + 15), .ref (mo + 16)])) := ⟨_, rfl⟩
  refine mn_R.toG eg1 ?_
  have hM_g1 : mn_at g1 mo (.inr (11, [.int 0, .ref (mo + 1), .int (nI tl), .ref (mo + 2), .ref (mo + 3), .int (nI e), .int (nI sz), .int (nI rp), .int (nI st), .ref (mo + 4), .ref (mo + 5), .ref (mo + 6), .int ir, .int (nI m), .int (nI r), .int (nI wd), .int (nI ag), .ref (mo + 7), .ref (mo + 8), .ref (mo + 9), .ref (mo + 10), .int (nI td), .int (nI om), .ref (mo + 11), .ref (mo + 12), .ref (mo + 13), .ref (mo + 14), .ref (mo + 15), .ref (mo + 16)])) := by rw [eg1]; exact hM.same
  have hSo_g1 : mn_at g1 (mo + 4) (.inl (0, 4800, .inl (fun j => nI (sl j)))) := by rw [eg1]; exact hSo.off (by omega)
  have hSs_g1 : mn_at g1 (mo + 5) (.inl (0, 60, .inl (fun j => nI (ss j)))) := by rw [eg1]; exact hSs.off (by omega)
  refine mn_aload_n 0 dMo_poke_5 rfl rfl ?_
  refine mn_iload_n 1 dMo_poke_6 rfl rfl ?_
  refine mn_cV (d' := 1) (w' := 22) (As := [.int (nI k)]) (stk' := [.int 0]) okMo_noSlot lMo_130 dMo_poke_7 hM_g1 rfl rfl rfl rfl (Nat.le_of_ble_eq_true rfl) (Nat.le_of_ble_eq_true rfl) (by decide) (c_M_noSlot_n hM_g1 (k := k) (by omega)) rfl ?_
  refine mn_if_ne 40 dMo_poke_10 (by decide) (fun c2 => ?_) (fun c2 => ?_)
  · exact absurd c2 (by decide)
  · refine mn_iload_n 2 dMo_poke_13 rfl rfl ?_
    refine mn_iconst (v := 0) dMo_poke_14 (by decide) ?_
    refine mn_aload_n 0 dMo_poke_15 rfl rfl ?_
    refine mn_get okMo 10 lMo_29 (by decide) hM_g1 rfl dMo_poke_16 ?_
    refine mn_iload_n 1 dMo_poke_19 rfl rfl ?_
    refine mn_ialdN (j := k) hSs_g1 rfl (by omega) (by omega) dMo_poke_20 ?_
    refine mn_iconst (v := 1) dMo_poke_21 (by decide) ?_
    refine mn_isub (z := nI (ss k - 1)) dMo_poke_22 (pk_sub (a := ss k) (b := 1) (by omega)) ?_
    refine mn_cS (d' := 0) (w' := 0) (As := [.int (nI i), .int 0, .int (nI (ss k - 1))]) (stk' := [.int 1]) okMo_in lMo_68 dMo_poke_23 rfl rfl (Nat.le_of_ble_eq_true rfl) (Nat.le_of_ble_eq_true rfl) (by decide) (c_M_in_y (nI_pos (by omega)) (ml_lt (a := i) (b := ss k - 1) (by omega) (by omega) (by omega))) rfl ?_
    refine mn_if_eq 40 dMo_poke_26 (by decide) (fun c3 => ?_) (fun c3 => ?_)
    · exact absurd c3 (by decide)
    · refine mn_iload_n 3 dMo_poke_29 rfl rfl ?_
      refine mn_iconst (v := 1) dMo_poke_30 (by decide) ?_
      refine mn_sipush (v := 255) dMo_poke_31 (by decide) ?_
      refine mn_cS (d' := 0) (w' := 0) (As := [.int (nI mk), .int 1, .int 255]) (stk' := [.int 1]) okMo_in lMo_68 dMo_poke_34 rfl rfl (Nat.le_of_ble_eq_true rfl) (Nat.le_of_ble_eq_true rfl) (by decide) (c_M_in_y (ml_lt (a := 1) (b := mk) (by omega) (by omega) hm1) (ml_lt (a := mk) (b := 255) (by omega) (by omega) (by omega))) rfl ?_
      refine mn_if_ne 42 dMo_poke_37 (by decide) (fun c4 => ?_) (fun c4 => ?_)
      · refine mn_aload_n 0 dMo_poke_42 rfl rfl ?_
        refine mn_get okMo 9 lMo_26 (by decide) hM_g1 rfl dMo_poke_43 ?_
        refine mn_bipush (v := 80) dMo_poke_46 (by decide) ?_
        refine mn_iload_n 1 dMo_poke_48 rfl rfl ?_
        refine mn_imul (z := nI (80 * k)) dMo_poke_49 (pk_mul 80 k) ?_
        refine mn_iload_n 2 dMo_poke_50 rfl rfl ?_
        refine mn_iadd (z := nI (80 * k + i)) dMo_poke_51 (nI_add (80 * k) i) ?_
        refine mn_aload_n 0 dMo_poke_52 rfl rfl ?_
        refine mn_get okMo 9 lMo_26 (by decide) hM_g1 rfl dMo_poke_53 ?_
        refine mn_bipush (v := 80) dMo_poke_56 (by decide) ?_
        refine mn_iload_n 1 dMo_poke_58 rfl rfl ?_
        refine mn_imul (z := nI (80 * k)) dMo_poke_59 (pk_mul 80 k) ?_
        refine mn_iload_n 2 dMo_poke_60 rfl rfl ?_
        refine mn_iadd (z := nI (80 * k + i)) dMo_poke_61 (nI_add (80 * k) i) ?_
        refine mn_ialdN (j := 80 * k + i) hSo_g1 rfl (by omega) (by omega) dMo_poke_62 ?_
        refine mn_iload_n 3 dMo_poke_63 rfl rfl ?_
        refine mn_ixor (z := nI ((sl (80 * k + i)) ^^^ mk)) dMo_poke_64 (nx_xor (sl (80 * k + i)) mk) ?_
        refine mn_iastN (j := 80 * k + i) hSo_g1 rfl (by omega) (by omega) dMo_poke_65 ?_
        obtain ⟨g5, eg5⟩ : ∃ gg_, gg_ = mn_set g1 (mo + 4) (.inl (0, 4800, .inl (upd (fun j => nI (sl j)) (80 * k + i) (nI ((sl (80 * k + i)) ^^^ mk))))) := ⟨_, rfl⟩
        refine mn_R.toG eg5 ?_
        have hM_g5 : mn_at g5 mo (.inr (11, [.int 0, .ref (mo + 1), .int (nI tl), .ref (mo + 2), .ref (mo + 3), .int (nI e), .int (nI sz), .int (nI rp), .int (nI st), .ref (mo + 4), .ref (mo + 5), .ref (mo + 6), .int ir, .int (nI m), .int (nI r), .int (nI wd), .int (nI ag), .ref (mo + 7), .ref (mo + 8), .ref (mo + 9), .ref (mo + 10), .int (nI td), .int (nI om), .ref (mo + 11), .ref (mo + 12), .ref (mo + 13), .ref (mo + 14), .ref (mo + 15), .ref (mo + 16)])) := by rw [eg5]; exact hM_g1.off (by omega)
        have hSo_g5 : mn_at g5 (mo + 4) (.inl (0, 4800, .inl (upd (fun j => nI (sl j)) (80 * k + i) (nI ((sl (80 * k + i)) ^^^ mk))))) := by rw [eg5]; exact hSo_g1.same
        have hSs_g5 : mn_at g5 (mo + 5) (.inl (0, 60, .inl (fun j => nI (ss j)))) := by rw [eg5]; exact hSs_g1.off (by omega)
        refine mn_aload_n 0 dMo_poke_66 rfl rfl ?_
        refine mn_get okMo 9 lMo_26 (by decide) hM_g5 rfl dMo_poke_67 ?_
        refine mn_bipush (v := 80) dMo_poke_70 (by decide) ?_
        refine mn_iload_n 1 dMo_poke_72 rfl rfl ?_
        refine mn_imul (z := nI (80 * k)) dMo_poke_73 (pk_mul 80 k) ?_
        refine mn_iload_n 2 dMo_poke_74 rfl rfl ?_
        refine mn_iadd (z := nI (80 * k + i)) dMo_poke_75 (nI_add (80 * k) i) ?_
        refine mn_ialdN (j := 80 * k + i) hSo_g5 rfl (by omega) (by omega) dMo_poke_76 ?_
        exact mn_iret rfl dMo_poke_77 (by have e9 : (upd (fun j => nI (sl j)) (80 * k + i) (nI (sl (80 * k + i) ^^^ mk))) (80 * k + i) = nI (sl (80 * k + i) ^^^ mk) := if_pos rfl; exact ⟨congrArg (fun q => some (Value.int q)) e9, ((mn_fr.rf.set eg1 (by show mo = mo ∨ mo = mo + 4; omega)).set eg5 (by show (mo + 4) = mo ∨ (mo + 4) = mo + 4; omega)), hM_g5, by rw [← upd_nI]; exact hSo_g5⟩)
      · exact absurd c4 (by decide)
set_option maxRecDepth 100000 in
theorem c_M_swap_bad1 {E : mn_En} {g : mn_H} {mo tl e sz rp st m r wd ag td om : Nat} {ir : Int32} (hM : mn_at g mo (.inr (11, [.int 0, .ref (mo + 1), .int (nI tl), .ref (mo + 2), .ref (mo + 3), .int (nI e), .int (nI sz), .int (nI rp), .int (nI st), .ref (mo + 4), .ref (mo + 5), .ref (mo + 6), .int ir, .int (nI m), .int (nI r), .int (nI wd), .int (nI ag), .ref (mo + 7), .ref (mo + 8), .ref (mo + 9), .ref (mo + 10), .int (nI td), .int (nI om), .ref (mo + 11), .ref (mo + 12), .ref (mo + 13), .ref (mo + 14), .ref (mo + 15), .ref (mo + 16)]))) {x x2 : Int32} (hx : x < 0 ∨ 60 ≤ x) : mn_R E MMo_swap 2 43 0 0 0 [(0, .ref mo), (1, .int x), (2, .int x2)] [] g (fun x g' => x = some (.int (-1)) ∧ mn_fr (fun q => q = mo) g g' ∧ mn_at g' mo (.inr (11, [.int 0, .ref (mo + 1), .int (nI tl), .ref (mo + 2), .ref (mo + 3), .int (nI e), .int (nI sz), .int (nI rp), .int (nI st), .ref (mo + 4), .ref (mo + 5), .ref (mo + 6), .int ir, .int (nI m), .int (nI r), .int (nI wd), .int (nI ag), .ref (mo + 7), .ref (mo + 8), .ref (mo + 9), .ref (mo + 10), .int (nI td), .int (nI om), .ref (mo + 11), .ref (mo + 12), .ref (mo + 13), .ref (mo + 14), .ref (mo + 15), .ref (mo + 16)]))) := by
  refine mn_aload_n 0 dMo_swap_0 rfl rfl ?_
  refine mn_iconst (v := 0) dMo_swap_1 (by decide) ?_
  refine mn_putf okMo 0 lMo_1 (by decide) rfl hM rfl rfl (Nat.le_of_ble_eq_true rfl) dMo_swap_2 ?_
  obtain ⟨g1, eg1⟩ : ∃ gg_, gg_ = mn_set g mo (.inr (11, [.int 0, .ref (mo + 1), .int (nI tl), .ref (mo + 2), .ref (mo + 3), .int (nI e), .int (nI sz), .int (nI rp), .int (nI st), .ref (mo + 4), .ref (mo + 5), .ref (mo + 6), .int ir, .int (nI m), .int (nI r), .int (nI wd), .int (nI ag), .ref (mo + 7), .ref (mo + 8), .ref (mo + 9), .ref (mo + 10), .int (nI td), .int (nI om), .ref (mo + 11), .ref (mo + 12), .ref (mo + 13), .ref (mo + 14), .ref (mo + 15), .ref (mo + 16)])) := ⟨_, rfl⟩
  refine mn_R.toG eg1 ?_
  have hM_g1 : mn_at g1 mo (.inr (11, [.int 0, .ref (mo + 1), .int (nI tl), .ref (mo + 2), .ref (mo + 3), .int (nI e), .int (nI sz), .int (nI rp), .int (nI st), .ref (mo + 4), .ref (mo + 5), .ref (mo + 6), .int ir, .int (nI m), .int (nI r), .int (nI wd), .int (nI ag), .ref (mo + 7), .ref (mo + 8), .ref (mo + 9), .ref (mo + 10), .int (nI td), .int (nI om), .ref (mo + 11), .ref (mo + 12), .ref (mo + 13), .ref (mo + 14), .ref (mo + 15), .ref (mo + 16)])) := by rw [eg1]; exact hM.same
  refine mn_aload_n 0 dMo_swap_5 rfl rfl ?_
  refine mn_iload_n 1 dMo_swap_6 rfl rfl ?_
  refine mn_cV (d' := 1) (w' := 22) (As := [.int x]) (stk' := [.int 1]) okMo_noSlot lMo_130 dMo_swap_7 hM_g1 rfl rfl rfl rfl (Nat.le_of_ble_eq_true rfl) (Nat.le_of_ble_eq_true rfl) (by decide) (c_M_noSlot_y hM_g1 hx) rfl ?_
  refine mn_if_ne 21 dMo_swap_10 (by decide) (fun c2 => ?_) (fun c2 => ?_)
  · refine mn_iconst (v := -1) dMo_swap_21 (by decide) ?_
    exact mn_iret rfl dMo_swap_22 ⟨rfl, (mn_fr.rf.set eg1 (by show mo = mo; omega)), hM_g1⟩
  · exact absurd c2 (by decide)
set_option maxRecDepth 100000 in
theorem c_M_swap_bad2 {E : mn_En} {g : mn_H} {mo tl e sz rp st m r wd ag td om : Nat} {ir : Int32} (hM : mn_at g mo (.inr (11, [.int 0, .ref (mo + 1), .int (nI tl), .ref (mo + 2), .ref (mo + 3), .int (nI e), .int (nI sz), .int (nI rp), .int (nI st), .ref (mo + 4), .ref (mo + 5), .ref (mo + 6), .int ir, .int (nI m), .int (nI r), .int (nI wd), .int (nI ag), .ref (mo + 7), .ref (mo + 8), .ref (mo + 9), .ref (mo + 10), .int (nI td), .int (nI om), .ref (mo + 11), .ref (mo + 12), .ref (mo + 13), .ref (mo + 14), .ref (mo + 15), .ref (mo + 16)]))) {k : Nat} (hk : k < 60) {x : Int32} (hx : x < 0 ∨ 60 ≤ x) : mn_R E MMo_swap 2 43 0 0 0 [(0, .ref mo), (1, .int (nI k)), (2, .int x)] [] g (fun x g' => x = some (.int (-1)) ∧ mn_fr (fun q => q = mo) g g' ∧ mn_at g' mo (.inr (11, [.int 0, .ref (mo + 1), .int (nI tl), .ref (mo + 2), .ref (mo + 3), .int (nI e), .int (nI sz), .int (nI rp), .int (nI st), .ref (mo + 4), .ref (mo + 5), .ref (mo + 6), .int ir, .int (nI m), .int (nI r), .int (nI wd), .int (nI ag), .ref (mo + 7), .ref (mo + 8), .ref (mo + 9), .ref (mo + 10), .int (nI td), .int (nI om), .ref (mo + 11), .ref (mo + 12), .ref (mo + 13), .ref (mo + 14), .ref (mo + 15), .ref (mo + 16)]))) := by
  refine mn_aload_n 0 dMo_swap_0 rfl rfl ?_
  refine mn_iconst (v := 0) dMo_swap_1 (by decide) ?_
  refine mn_putf okMo 0 lMo_1 (by decide) rfl hM rfl rfl (Nat.le_of_ble_eq_true rfl) dMo_swap_2 ?_
  obtain ⟨g1, eg1⟩ : ∃ gg_, gg_ = mn_set g mo (.inr (11, [.int 0, .ref (mo + 1), .int (nI tl), .ref (mo + 2), .ref (mo + 3), .int (nI e), .int (nI sz), .int (nI rp), .int (nI st), .ref (mo + 4), .ref (mo + 5), .ref (mo + 6), .int ir, .int (nI m), .int (nI r), .int (nI wd), .int (nI ag), .ref (mo + 7), .ref (mo + 8), .ref (mo + 9), .ref (mo + 10), .int (nI td), .int (nI om), .ref (mo + 11), .ref (mo + 12), .ref (mo + 13), .ref (mo + 14), .ref (mo + 15), .ref (mo + 16)])) := ⟨_, rfl⟩
  refine mn_R.toG eg1 ?_
  have hM_g1 : mn_at g1 mo (.inr (11, [.int 0, .ref (mo + 1), .int (nI tl), .ref (mo + 2), .ref (mo + 3), .int (nI e), .int (nI sz), .int (nI rp), .int (nI st), .ref (mo + 4), .ref (mo + 5), .ref (mo + 6), .int ir, .int (nI m), .int (nI r), .int (nI wd), .int (nI ag), .ref (mo + 7), .ref (mo + 8), .ref (mo + 9), .ref (mo + 10), .int (nI td), .int (nI om), .ref (mo + 11), .ref (mo + 12), .ref (mo + 13), .ref (mo + 14), .ref (mo + 15), .ref (mo + 16)])) := by rw [eg1]; exact hM.same
  refine mn_aload_n 0 dMo_swap_5 rfl rfl ?_
  refine mn_iload_n 1 dMo_swap_6 rfl rfl ?_
  refine mn_cV (d' := 1) (w' := 22) (As := [.int (nI k)]) (stk' := [.int 0]) okMo_noSlot lMo_130 dMo_swap_7 hM_g1 rfl rfl rfl rfl (Nat.le_of_ble_eq_true rfl) (Nat.le_of_ble_eq_true rfl) (by decide) (c_M_noSlot_n hM_g1 (k := k) (by omega)) rfl ?_
  refine mn_if_ne 21 dMo_swap_10 (by decide) (fun c2 => ?_) (fun c2 => ?_)
  · exact absurd c2 (by decide)
  · refine mn_aload_n 0 dMo_swap_13 rfl rfl ?_
    refine mn_iload_n 2 dMo_swap_14 rfl rfl ?_
    refine mn_cV (d' := 1) (w' := 22) (As := [.int x]) (stk' := [.int 1]) okMo_noSlot lMo_130 dMo_swap_15 hM_g1 rfl rfl rfl rfl (Nat.le_of_ble_eq_true rfl) (Nat.le_of_ble_eq_true rfl) (by decide) (c_M_noSlot_y hM_g1 hx) rfl ?_
    refine mn_if_eq 23 dMo_swap_18 (by decide) (fun c3 => ?_) (fun c3 => ?_)
    · exact absurd c3 (by decide)
    · refine mn_iconst (v := -1) dMo_swap_21 (by decide) ?_
      exact mn_iret rfl dMo_swap_22 ⟨rfl, (mn_fr.rf.set eg1 (by show mo = mo; omega)), hM_g1⟩
/-- the bytes of slots a and b change places, k of them -/
def swL (sl : Nat → Nat) (a b k : Nat) : Nat → Nat := fun p => if 80 * a ≤ p ∧ p < 80 * a + k then sl (80 * b + (p - 80 * a)) else if 80 * b ≤ p ∧ p < 80 * b + k then sl (80 * a + (p - 80 * b)) else sl p
theorem swL_0 (sl : Nat → Nat) (a b : Nat) : swL sl a b 0 = sl := by funext p; unfold swL; rw [if_neg (by omega), if_neg (by omega)]
theorem swL_at {sl : Nat → Nat} {a b k : Nat} (hk : k < 80) : swL sl a b k (80 * a + k) = sl (80 * a + k) ∧ swL sl a b k (80 * b + k) = sl (80 * b + k) := by
  unfold swL
  constructor
  · rw [if_neg (by omega)]
    by_cases e : a = b
    · subst e; rw [if_neg (by omega)]
    · rw [if_neg (by omega)]
  · by_cases e : a = b
    · subst e; rw [if_neg (by omega), if_neg (by omega)]
    · rw [if_neg (by omega), if_neg (by omega)]
theorem swL_s (sl : Nat → Nat) {a b k : Nat} (hk : k < 80) : va_up (va_up (swL sl a b k) (80 * a + k) (sl (80 * b + k))) (80 * b + k) (sl (80 * a + k)) = swL sl a b (k + 1) := by
  funext p
  by_cases e1 : p = 80 * b + k
  · rw [e1, va_up_s]
    unfold swL
    by_cases e : a = b
    · subst e
      rw [if_pos (by omega), show 80 * a + k - 80 * a = k by omega]
    · rw [if_neg (by omega), if_pos (by omega), show 80 * b + k - 80 * b = k by omega]
  · rw [va_up_n _ _ e1]
    by_cases e2 : p = 80 * a + k
    · rw [e2, va_up_s]
      unfold swL
      rw [if_pos (by omega), show 80 * a + k - 80 * a = k by omega]
    · rw [va_up_n _ _ e2]
      unfold swL
      by_cases h1 : 80 * a ≤ p ∧ p < 80 * a + k
      · rw [if_pos h1, if_pos (show 80 * a ≤ p ∧ p < 80 * a + (k + 1) by omega)]
      · rw [if_neg h1, if_neg (show ¬ (80 * a ≤ p ∧ p < 80 * a + (k + 1)) by omega)]
        by_cases h2 : 80 * b ≤ p ∧ p < 80 * b + k
        · rw [if_pos h2, if_pos (show 80 * b ≤ p ∧ p < 80 * b + (k + 1) by omega)]
        · rw [if_neg h2, if_neg (show ¬ (80 * b ≤ p ∧ p < 80 * b + (k + 1)) by omega)]
theorem swL_lt {sl : Nat → Nat} (h : ∀ j, sl j < 256) (a b k : Nat) : ∀ p, swL sl a b k p < 256 := by
  intro p
  unfold swL
  split
  · exact h _
  · split
    · exact h _
    · exact h _
theorem swL_sb (sl : Nat → Nat) {a b i j : Nat} (hj : j < 80) : sbS (swL sl a b 80) i j = swp (sbS sl) a b i j := by
  show swL sl a b 80 (80 * i + j) = swp (sbS sl) a b i j
  unfold swL swp
  by_cases h1 : i = a
  · subst h1
    rw [if_pos (show 80 * i ≤ 80 * i + j ∧ 80 * i + j < 80 * i + 80 by omega), show 80 * i + j - 80 * i = j by omega]
    by_cases h2 : i = b
    · subst h2; rw [if_pos rfl]; rfl
    · rw [if_neg h2, if_pos rfl]; rfl
  · rw [if_neg (by omega)]
    by_cases h2 : i = b
    · subst h2
      rw [if_pos (show 80 * i ≤ 80 * i + j ∧ 80 * i + j < 80 * i + 80 by omega), show 80 * i + j - 80 * i = j by omega, if_pos rfl]; rfl
    · rw [if_neg (by omega), if_neg h2, if_neg h1]; rfl
theorem swp_up (ss : Nat → Nat) (a b : Nat) : va_up (va_up ss a (ss b)) b (ss a) = swp ss a b := rfl
/-- slot a's bytes come into slot b, k of them -/
def cyL (sl : Nat → Nat) (a b k : Nat) : Nat → Nat := fun p => if 80 * b ≤ p ∧ p < 80 * b + k then sl (80 * a + (p - 80 * b)) else sl p
theorem cyL_0 (sl : Nat → Nat) (a b : Nat) : cyL sl a b 0 = sl := by funext p; unfold cyL; rw [if_neg (by omega)]
theorem cyL_at {sl : Nat → Nat} {a b k : Nat} (hab : a ≠ b) (hk : k < 80) : cyL sl a b k (80 * a + k) = sl (80 * a + k) := by unfold cyL; rw [if_neg (by omega)]
theorem cyL_s (sl : Nat → Nat) {a b k : Nat} : va_up (cyL sl a b k) (80 * b + k) (sl (80 * a + k)) = cyL sl a b (k + 1) := by
  funext p
  by_cases e1 : p = 80 * b + k
  · rw [e1, va_up_s]
    unfold cyL
    rw [if_pos (by omega), show 80 * b + k - 80 * b = k by omega]
  · rw [va_up_n _ _ e1]
    unfold cyL
    by_cases h2 : 80 * b ≤ p ∧ p < 80 * b + k
    · rw [if_pos h2, if_pos (show 80 * b ≤ p ∧ p < 80 * b + (k + 1) by omega)]
    · rw [if_neg h2, if_neg (show ¬ (80 * b ≤ p ∧ p < 80 * b + (k + 1)) by omega)]
theorem cyL_lt {sl : Nat → Nat} (h : ∀ j, sl j < 256) (a b k : Nat) : ∀ p, cyL sl a b k p < 256 := by
  intro p
  unfold cyL
  split
  · exact h _
  · exact h _
theorem cyL_sb (sl : Nat → Nat) {a b i j : Nat} (hj : j < 80) : sbS (cyL sl a b 80) i j = va_up (sbS sl) b (sbS sl a) i j := by
  show cyL sl a b 80 (80 * i + j) = _
  unfold cyL
  by_cases h2 : i = b
  · subst h2
    rw [if_pos (show 80 * i ≤ 80 * i + j ∧ 80 * i + j < 80 * i + 80 by omega), show 80 * i + j - 80 * i = j by omega, va_up_s]; rfl
  · rw [if_neg (by omega), va_up_n _ _ h2]; rfl
set_option maxRecDepth 100000 in
theorem c_M_swap_l {E : mn_En} {g : mn_H} {mo tl e sz rp st m r wd ag td om : Nat} {ir : Int32} {sl ss : Nat → Nat} {x3 : Int32} {a b : Nat} (ha : a < 60) (hb : b < 60) : ∀ (fu k : Nat) (g0 : mn_H), k ≤ 80 → 80 - k < fu → mn_fr (fun q => q = mo ∨ q = mo + 4 ∨ q = mo + 5) g g0 → mn_at g0 mo (.inr (11, [.int 0, .ref (mo + 1), .int (nI tl), .ref (mo + 2), .ref (mo + 3), .int (nI e), .int (nI sz), .int (nI rp), .int (nI st), .ref (mo + 4), .ref (mo + 5), .ref (mo + 6), .int ir, .int (nI m), .int (nI r), .int (nI wd), .int (nI ag), .ref (mo + 7), .ref (mo + 8), .ref (mo + 9), .ref (mo + 10), .int (nI td), .int (nI om), .ref (mo + 11), .ref (mo + 12), .ref (mo + 13), .ref (mo + 14), .ref (mo + 15), .ref (mo + 16)])) → mn_at g0 (mo + 4) (.inl (0, 4800, .inl (fun j => nI ((swL sl a b k) j)))) → mn_at g0 (mo + 5) (.inl (0, 60, .inl (fun j => nI ((swp ss a b) j)))) → mn_R E MMo_swap 2 43 0 0 52 [(0, .ref mo), (1, .int (nI a)), (2, .int (nI b)), (3, .int x3), (4, .int (nI k))] [] g0 (fun x g' => x = some (.int 1) ∧ mn_fr (fun q => q = mo ∨ q = mo + 4 ∨ q = mo + 5) g g' ∧ mn_at g' mo (.inr (11, [.int 0, .ref (mo + 1), .int (nI tl), .ref (mo + 2), .ref (mo + 3), .int (nI e), .int (nI sz), .int (nI rp), .int (nI st), .ref (mo + 4), .ref (mo + 5), .ref (mo + 6), .int ir, .int (nI m), .int (nI r), .int (nI wd), .int (nI ag), .ref (mo + 7), .ref (mo + 8), .ref (mo + 9), .ref (mo + 10), .int (nI td), .int (nI om), .ref (mo + 11), .ref (mo + 12), .ref (mo + 13), .ref (mo + 14), .ref (mo + 15), .ref (mo + 16)])) ∧ mn_at g' (mo + 4) (.inl (0, 4800, .inl (fun j => nI (swL sl a b 80 j)))) ∧ mn_at g' (mo + 5) (.inl (0, 60, .inl (fun j => nI (swp ss a b j))))) := by
  intro fu
  induction fu with
  | zero => intro k g0 h1 h2; exact absurd h2 (by omega)
  | succ fu ih =>
    intro k g0 h1 h2 hfr hM hSo hSs
    refine mn_iload 4 dMo_swap_52 rfl ?_
    refine mn_bipush (v := 80) dMo_swap_54 (by decide) ?_
    refine mn_icmp_ge 117 dMo_swap_56 (by decide) (fun c1 => ?_) (fun c1 => ?_)
    · have c1 := (nI_leI (a := 80) (b := k) (by omega) (by omega)).mp c1
      refine mn_iconst (v := 1) dMo_swap_117 (by decide) ?_
      exact mn_iret rfl dMo_swap_118 (by obtain rfl : k = 80 := (by omega); exact ⟨rfl, hfr, hM, hSo, hSs⟩)
    · have c1 := mt (nI_leI (a := 80) (b := k) (by omega) (by omega)).mpr c1
      have hsw := swL_at (sl := sl) (a := a) (b := b) (k := k) (by omega)
      refine mn_aload_n 0 dMo_swap_59 rfl rfl ?_
      refine mn_get okMo 9 lMo_26 (by decide) hM rfl dMo_swap_60 ?_
      refine mn_bipush (v := 80) dMo_swap_63 (by decide) ?_
      refine mn_iload_n 1 dMo_swap_65 rfl rfl ?_
      refine mn_imul (z := nI (80 * a)) dMo_swap_66 (pk_mul 80 a) ?_
      refine mn_iload 4 dMo_swap_67 rfl ?_
      refine mn_iadd (z := nI (80 * a + k)) dMo_swap_69 (nI_add (80 * a) k) ?_
      refine mn_ialdN (j := 80 * a + k) hSo rfl (by omega) (by omega) dMo_swap_70 ?_
      refine mn_istore (ls' := [(0, .ref mo), (1, .int (nI a)), (2, .int (nI b)), (3, .int x3), (4, .int (nI k)), (5, .int (nI ((swL sl a b k) (80 * a + k))))]) dMo_swap_71 (by decide) rfl ?_
      refine mn_aload_n 0 dMo_swap_73 rfl rfl ?_
      refine mn_get okMo 9 lMo_26 (by decide) hM rfl dMo_swap_74 ?_
      refine mn_bipush (v := 80) dMo_swap_77 (by decide) ?_
      refine mn_iload_n 1 dMo_swap_79 rfl rfl ?_
      refine mn_imul (z := nI (80 * a)) dMo_swap_80 (pk_mul 80 a) ?_
      refine mn_iload 4 dMo_swap_81 rfl ?_
      refine mn_iadd (z := nI (80 * a + k)) dMo_swap_83 (nI_add (80 * a) k) ?_
      refine mn_aload_n 0 dMo_swap_84 rfl rfl ?_
      refine mn_get okMo 9 lMo_26 (by decide) hM rfl dMo_swap_85 ?_
      refine mn_bipush (v := 80) dMo_swap_88 (by decide) ?_
      refine mn_iload_n 2 dMo_swap_90 rfl rfl ?_
      refine mn_imul (z := nI (80 * b)) dMo_swap_91 (pk_mul 80 b) ?_
      refine mn_iload 4 dMo_swap_92 rfl ?_
      refine mn_iadd (z := nI (80 * b + k)) dMo_swap_94 (nI_add (80 * b) k) ?_
      refine mn_ialdN (j := 80 * b + k) hSo rfl (by omega) (by omega) dMo_swap_95 ?_
      refine mn_iastN (j := 80 * a + k) hSo rfl (by omega) (by omega) dMo_swap_96 ?_
      obtain ⟨g2, eg2⟩ : ∃ gg_, gg_ = mn_set g0 (mo + 4) (.inl (0, 4800, .inl (upd (fun j => nI ((swL sl a b k) j)) (80 * a + k) (nI ((swL sl a b k) (80 * b + k)))))) := ⟨_, rfl⟩
      refine mn_R.toG eg2 ?_
      have hM_g2 : mn_at g2 mo (.inr (11, [.int 0, .ref (mo + 1), .int (nI tl), .ref (mo + 2), .ref (mo + 3), .int (nI e), .int (nI sz), .int (nI rp), .int (nI st), .ref (mo + 4), .ref (mo + 5), .ref (mo + 6), .int ir, .int (nI m), .int (nI r), .int (nI wd), .int (nI ag), .ref (mo + 7), .ref (mo + 8), .ref (mo + 9), .ref (mo + 10), .int (nI td), .int (nI om), .ref (mo + 11), .ref (mo + 12), .ref (mo + 13), .ref (mo + 14), .ref (mo + 15), .ref (mo + 16)])) := by rw [eg2]; exact hM.off (by omega)
      have hSo_g2 : mn_at g2 (mo + 4) (.inl (0, 4800, .inl (upd (fun j => nI ((swL sl a b k) j)) (80 * a + k) (nI ((swL sl a b k) (80 * b + k)))))) := by rw [eg2]; exact hSo.same
      have hSs_g2 : mn_at g2 (mo + 5) (.inl (0, 60, .inl (fun j => nI ((swp ss a b) j)))) := by rw [eg2]; exact hSs.off (by omega)
      refine mn_aload_n 0 dMo_swap_97 rfl rfl ?_
      refine mn_get okMo 9 lMo_26 (by decide) hM_g2 rfl dMo_swap_98 ?_
      refine mn_bipush (v := 80) dMo_swap_101 (by decide) ?_
      refine mn_iload_n 2 dMo_swap_103 rfl rfl ?_
      refine mn_imul (z := nI (80 * b)) dMo_swap_104 (pk_mul 80 b) ?_
      refine mn_iload 4 dMo_swap_105 rfl ?_
      refine mn_iadd (z := nI (80 * b + k)) dMo_swap_107 (nI_add (80 * b) k) ?_
      refine mn_iload 5 dMo_swap_108 rfl ?_
      refine mn_iastN (j := 80 * b + k) hSo_g2 rfl (by omega) (by omega) dMo_swap_110 ?_
      obtain ⟨g3, eg3⟩ : ∃ gg_, gg_ = mn_set g2 (mo + 4) (.inl (0, 4800, .inl (upd (upd (fun j => nI ((swL sl a b k) j)) (80 * a + k) (nI ((swL sl a b k) (80 * b + k)))) (80 * b + k) (nI ((swL sl a b k) (80 * a + k)))))) := ⟨_, rfl⟩
      refine mn_R.toG eg3 ?_
      have hM_g3 : mn_at g3 mo (.inr (11, [.int 0, .ref (mo + 1), .int (nI tl), .ref (mo + 2), .ref (mo + 3), .int (nI e), .int (nI sz), .int (nI rp), .int (nI st), .ref (mo + 4), .ref (mo + 5), .ref (mo + 6), .int ir, .int (nI m), .int (nI r), .int (nI wd), .int (nI ag), .ref (mo + 7), .ref (mo + 8), .ref (mo + 9), .ref (mo + 10), .int (nI td), .int (nI om), .ref (mo + 11), .ref (mo + 12), .ref (mo + 13), .ref (mo + 14), .ref (mo + 15), .ref (mo + 16)])) := by rw [eg3]; exact hM_g2.off (by omega)
      have hSo_g3 : mn_at g3 (mo + 4) (.inl (0, 4800, .inl (upd (upd (fun j => nI ((swL sl a b k) j)) (80 * a + k) (nI ((swL sl a b k) (80 * b + k)))) (80 * b + k) (nI ((swL sl a b k) (80 * a + k)))))) := by rw [eg3]; exact hSo_g2.same
      have hSs_g3 : mn_at g3 (mo + 5) (.inl (0, 60, .inl (fun j => nI ((swp ss a b) j)))) := by rw [eg3]; exact hSs_g2.off (by omega)
      refine mn_iinc (v := nI (k + 1)) (ls' := [(0, .ref mo), (1, .int (nI a)), (2, .int (nI b)), (3, .int x3), (4, .int (nI (k + 1))), (5, .int (nI ((swL sl a b k) (80 * a + k))))]) 4 dMo_swap_111 rfl (nI_add k 1) (by decide) rfl ?_
      refine mn_goto 52 dMo_swap_114 (by decide) ?_
      have h9 : mn_at g3 (mo + 4) (.inl (0, 4800, .inl (fun j => nI (swL sl a b (k + 1) j)))) := by have h8 := hSo_g3; rw [hsw.1, hsw.2] at h8; rw [← swL_s sl (by omega), ← upd_nI, ← upd_nI]; exact h8
      refine mn_R.sub [0, 1, 2, 3, 4] (ls' := [(0, .ref mo), (1, .int (nI a)), (2, .int (nI b)), (3, .int x3), (4, .int (nI (k + 1)))]) rfl ?_
      exact ih (k + 1) g3 (by omega) (by omega) ((hfr.set eg2 (by show (mo + 4) = mo ∨ (mo + 4) = mo + 4 ∨ (mo + 4) = mo + 5; omega)).set eg3 (by show (mo + 4) = mo ∨ (mo + 4) = mo + 4 ∨ (mo + 4) = mo + 5; omega)) hM_g3 h9 hSs_g3
set_option maxRecDepth 100000 in
theorem c_M_swap {E : mn_En} {g : mn_H} {mo tl e sz rp st m r wd ag td om : Nat} {ir : Int32} {sl ss : Nat → Nat} (hM : mn_at g mo (.inr (11, [.int 0, .ref (mo + 1), .int (nI tl), .ref (mo + 2), .ref (mo + 3), .int (nI e), .int (nI sz), .int (nI rp), .int (nI st), .ref (mo + 4), .ref (mo + 5), .ref (mo + 6), .int ir, .int (nI m), .int (nI r), .int (nI wd), .int (nI ag), .ref (mo + 7), .ref (mo + 8), .ref (mo + 9), .ref (mo + 10), .int (nI td), .int (nI om), .ref (mo + 11), .ref (mo + 12), .ref (mo + 13), .ref (mo + 14), .ref (mo + 15), .ref (mo + 16)]))) (hSo : mn_at g (mo + 4) (.inl (0, 4800, .inl (fun j => nI (sl j))))) (hSs : mn_at g (mo + 5) (.inl (0, 60, .inl (fun j => nI (ss j))))) {a b : Nat} (ha : a < 60) (hb : b < 60) : mn_R E MMo_swap 2 43 0 0 0 [(0, .ref mo), (1, .int (nI a)), (2, .int (nI b))] [] g (fun x g' => x = some (.int 1) ∧ mn_fr (fun q => q = mo ∨ q = mo + 4 ∨ q = mo + 5) g g' ∧ mn_at g' mo (.inr (11, [.int 0, .ref (mo + 1), .int (nI tl), .ref (mo + 2), .ref (mo + 3), .int (nI e), .int (nI sz), .int (nI rp), .int (nI st), .ref (mo + 4), .ref (mo + 5), .ref (mo + 6), .int ir, .int (nI m), .int (nI r), .int (nI wd), .int (nI ag), .ref (mo + 7), .ref (mo + 8), .ref (mo + 9), .ref (mo + 10), .int (nI td), .int (nI om), .ref (mo + 11), .ref (mo + 12), .ref (mo + 13), .ref (mo + 14), .ref (mo + 15), .ref (mo + 16)])) ∧ mn_at g' (mo + 4) (.inl (0, 4800, .inl (fun j => nI (swL sl a b 80 j)))) ∧ mn_at g' (mo + 5) (.inl (0, 60, .inl (fun j => nI (swp ss a b j))))) := by
  refine mn_aload_n 0 dMo_swap_0 rfl rfl ?_
  refine mn_iconst (v := 0) dMo_swap_1 (by decide) ?_
  refine mn_putf okMo 0 lMo_1 (by decide) rfl hM rfl rfl (Nat.le_of_ble_eq_true rfl) dMo_swap_2 ?_
  obtain ⟨g1, eg1⟩ : ∃ gg_, gg_ = mn_set g mo (.inr (11, [.int 0, .ref (mo + 1), .int (nI tl), .ref (mo + 2), .ref (mo + 3), .int (nI e), .int (nI sz), .int (nI rp), .int (nI st), .ref (mo + 4), .ref (mo + 5), .ref (mo + 6), .int ir, .int (nI m), .int (nI r), .int (nI wd), .int (nI ag), .ref (mo + 7), .ref (mo + 8), .ref (mo + 9), .ref (mo + 10), .int (nI td), .int (nI om), .ref (mo + 11), .ref (mo + 12), .ref (mo + 13), .ref (mo + 14), .ref (mo + 15), .ref (mo + 16)])) := ⟨_, rfl⟩
  refine mn_R.toG eg1 ?_
  have hM_g1 : mn_at g1 mo (.inr (11, [.int 0, .ref (mo + 1), .int (nI tl), .ref (mo + 2), .ref (mo + 3), .int (nI e), .int (nI sz), .int (nI rp), .int (nI st), .ref (mo + 4), .ref (mo + 5), .ref (mo + 6), .int ir, .int (nI m), .int (nI r), .int (nI wd), .int (nI ag), .ref (mo + 7), .ref (mo + 8), .ref (mo + 9), .ref (mo + 10), .int (nI td), .int (nI om), .ref (mo + 11), .ref (mo + 12), .ref (mo + 13), .ref (mo + 14), .ref (mo + 15), .ref (mo + 16)])) := by rw [eg1]; exact hM.same
  have hSo_g1 : mn_at g1 (mo + 4) (.inl (0, 4800, .inl (fun j => nI (sl j)))) := by rw [eg1]; exact hSo.off (by omega)
  have hSs_g1 : mn_at g1 (mo + 5) (.inl (0, 60, .inl (fun j => nI (ss j)))) := by rw [eg1]; exact hSs.off (by omega)
  refine mn_aload_n 0 dMo_swap_5 rfl rfl ?_
  refine mn_iload_n 1 dMo_swap_6 rfl rfl ?_
  refine mn_cV (d' := 1) (w' := 22) (As := [.int (nI a)]) (stk' := [.int 0]) okMo_noSlot lMo_130 dMo_swap_7 hM_g1 rfl rfl rfl rfl (Nat.le_of_ble_eq_true rfl) (Nat.le_of_ble_eq_true rfl) (by decide) (c_M_noSlot_n hM_g1 (k := a) (by omega)) rfl ?_
  refine mn_if_ne 21 dMo_swap_10 (by decide) (fun c2 => ?_) (fun c2 => ?_)
  · exact absurd c2 (by decide)
  · refine mn_aload_n 0 dMo_swap_13 rfl rfl ?_
    refine mn_iload_n 2 dMo_swap_14 rfl rfl ?_
    refine mn_cV (d' := 1) (w' := 22) (As := [.int (nI b)]) (stk' := [.int 0]) okMo_noSlot lMo_130 dMo_swap_15 hM_g1 rfl rfl rfl rfl (Nat.le_of_ble_eq_true rfl) (Nat.le_of_ble_eq_true rfl) (by decide) (c_M_noSlot_n hM_g1 (k := b) (by omega)) rfl ?_
    refine mn_if_eq 23 dMo_swap_18 (by decide) (fun c3 => ?_) (fun c3 => ?_)
    · refine mn_aload_n 0 dMo_swap_23 rfl rfl ?_
      refine mn_get okMo 10 lMo_29 (by decide) hM_g1 rfl dMo_swap_24 ?_
      refine mn_iload_n 1 dMo_swap_27 rfl rfl ?_
      refine mn_ialdN (j := a) hSs_g1 rfl (by omega) (by omega) dMo_swap_28 ?_
      refine mn_istore_n (ls' := [(0, .ref mo), (1, .int (nI a)), (2, .int (nI b)), (3, .int (nI (ss a)))]) dMo_swap_29 rfl (by decide) rfl ?_
      refine mn_aload_n 0 dMo_swap_30 rfl rfl ?_
      refine mn_get okMo 10 lMo_29 (by decide) hM_g1 rfl dMo_swap_31 ?_
      refine mn_iload_n 1 dMo_swap_34 rfl rfl ?_
      refine mn_aload_n 0 dMo_swap_35 rfl rfl ?_
      refine mn_get okMo 10 lMo_29 (by decide) hM_g1 rfl dMo_swap_36 ?_
      refine mn_iload_n 2 dMo_swap_39 rfl rfl ?_
      refine mn_ialdN (j := b) hSs_g1 rfl (by omega) (by omega) dMo_swap_40 ?_
      refine mn_iastN (j := a) hSs_g1 rfl (by omega) (by omega) dMo_swap_41 ?_
      obtain ⟨g4, eg4⟩ : ∃ gg_, gg_ = mn_set g1 (mo + 5) (.inl (0, 60, .inl (upd (fun j => nI (ss j)) a (nI (ss b))))) := ⟨_, rfl⟩
      refine mn_R.toG eg4 ?_
      have hM_g4 : mn_at g4 mo (.inr (11, [.int 0, .ref (mo + 1), .int (nI tl), .ref (mo + 2), .ref (mo + 3), .int (nI e), .int (nI sz), .int (nI rp), .int (nI st), .ref (mo + 4), .ref (mo + 5), .ref (mo + 6), .int ir, .int (nI m), .int (nI r), .int (nI wd), .int (nI ag), .ref (mo + 7), .ref (mo + 8), .ref (mo + 9), .ref (mo + 10), .int (nI td), .int (nI om), .ref (mo + 11), .ref (mo + 12), .ref (mo + 13), .ref (mo + 14), .ref (mo + 15), .ref (mo + 16)])) := by rw [eg4]; exact hM_g1.off (by omega)
      have hSo_g4 : mn_at g4 (mo + 4) (.inl (0, 4800, .inl (fun j => nI (sl j)))) := by rw [eg4]; exact hSo_g1.off (by omega)
      have hSs_g4 : mn_at g4 (mo + 5) (.inl (0, 60, .inl (upd (fun j => nI (ss j)) a (nI (ss b))))) := by rw [eg4]; exact hSs_g1.same
      refine mn_aload_n 0 dMo_swap_42 rfl rfl ?_
      refine mn_get okMo 10 lMo_29 (by decide) hM_g4 rfl dMo_swap_43 ?_
      refine mn_iload_n 2 dMo_swap_46 rfl rfl ?_
      refine mn_iload_n 3 dMo_swap_47 rfl rfl ?_
      refine mn_iastN (j := b) hSs_g4 rfl (by omega) (by omega) dMo_swap_48 ?_
      obtain ⟨g5, eg5⟩ : ∃ gg_, gg_ = mn_set g4 (mo + 5) (.inl (0, 60, .inl (upd (upd (fun j => nI (ss j)) a (nI (ss b))) b (nI (ss a))))) := ⟨_, rfl⟩
      refine mn_R.toG eg5 ?_
      have hM_g5 : mn_at g5 mo (.inr (11, [.int 0, .ref (mo + 1), .int (nI tl), .ref (mo + 2), .ref (mo + 3), .int (nI e), .int (nI sz), .int (nI rp), .int (nI st), .ref (mo + 4), .ref (mo + 5), .ref (mo + 6), .int ir, .int (nI m), .int (nI r), .int (nI wd), .int (nI ag), .ref (mo + 7), .ref (mo + 8), .ref (mo + 9), .ref (mo + 10), .int (nI td), .int (nI om), .ref (mo + 11), .ref (mo + 12), .ref (mo + 13), .ref (mo + 14), .ref (mo + 15), .ref (mo + 16)])) := by rw [eg5]; exact hM_g4.off (by omega)
      have hSo_g5 : mn_at g5 (mo + 4) (.inl (0, 4800, .inl (fun j => nI (sl j)))) := by rw [eg5]; exact hSo_g4.off (by omega)
      have hSs_g5 : mn_at g5 (mo + 5) (.inl (0, 60, .inl (upd (upd (fun j => nI (ss j)) a (nI (ss b))) b (nI (ss a))))) := by rw [eg5]; exact hSs_g4.same
      refine mn_iconst (v := 0) dMo_swap_49 (by decide) ?_
      refine mn_istore (ls' := [(0, .ref mo), (1, .int (nI a)), (2, .int (nI b)), (3, .int (nI (ss a))), (4, .int 0)]) dMo_swap_50 (by decide) rfl ?_
      have h8 : mn_at g5 (mo + 5) (.inl (0, 60, .inl (fun j => nI (swp ss a b j)))) := by rw [← swp_up, ← upd_nI, ← upd_nI]; exact hSs_g5
      have h9 : mn_at g5 (mo + 4) (.inl (0, 4800, .inl (fun j => nI (swL sl a b 0 j)))) := by rw [swL_0]; exact hSo_g5
      exact c_M_swap_l ha hb 81 0 g5 (by omega) (by omega) (((mn_fr.rf.set eg1 (by show mo = mo ∨ mo = mo + 4 ∨ mo = mo + 5; omega)).set eg4 (by show (mo + 5) = mo ∨ (mo + 5) = mo + 4 ∨ (mo + 5) = mo + 5; omega)).set eg5 (by show (mo + 5) = mo ∨ (mo + 5) = mo + 4 ∨ (mo + 5) = mo + 5; omega)) hM_g5 h9 h8
    · exact absurd c3 (by decide)
set_option maxRecDepth 100000 in
theorem c_M_copy_bad1 {E : mn_En} {g : mn_H} {mo tl e sz rp st m r wd ag td om : Nat} {ir : Int32} (hM : mn_at g mo (.inr (11, [.int 0, .ref (mo + 1), .int (nI tl), .ref (mo + 2), .ref (mo + 3), .int (nI e), .int (nI sz), .int (nI rp), .int (nI st), .ref (mo + 4), .ref (mo + 5), .ref (mo + 6), .int ir, .int (nI m), .int (nI r), .int (nI wd), .int (nI ag), .ref (mo + 7), .ref (mo + 8), .ref (mo + 9), .ref (mo + 10), .int (nI td), .int (nI om), .ref (mo + 11), .ref (mo + 12), .ref (mo + 13), .ref (mo + 14), .ref (mo + 15), .ref (mo + 16)]))) {x x2 : Int32} (hx : x < 0 ∨ 60 ≤ x) : mn_R E MMo_copy 2 43 0 0 0 [(0, .ref mo), (1, .int x), (2, .int x2)] [] g (fun x g' => x = some (.int (-1)) ∧ mn_fr (fun q => q = mo) g g' ∧ mn_at g' mo (.inr (11, [.int 0, .ref (mo + 1), .int (nI tl), .ref (mo + 2), .ref (mo + 3), .int (nI e), .int (nI sz), .int (nI rp), .int (nI st), .ref (mo + 4), .ref (mo + 5), .ref (mo + 6), .int ir, .int (nI m), .int (nI r), .int (nI wd), .int (nI ag), .ref (mo + 7), .ref (mo + 8), .ref (mo + 9), .ref (mo + 10), .int (nI td), .int (nI om), .ref (mo + 11), .ref (mo + 12), .ref (mo + 13), .ref (mo + 14), .ref (mo + 15), .ref (mo + 16)]))) := by
  refine mn_aload_n 0 dMo_copy_0 rfl rfl ?_
  refine mn_iconst (v := 0) dMo_copy_1 (by decide) ?_
  refine mn_putf okMo 0 lMo_1 (by decide) rfl hM rfl rfl (Nat.le_of_ble_eq_true rfl) dMo_copy_2 ?_
  obtain ⟨g1, eg1⟩ : ∃ gg_, gg_ = mn_set g mo (.inr (11, [.int 0, .ref (mo + 1), .int (nI tl), .ref (mo + 2), .ref (mo + 3), .int (nI e), .int (nI sz), .int (nI rp), .int (nI st), .ref (mo + 4), .ref (mo + 5), .ref (mo + 6), .int ir, .int (nI m), .int (nI r), .int (nI wd), .int (nI ag), .ref (mo + 7), .ref (mo + 8), .ref (mo + 9), .ref (mo + 10), .int (nI td), .int (nI om), .ref (mo + 11), .ref (mo + 12), .ref (mo + 13), .ref (mo + 14), .ref (mo + 15), .ref (mo + 16)])) := ⟨_, rfl⟩
  refine mn_R.toG eg1 ?_
  have hM_g1 : mn_at g1 mo (.inr (11, [.int 0, .ref (mo + 1), .int (nI tl), .ref (mo + 2), .ref (mo + 3), .int (nI e), .int (nI sz), .int (nI rp), .int (nI st), .ref (mo + 4), .ref (mo + 5), .ref (mo + 6), .int ir, .int (nI m), .int (nI r), .int (nI wd), .int (nI ag), .ref (mo + 7), .ref (mo + 8), .ref (mo + 9), .ref (mo + 10), .int (nI td), .int (nI om), .ref (mo + 11), .ref (mo + 12), .ref (mo + 13), .ref (mo + 14), .ref (mo + 15), .ref (mo + 16)])) := by rw [eg1]; exact hM.same
  refine mn_aload_n 0 dMo_copy_5 rfl rfl ?_
  refine mn_iload_n 1 dMo_copy_6 rfl rfl ?_
  refine mn_cV (d' := 1) (w' := 22) (As := [.int x]) (stk' := [.int 1]) okMo_noSlot lMo_130 dMo_copy_7 hM_g1 rfl rfl rfl rfl (Nat.le_of_ble_eq_true rfl) (Nat.le_of_ble_eq_true rfl) (by decide) (c_M_noSlot_y hM_g1 hx) rfl ?_
  refine mn_if_ne 39 dMo_copy_10 (by decide) (fun c2 => ?_) (fun c2 => ?_)
  · refine mn_iconst (v := -1) dMo_copy_39 (by decide) ?_
    exact mn_iret rfl dMo_copy_40 ⟨rfl, (mn_fr.rf.set eg1 (by show mo = mo; omega)), hM_g1⟩
  · exact absurd c2 (by decide)
set_option maxRecDepth 100000 in
theorem c_M_copy_bad2 {E : mn_En} {g : mn_H} {mo tl e sz rp st m r wd ag td om : Nat} {ir : Int32} (hM : mn_at g mo (.inr (11, [.int 0, .ref (mo + 1), .int (nI tl), .ref (mo + 2), .ref (mo + 3), .int (nI e), .int (nI sz), .int (nI rp), .int (nI st), .ref (mo + 4), .ref (mo + 5), .ref (mo + 6), .int ir, .int (nI m), .int (nI r), .int (nI wd), .int (nI ag), .ref (mo + 7), .ref (mo + 8), .ref (mo + 9), .ref (mo + 10), .int (nI td), .int (nI om), .ref (mo + 11), .ref (mo + 12), .ref (mo + 13), .ref (mo + 14), .ref (mo + 15), .ref (mo + 16)]))) {k : Nat} (hk : k < 60) {x : Int32} (hx : x < 0 ∨ 60 ≤ x) : mn_R E MMo_copy 2 43 0 0 0 [(0, .ref mo), (1, .int (nI k)), (2, .int x)] [] g (fun x g' => x = some (.int (-1)) ∧ mn_fr (fun q => q = mo) g g' ∧ mn_at g' mo (.inr (11, [.int 0, .ref (mo + 1), .int (nI tl), .ref (mo + 2), .ref (mo + 3), .int (nI e), .int (nI sz), .int (nI rp), .int (nI st), .ref (mo + 4), .ref (mo + 5), .ref (mo + 6), .int ir, .int (nI m), .int (nI r), .int (nI wd), .int (nI ag), .ref (mo + 7), .ref (mo + 8), .ref (mo + 9), .ref (mo + 10), .int (nI td), .int (nI om), .ref (mo + 11), .ref (mo + 12), .ref (mo + 13), .ref (mo + 14), .ref (mo + 15), .ref (mo + 16)]))) := by
  refine mn_aload_n 0 dMo_copy_0 rfl rfl ?_
  refine mn_iconst (v := 0) dMo_copy_1 (by decide) ?_
  refine mn_putf okMo 0 lMo_1 (by decide) rfl hM rfl rfl (Nat.le_of_ble_eq_true rfl) dMo_copy_2 ?_
  obtain ⟨g1, eg1⟩ : ∃ gg_, gg_ = mn_set g mo (.inr (11, [.int 0, .ref (mo + 1), .int (nI tl), .ref (mo + 2), .ref (mo + 3), .int (nI e), .int (nI sz), .int (nI rp), .int (nI st), .ref (mo + 4), .ref (mo + 5), .ref (mo + 6), .int ir, .int (nI m), .int (nI r), .int (nI wd), .int (nI ag), .ref (mo + 7), .ref (mo + 8), .ref (mo + 9), .ref (mo + 10), .int (nI td), .int (nI om), .ref (mo + 11), .ref (mo + 12), .ref (mo + 13), .ref (mo + 14), .ref (mo + 15), .ref (mo + 16)])) := ⟨_, rfl⟩
  refine mn_R.toG eg1 ?_
  have hM_g1 : mn_at g1 mo (.inr (11, [.int 0, .ref (mo + 1), .int (nI tl), .ref (mo + 2), .ref (mo + 3), .int (nI e), .int (nI sz), .int (nI rp), .int (nI st), .ref (mo + 4), .ref (mo + 5), .ref (mo + 6), .int ir, .int (nI m), .int (nI r), .int (nI wd), .int (nI ag), .ref (mo + 7), .ref (mo + 8), .ref (mo + 9), .ref (mo + 10), .int (nI td), .int (nI om), .ref (mo + 11), .ref (mo + 12), .ref (mo + 13), .ref (mo + 14), .ref (mo + 15), .ref (mo + 16)])) := by rw [eg1]; exact hM.same
  refine mn_aload_n 0 dMo_copy_5 rfl rfl ?_
  refine mn_iload_n 1 dMo_copy_6 rfl rfl ?_
  refine mn_cV (d' := 1) (w' := 22) (As := [.int (nI k)]) (stk' := [.int 0]) okMo_noSlot lMo_130 dMo_copy_7 hM_g1 rfl rfl rfl rfl (Nat.le_of_ble_eq_true rfl) (Nat.le_of_ble_eq_true rfl) (by decide) (c_M_noSlot_n hM_g1 (k := k) (by omega)) rfl ?_
  refine mn_if_ne 39 dMo_copy_10 (by decide) (fun c2 => ?_) (fun c2 => ?_)
  · exact absurd c2 (by decide)
  · refine mn_aload_n 0 dMo_copy_13 rfl rfl ?_
    refine mn_iload_n 2 dMo_copy_14 rfl rfl ?_
    refine mn_cV (d' := 1) (w' := 22) (As := [.int x]) (stk' := [.int 1]) okMo_noSlot lMo_130 dMo_copy_15 hM_g1 rfl rfl rfl rfl (Nat.le_of_ble_eq_true rfl) (Nat.le_of_ble_eq_true rfl) (by decide) (c_M_noSlot_y hM_g1 hx) rfl ?_
    refine mn_if_ne 39 dMo_copy_18 (by decide) (fun c3 => ?_) (fun c3 => ?_)
    · refine mn_iconst (v := -1) dMo_copy_39 (by decide) ?_
      exact mn_iret rfl dMo_copy_40 ⟨rfl, (mn_fr.rf.set eg1 (by show mo = mo; omega)), hM_g1⟩
    · exact absurd c3 (by decide)
set_option maxRecDepth 100000 in
theorem c_M_copy_bad4 {E : mn_En} {g : mn_H} {mo tl e sz rp st m r wd ag td om : Nat} {ir : Int32} {ss : Nat → Nat} (hM : mn_at g mo (.inr (11, [.int 0, .ref (mo + 1), .int (nI tl), .ref (mo + 2), .ref (mo + 3), .int (nI e), .int (nI sz), .int (nI rp), .int (nI st), .ref (mo + 4), .ref (mo + 5), .ref (mo + 6), .int ir, .int (nI m), .int (nI r), .int (nI wd), .int (nI ag), .ref (mo + 7), .ref (mo + 8), .ref (mo + 9), .ref (mo + 10), .int (nI td), .int (nI om), .ref (mo + 11), .ref (mo + 12), .ref (mo + 13), .ref (mo + 14), .ref (mo + 15), .ref (mo + 16)]))) (hSs : mn_at g (mo + 5) (.inl (0, 60, .inl (fun j => nI (ss j))))) {a b : Nat} (ha : a < 60) (hb : b < 60) (hss : ∀ k, ss k ≤ 80) (hx : ss a = 0 ∨ ¬ ss b = 0) : mn_R E MMo_copy 2 43 0 0 0 [(0, .ref mo), (1, .int (nI a)), (2, .int (nI b))] [] g (fun x g' => x = some (.int (-1)) ∧ mn_fr (fun q => q = mo) g g' ∧ mn_at g' mo (.inr (11, [.int 0, .ref (mo + 1), .int (nI tl), .ref (mo + 2), .ref (mo + 3), .int (nI e), .int (nI sz), .int (nI rp), .int (nI st), .ref (mo + 4), .ref (mo + 5), .ref (mo + 6), .int ir, .int (nI m), .int (nI r), .int (nI wd), .int (nI ag), .ref (mo + 7), .ref (mo + 8), .ref (mo + 9), .ref (mo + 10), .int (nI td), .int (nI om), .ref (mo + 11), .ref (mo + 12), .ref (mo + 13), .ref (mo + 14), .ref (mo + 15), .ref (mo + 16)]))) := by
  have hssa := hss a
  have hssb := hss b
  refine mn_aload_n 0 dMo_copy_0 rfl rfl ?_
  refine mn_iconst (v := 0) dMo_copy_1 (by decide) ?_
  refine mn_putf okMo 0 lMo_1 (by decide) rfl hM rfl rfl (Nat.le_of_ble_eq_true rfl) dMo_copy_2 ?_
  obtain ⟨g1, eg1⟩ : ∃ gg_, gg_ = mn_set g mo (.inr (11, [.int 0, .ref (mo + 1), .int (nI tl), .ref (mo + 2), .ref (mo + 3), .int (nI e), .int (nI sz), .int (nI rp), .int (nI st), .ref (mo + 4), .ref (mo + 5), .ref (mo + 6), .int ir, .int (nI m), .int (nI r), .int (nI wd), .int (nI ag), .ref (mo + 7), .ref (mo + 8), .ref (mo + 9), .ref (mo + 10), .int (nI td), .int (nI om), .ref (mo + 11), .ref (mo + 12), .ref (mo + 13), .ref (mo + 14), .ref (mo + 15), .ref (mo + 16)])) := ⟨_, rfl⟩
  refine mn_R.toG eg1 ?_
  have hM_g1 : mn_at g1 mo (.inr (11, [.int 0, .ref (mo + 1), .int (nI tl), .ref (mo + 2), .ref (mo + 3), .int (nI e), .int (nI sz), .int (nI rp), .int (nI st), .ref (mo + 4), .ref (mo + 5), .ref (mo + 6), .int ir, .int (nI m), .int (nI r), .int (nI wd), .int (nI ag), .ref (mo + 7), .ref (mo + 8), .ref (mo + 9), .ref (mo + 10), .int (nI td), .int (nI om), .ref (mo + 11), .ref (mo + 12), .ref (mo + 13), .ref (mo + 14), .ref (mo + 15), .ref (mo + 16)])) := by rw [eg1]; exact hM.same
  have hSs_g1 : mn_at g1 (mo + 5) (.inl (0, 60, .inl (fun j => nI (ss j)))) := by rw [eg1]; exact hSs.off (by omega)
  refine mn_aload_n 0 dMo_copy_5 rfl rfl ?_
  refine mn_iload_n 1 dMo_copy_6 rfl rfl ?_
  refine mn_cV (d' := 1) (w' := 22) (As := [.int (nI a)]) (stk' := [.int 0]) okMo_noSlot lMo_130 dMo_copy_7 hM_g1 rfl rfl rfl rfl (Nat.le_of_ble_eq_true rfl) (Nat.le_of_ble_eq_true rfl) (by decide) (c_M_noSlot_n hM_g1 (k := a) (by omega)) rfl ?_
  refine mn_if_ne 39 dMo_copy_10 (by decide) (fun c2 => ?_) (fun c2 => ?_)
  · exact absurd c2 (by decide)
  · refine mn_aload_n 0 dMo_copy_13 rfl rfl ?_
    refine mn_iload_n 2 dMo_copy_14 rfl rfl ?_
    refine mn_cV (d' := 1) (w' := 22) (As := [.int (nI b)]) (stk' := [.int 0]) okMo_noSlot lMo_130 dMo_copy_15 hM_g1 rfl rfl rfl rfl (Nat.le_of_ble_eq_true rfl) (Nat.le_of_ble_eq_true rfl) (by decide) (c_M_noSlot_n hM_g1 (k := b) (by omega)) rfl ?_
    refine mn_if_ne 39 dMo_copy_18 (by decide) (fun c3 => ?_) (fun c3 => ?_)
    · exact absurd c3 (by decide)
    · refine mn_aload_n 0 dMo_copy_21 rfl rfl ?_
      refine mn_get okMo 10 lMo_29 (by decide) hM_g1 rfl dMo_copy_22 ?_
      refine mn_iload_n 1 dMo_copy_25 rfl rfl ?_
      refine mn_ialdN (j := a) hSs_g1 rfl (by omega) (by omega) dMo_copy_26 ?_
      refine mn_if_eq 39 dMo_copy_27 (by decide) (fun c4 => ?_) (fun c4 => ?_)
      · have c4 := (nI_eq (a := (ss a)) (b := 0) (by omega) (by omega)).mp c4
        refine mn_iconst (v := -1) dMo_copy_39 (by decide) ?_
        exact mn_iret rfl dMo_copy_40 ⟨rfl, (mn_fr.rf.set eg1 (by show mo = mo; omega)), hM_g1⟩
      · have c4 := mt (nI_eq (a := (ss a)) (b := 0) (by omega) (by omega)).mpr c4
        refine mn_aload_n 0 dMo_copy_30 rfl rfl ?_
        refine mn_get okMo 10 lMo_29 (by decide) hM_g1 rfl dMo_copy_31 ?_
        refine mn_iload_n 2 dMo_copy_34 rfl rfl ?_
        refine mn_ialdN (j := b) hSs_g1 rfl (by omega) (by omega) dMo_copy_35 ?_
        refine mn_if_le 41 dMo_copy_36 (by decide) (fun c5 => ?_) (fun c5 => ?_)
        · have c5 := (nI_leI (a := (ss b)) (b := 0) (by omega) (by omega)).mp c5
          exact absurd hx (fun q => q.elim c4 (fun q => q (by omega)))
        · have c5 := mt (nI_leI (a := (ss b)) (b := 0) (by omega) (by omega)).mpr c5
          refine mn_iconst (v := -1) dMo_copy_39 (by decide) ?_
          exact mn_iret rfl dMo_copy_40 ⟨rfl, (mn_fr.rf.set eg1 (by show mo = mo; omega)), hM_g1⟩
set_option maxRecDepth 100000 in
theorem c_M_copy_l {E : mn_En} {g : mn_H} {mo tl e sz rp st m r wd ag td om : Nat} {ir : Int32} {sl ss : Nat → Nat} {a b : Nat} (ha : a < 60) (hb : b < 60) (hab : a ≠ b) : ∀ (fu k : Nat) (g0 : mn_H), k ≤ 80 → 80 - k < fu → mn_fr (fun q => q = mo ∨ q = mo + 4 ∨ q = mo + 5) g g0 → mn_at g0 mo (.inr (11, [.int 0, .ref (mo + 1), .int (nI tl), .ref (mo + 2), .ref (mo + 3), .int (nI e), .int (nI sz), .int (nI rp), .int (nI st), .ref (mo + 4), .ref (mo + 5), .ref (mo + 6), .int ir, .int (nI m), .int (nI r), .int (nI wd), .int (nI ag), .ref (mo + 7), .ref (mo + 8), .ref (mo + 9), .ref (mo + 10), .int (nI td), .int (nI om), .ref (mo + 11), .ref (mo + 12), .ref (mo + 13), .ref (mo + 14), .ref (mo + 15), .ref (mo + 16)])) → mn_at g0 (mo + 4) (.inl (0, 4800, .inl (fun j => nI ((cyL sl a b k) j)))) → mn_at g0 (mo + 5) (.inl (0, 60, .inl (fun j => nI ((va_up ss b (ss a)) j)))) → mn_R E MMo_copy 2 43 0 0 55 [(0, .ref mo), (1, .int (nI a)), (2, .int (nI b)), (3, .int (nI k))] [] g0 (fun x g' => x = some (.int (nI (ss a))) ∧ mn_fr (fun q => q = mo ∨ q = mo + 4 ∨ q = mo + 5) g g' ∧ mn_at g' mo (.inr (11, [.int 0, .ref (mo + 1), .int (nI tl), .ref (mo + 2), .ref (mo + 3), .int (nI e), .int (nI sz), .int (nI rp), .int (nI st), .ref (mo + 4), .ref (mo + 5), .ref (mo + 6), .int ir, .int (nI m), .int (nI r), .int (nI wd), .int (nI ag), .ref (mo + 7), .ref (mo + 8), .ref (mo + 9), .ref (mo + 10), .int (nI td), .int (nI om), .ref (mo + 11), .ref (mo + 12), .ref (mo + 13), .ref (mo + 14), .ref (mo + 15), .ref (mo + 16)])) ∧ mn_at g' (mo + 4) (.inl (0, 4800, .inl (fun j => nI (cyL sl a b 80 j)))) ∧ mn_at g' (mo + 5) (.inl (0, 60, .inl (fun j => nI (va_up ss b (ss a) j))))) := by
  intro fu
  induction fu with
  | zero => intro k g0 h1 h2; exact absurd h2 (by omega)
  | succ fu ih =>
    intro k g0 h1 h2 hfr hM hSo hSs
    refine mn_iload_n 3 dMo_copy_55 rfl rfl ?_
    refine mn_bipush (v := 80) dMo_copy_56 (by decide) ?_
    refine mn_icmp_ge 89 dMo_copy_58 (by decide) (fun c1 => ?_) (fun c1 => ?_)
    · have c1 := (nI_leI (a := 80) (b := k) (by omega) (by omega)).mp c1
      refine mn_aload_n 0 dMo_copy_89 rfl rfl ?_
      refine mn_get okMo 10 lMo_29 (by decide) hM rfl dMo_copy_90 ?_
      refine mn_iload_n 2 dMo_copy_93 rfl rfl ?_
      refine mn_ialdN (j := b) hSs rfl (by omega) (by omega) dMo_copy_94 ?_
      exact mn_iret rfl dMo_copy_95 (by obtain rfl : k = 80 := (by omega); exact ⟨by rw [show va_up ss b (ss a) b = ss a from va_up_s _ _ _], hfr, hM, hSo, hSs⟩)
    · have c1 := mt (nI_leI (a := 80) (b := k) (by omega) (by omega)).mpr c1
      have hcy := cyL_at (sl := sl) (a := a) (b := b) (k := k) hab (by omega)
      refine mn_aload_n 0 dMo_copy_61 rfl rfl ?_
      refine mn_get okMo 9 lMo_26 (by decide) hM rfl dMo_copy_62 ?_
      refine mn_bipush (v := 80) dMo_copy_65 (by decide) ?_
      refine mn_iload_n 2 dMo_copy_67 rfl rfl ?_
      refine mn_imul (z := nI (80 * b)) dMo_copy_68 (pk_mul 80 b) ?_
      refine mn_iload_n 3 dMo_copy_69 rfl rfl ?_
      refine mn_iadd (z := nI (80 * b + k)) dMo_copy_70 (nI_add (80 * b) k) ?_
      refine mn_aload_n 0 dMo_copy_71 rfl rfl ?_
      refine mn_get okMo 9 lMo_26 (by decide) hM rfl dMo_copy_72 ?_
      refine mn_bipush (v := 80) dMo_copy_75 (by decide) ?_
      refine mn_iload_n 1 dMo_copy_77 rfl rfl ?_
      refine mn_imul (z := nI (80 * a)) dMo_copy_78 (pk_mul 80 a) ?_
      refine mn_iload_n 3 dMo_copy_79 rfl rfl ?_
      refine mn_iadd (z := nI (80 * a + k)) dMo_copy_80 (nI_add (80 * a) k) ?_
      refine mn_ialdN (j := 80 * a + k) hSo rfl (by omega) (by omega) dMo_copy_81 ?_
      refine mn_iastN (j := 80 * b + k) hSo rfl (by omega) (by omega) dMo_copy_82 ?_
      obtain ⟨g2, eg2⟩ : ∃ gg_, gg_ = mn_set g0 (mo + 4) (.inl (0, 4800, .inl (upd (fun j => nI ((cyL sl a b k) j)) (80 * b + k) (nI ((cyL sl a b k) (80 * a + k)))))) := ⟨_, rfl⟩
      refine mn_R.toG eg2 ?_
      have hM_g2 : mn_at g2 mo (.inr (11, [.int 0, .ref (mo + 1), .int (nI tl), .ref (mo + 2), .ref (mo + 3), .int (nI e), .int (nI sz), .int (nI rp), .int (nI st), .ref (mo + 4), .ref (mo + 5), .ref (mo + 6), .int ir, .int (nI m), .int (nI r), .int (nI wd), .int (nI ag), .ref (mo + 7), .ref (mo + 8), .ref (mo + 9), .ref (mo + 10), .int (nI td), .int (nI om), .ref (mo + 11), .ref (mo + 12), .ref (mo + 13), .ref (mo + 14), .ref (mo + 15), .ref (mo + 16)])) := by rw [eg2]; exact hM.off (by omega)
      have hSo_g2 : mn_at g2 (mo + 4) (.inl (0, 4800, .inl (upd (fun j => nI ((cyL sl a b k) j)) (80 * b + k) (nI ((cyL sl a b k) (80 * a + k)))))) := by rw [eg2]; exact hSo.same
      have hSs_g2 : mn_at g2 (mo + 5) (.inl (0, 60, .inl (fun j => nI ((va_up ss b (ss a)) j)))) := by rw [eg2]; exact hSs.off (by omega)
      refine mn_iinc (v := nI (k + 1)) (ls' := [(0, .ref mo), (1, .int (nI a)), (2, .int (nI b)), (3, .int (nI (k + 1)))]) 3 dMo_copy_83 rfl (nI_add k 1) (by decide) rfl ?_
      refine mn_goto 55 dMo_copy_86 (by decide) ?_
      have h9 : mn_at g2 (mo + 4) (.inl (0, 4800, .inl (fun j => nI (cyL sl a b (k + 1) j)))) := by have h8 := hSo_g2; rw [hcy] at h8; rw [← cyL_s sl, ← upd_nI]; exact h8
      exact ih (k + 1) g2 (by omega) (by omega) (hfr.set eg2 (by show (mo + 4) = mo ∨ (mo + 4) = mo + 4 ∨ (mo + 4) = mo + 5; omega)) hM_g2 h9 hSs_g2
set_option maxRecDepth 100000 in
theorem c_M_copy {E : mn_En} {g : mn_H} {mo tl e sz rp st m r wd ag td om : Nat} {ir : Int32} {sl ss : Nat → Nat} (hM : mn_at g mo (.inr (11, [.int 0, .ref (mo + 1), .int (nI tl), .ref (mo + 2), .ref (mo + 3), .int (nI e), .int (nI sz), .int (nI rp), .int (nI st), .ref (mo + 4), .ref (mo + 5), .ref (mo + 6), .int ir, .int (nI m), .int (nI r), .int (nI wd), .int (nI ag), .ref (mo + 7), .ref (mo + 8), .ref (mo + 9), .ref (mo + 10), .int (nI td), .int (nI om), .ref (mo + 11), .ref (mo + 12), .ref (mo + 13), .ref (mo + 14), .ref (mo + 15), .ref (mo + 16)]))) (hSo : mn_at g (mo + 4) (.inl (0, 4800, .inl (fun j => nI (sl j))))) (hSs : mn_at g (mo + 5) (.inl (0, 60, .inl (fun j => nI (ss j))))) {a b : Nat} (ha : a < 60) (hb : b < 60) (hss : ∀ k, ss k ≤ 80) (h1 : ¬ ss a = 0) (h2 : ss b = 0) : mn_R E MMo_copy 2 43 0 0 0 [(0, .ref mo), (1, .int (nI a)), (2, .int (nI b))] [] g (fun x g' => x = some (.int (nI (ss a))) ∧ mn_fr (fun q => q = mo ∨ q = mo + 4 ∨ q = mo + 5) g g' ∧ mn_at g' mo (.inr (11, [.int 0, .ref (mo + 1), .int (nI tl), .ref (mo + 2), .ref (mo + 3), .int (nI e), .int (nI sz), .int (nI rp), .int (nI st), .ref (mo + 4), .ref (mo + 5), .ref (mo + 6), .int ir, .int (nI m), .int (nI r), .int (nI wd), .int (nI ag), .ref (mo + 7), .ref (mo + 8), .ref (mo + 9), .ref (mo + 10), .int (nI td), .int (nI om), .ref (mo + 11), .ref (mo + 12), .ref (mo + 13), .ref (mo + 14), .ref (mo + 15), .ref (mo + 16)])) ∧ mn_at g' (mo + 4) (.inl (0, 4800, .inl (fun j => nI (cyL sl a b 80 j)))) ∧ mn_at g' (mo + 5) (.inl (0, 60, .inl (fun j => nI (va_up ss b (ss a) j))))) := by
  have hssa := hss a
  have hssb := hss b
  refine mn_aload_n 0 dMo_copy_0 rfl rfl ?_
  refine mn_iconst (v := 0) dMo_copy_1 (by decide) ?_
  refine mn_putf okMo 0 lMo_1 (by decide) rfl hM rfl rfl (Nat.le_of_ble_eq_true rfl) dMo_copy_2 ?_
  obtain ⟨g1, eg1⟩ : ∃ gg_, gg_ = mn_set g mo (.inr (11, [.int 0, .ref (mo + 1), .int (nI tl), .ref (mo + 2), .ref (mo + 3), .int (nI e), .int (nI sz), .int (nI rp), .int (nI st), .ref (mo + 4), .ref (mo + 5), .ref (mo + 6), .int ir, .int (nI m), .int (nI r), .int (nI wd), .int (nI ag), .ref (mo + 7), .ref (mo + 8), .ref (mo + 9), .ref (mo + 10), .int (nI td), .int (nI om), .ref (mo + 11), .ref (mo + 12), .ref (mo + 13), .ref (mo + 14), .ref (mo + 15), .ref (mo + 16)])) := ⟨_, rfl⟩
  refine mn_R.toG eg1 ?_
  have hM_g1 : mn_at g1 mo (.inr (11, [.int 0, .ref (mo + 1), .int (nI tl), .ref (mo + 2), .ref (mo + 3), .int (nI e), .int (nI sz), .int (nI rp), .int (nI st), .ref (mo + 4), .ref (mo + 5), .ref (mo + 6), .int ir, .int (nI m), .int (nI r), .int (nI wd), .int (nI ag), .ref (mo + 7), .ref (mo + 8), .ref (mo + 9), .ref (mo + 10), .int (nI td), .int (nI om), .ref (mo + 11), .ref (mo + 12), .ref (mo + 13), .ref (mo + 14), .ref (mo + 15), .ref (mo + 16)])) := by rw [eg1]; exact hM.same
  have hSo_g1 : mn_at g1 (mo + 4) (.inl (0, 4800, .inl (fun j => nI (sl j)))) := by rw [eg1]; exact hSo.off (by omega)
  have hSs_g1 : mn_at g1 (mo + 5) (.inl (0, 60, .inl (fun j => nI (ss j)))) := by rw [eg1]; exact hSs.off (by omega)
  refine mn_aload_n 0 dMo_copy_5 rfl rfl ?_
  refine mn_iload_n 1 dMo_copy_6 rfl rfl ?_
  refine mn_cV (d' := 1) (w' := 22) (As := [.int (nI a)]) (stk' := [.int 0]) okMo_noSlot lMo_130 dMo_copy_7 hM_g1 rfl rfl rfl rfl (Nat.le_of_ble_eq_true rfl) (Nat.le_of_ble_eq_true rfl) (by decide) (c_M_noSlot_n hM_g1 (k := a) (by omega)) rfl ?_
  refine mn_if_ne 39 dMo_copy_10 (by decide) (fun c2 => ?_) (fun c2 => ?_)
  · exact absurd c2 (by decide)
  · refine mn_aload_n 0 dMo_copy_13 rfl rfl ?_
    refine mn_iload_n 2 dMo_copy_14 rfl rfl ?_
    refine mn_cV (d' := 1) (w' := 22) (As := [.int (nI b)]) (stk' := [.int 0]) okMo_noSlot lMo_130 dMo_copy_15 hM_g1 rfl rfl rfl rfl (Nat.le_of_ble_eq_true rfl) (Nat.le_of_ble_eq_true rfl) (by decide) (c_M_noSlot_n hM_g1 (k := b) (by omega)) rfl ?_
    refine mn_if_ne 39 dMo_copy_18 (by decide) (fun c3 => ?_) (fun c3 => ?_)
    · exact absurd c3 (by decide)
    · refine mn_aload_n 0 dMo_copy_21 rfl rfl ?_
      refine mn_get okMo 10 lMo_29 (by decide) hM_g1 rfl dMo_copy_22 ?_
      refine mn_iload_n 1 dMo_copy_25 rfl rfl ?_
      refine mn_ialdN (j := a) hSs_g1 rfl (by omega) (by omega) dMo_copy_26 ?_
      refine mn_if_eq 39 dMo_copy_27 (by decide) (fun c4 => ?_) (fun c4 => ?_)
      · have c4 := (nI_eq (a := (ss a)) (b := 0) (by omega) (by omega)).mp c4
        refine mn_iconst (v := -1) dMo_copy_39 (by decide) ?_
        exact mn_iret rfl dMo_copy_40 (absurd c4 h1)
      · have c4 := mt (nI_eq (a := (ss a)) (b := 0) (by omega) (by omega)).mpr c4
        refine mn_aload_n 0 dMo_copy_30 rfl rfl ?_
        refine mn_get okMo 10 lMo_29 (by decide) hM_g1 rfl dMo_copy_31 ?_
        refine mn_iload_n 2 dMo_copy_34 rfl rfl ?_
        refine mn_ialdN (j := b) hSs_g1 rfl (by omega) (by omega) dMo_copy_35 ?_
        refine mn_if_le 41 dMo_copy_36 (by decide) (fun c5 => ?_) (fun c5 => ?_)
        · have c5 := (nI_leI (a := (ss b)) (b := 0) (by omega) (by omega)).mp c5
          refine mn_aload_n 0 dMo_copy_41 rfl rfl ?_
          refine mn_get okMo 10 lMo_29 (by decide) hM_g1 rfl dMo_copy_42 ?_
          refine mn_iload_n 2 dMo_copy_45 rfl rfl ?_
          refine mn_aload_n 0 dMo_copy_46 rfl rfl ?_
          refine mn_get okMo 10 lMo_29 (by decide) hM_g1 rfl dMo_copy_47 ?_
          refine mn_iload_n 1 dMo_copy_50 rfl rfl ?_
          refine mn_ialdN (j := a) hSs_g1 rfl (by omega) (by omega) dMo_copy_51 ?_
          refine mn_iastN (j := b) hSs_g1 rfl (by omega) (by omega) dMo_copy_52 ?_
          obtain ⟨g6, eg6⟩ : ∃ gg_, gg_ = mn_set g1 (mo + 5) (.inl (0, 60, .inl (upd (fun j => nI (ss j)) b (nI (ss a))))) := ⟨_, rfl⟩
          refine mn_R.toG eg6 ?_
          have hM_g6 : mn_at g6 mo (.inr (11, [.int 0, .ref (mo + 1), .int (nI tl), .ref (mo + 2), .ref (mo + 3), .int (nI e), .int (nI sz), .int (nI rp), .int (nI st), .ref (mo + 4), .ref (mo + 5), .ref (mo + 6), .int ir, .int (nI m), .int (nI r), .int (nI wd), .int (nI ag), .ref (mo + 7), .ref (mo + 8), .ref (mo + 9), .ref (mo + 10), .int (nI td), .int (nI om), .ref (mo + 11), .ref (mo + 12), .ref (mo + 13), .ref (mo + 14), .ref (mo + 15), .ref (mo + 16)])) := by rw [eg6]; exact hM_g1.off (by omega)
          have hSo_g6 : mn_at g6 (mo + 4) (.inl (0, 4800, .inl (fun j => nI (sl j)))) := by rw [eg6]; exact hSo_g1.off (by omega)
          have hSs_g6 : mn_at g6 (mo + 5) (.inl (0, 60, .inl (upd (fun j => nI (ss j)) b (nI (ss a))))) := by rw [eg6]; exact hSs_g1.same
          refine mn_iconst (v := 0) dMo_copy_53 (by decide) ?_
          refine mn_istore_n (ls' := [(0, .ref mo), (1, .int (nI a)), (2, .int (nI b)), (3, .int 0)]) dMo_copy_54 rfl (by decide) rfl ?_
          have h8 := hSs_g6
          rw [upd_nI] at h8
          have h9 : mn_at g6 (mo + 4) (.inl (0, 4800, .inl (fun j => nI (cyL sl a b 0 j)))) := by rw [cyL_0]; exact hSo_g6
          exact c_M_copy_l ha hb (fun q => h1 (by rw [q]; exact h2)) 81 0 g6 (by omega) (by omega) ((mn_fr.rf.set eg1 (by show mo = mo ∨ mo = mo + 4 ∨ mo = mo + 5; omega)).set eg6 (by show (mo + 5) = mo ∨ (mo + 5) = mo + 4 ∨ (mo + 5) = mo + 5; omega)) hM_g6 h9 h8
        · have c5 := mt (nI_leI (a := (ss b)) (b := 0) (by omega) (by omega)).mpr c5
          refine mn_iconst (v := -1) dMo_copy_39 (by decide) ?_
          exact mn_iret rfl dMo_copy_40 (absurd h2 (by omega))
set_option maxRecDepth 100000 in
theorem c_M_two {E : mn_En} {g : mn_H} {mo tl e sz rp st m r wd ag td om : Nat} {ir : Int32} {sl : Nat → Nat} (hM : mn_at g mo (.inr (11, [.int 0, .ref (mo + 1), .int (nI tl), .ref (mo + 2), .ref (mo + 3), .int (nI e), .int (nI sz), .int (nI rp), .int (nI st), .ref (mo + 4), .ref (mo + 5), .ref (mo + 6), .int ir, .int (nI m), .int (nI r), .int (nI wd), .int (nI ag), .ref (mo + 7), .ref (mo + 8), .ref (mo + 9), .ref (mo + 10), .int (nI td), .int (nI om), .ref (mo + 11), .ref (mo + 12), .ref (mo + 13), .ref (mo + 14), .ref (mo + 15), .ref (mo + 16)]))) (hSo : mn_at g (mo + 4) (.inl (0, 4800, .inl (fun j => nI (sl j))))) {p : Nat} (hp : p + 1 < 4800) : mn_R E MMo_two 0 0 0 0 0 [(0, .ref mo), (1, .int (nI p))] [] g (mn_is (some (.int (nI (sl p + 256 * sl (p + 1))))) g) := by
  refine mn_aload_n 0 dMo_two_0 rfl rfl ?_
  refine mn_get okMo 9 lMo_26 (by decide) hM rfl dMo_two_1 ?_
  refine mn_iload_n 1 dMo_two_4 rfl rfl ?_
  refine mn_ialdN (j := p) hSo rfl (by omega) (by omega) dMo_two_5 ?_
  refine mn_sipush (v := 256) dMo_two_6 (by decide) ?_
  refine mn_aload_n 0 dMo_two_9 rfl rfl ?_
  refine mn_get okMo 9 lMo_26 (by decide) hM rfl dMo_two_10 ?_
  refine mn_iload_n 1 dMo_two_13 rfl rfl ?_
  refine mn_iconst (v := 1) dMo_two_14 (by decide) ?_
  refine mn_iadd (z := nI (p + 1)) dMo_two_15 (nI_add p 1) ?_
  refine mn_ialdN (j := p + 1) hSo rfl (by omega) (by omega) dMo_two_16 ?_
  refine mn_imul (z := nI (256 * (sl (p + 1)))) dMo_two_17 (pk_mul 256 (sl (p + 1))) ?_
  refine mn_iadd (z := nI (sl p + (256 * (sl (p + 1))))) dMo_two_18 (nI_add (sl p) (256 * (sl (p + 1)))) ?_
  exact mn_iret rfl dMo_two_19 ⟨rfl, rfl⟩
set_option maxRecDepth 100000 in
theorem c_M_state {E : mn_En} {g : mn_H} {mo tl e sz rp st m r wd ag td om : Nat} {ir : Int32} {sl ss : Nat → Nat} (hM : mn_at g mo (.inr (11, [.int 0, .ref (mo + 1), .int (nI tl), .ref (mo + 2), .ref (mo + 3), .int (nI e), .int (nI sz), .int (nI rp), .int (nI st), .ref (mo + 4), .ref (mo + 5), .ref (mo + 6), .int ir, .int (nI m), .int (nI r), .int (nI wd), .int (nI ag), .ref (mo + 7), .ref (mo + 8), .ref (mo + 9), .ref (mo + 10), .int (nI td), .int (nI om), .ref (mo + 11), .ref (mo + 12), .ref (mo + 13), .ref (mo + 14), .ref (mo + 15), .ref (mo + 16)]))) (hSo : mn_at g (mo + 4) (.inl (0, 4800, .inl (fun j => nI (sl j))))) (hSs : mn_at g (mo + 5) (.inl (0, 60, .inl (fun j => nI (ss j))))) (hss : ∀ k, ss k ≤ 80) (hs20 : ∀ k, ss k = 0 ∨ 20 ≤ ss k) (hslb : ∀ j, sl j < 256) {s : Nat} (hs : s < 60) : mn_R E MMo_state 2 45 0 0 0 [(0, .ref mo), (1, .int (nI s))] [] g (mn_is (some (.int (nI (stN (sbS sl s) (ss s))))) g) := by
  have hsss := hss s
  have hs2 := hs20 s
  have hb1 := hslb (80 * s + 1)
  have hb3 := hslb (80 * s + 3)
  have hb4 := hslb (80 * s + 4)
  have hb5 := hslb (80 * s + 5)
  have hb8 := hslb (80 * s + 8)
  have hb9 := hslb (80 * s + 9)
  have hb10 := hslb (80 * s + 10)
  have hb11 := hslb (80 * s + 11)
  have hb0 := hslb (80 * s)
  have e1 : suN sl (80 * s) 10 = suN (sbS sl s) 0 10 := suN_ext (fun i hi => by rw [Nat.zero_add]; rfl)
  have e2 : suN sl (80 * s + 12) (ss s - 12) = suN (sbS sl s) 12 (ss s - 12) := suN_ext (fun i hi => by show sl (80 * s + 12 + i) = sl (80 * s + (12 + i)); rw [Nat.add_assoc])
  have hq1 := suN_lt sl (80 * s) 10
  have hq2 := suN_lt sl (80 * s + 12) (ss s - 12)
  refine mn_aload_n 0 dMo_state_0 rfl rfl ?_
  refine mn_get okMo 10 lMo_29 (by decide) hM rfl dMo_state_1 ?_
  refine mn_iload_n 1 dMo_state_4 rfl rfl ?_
  refine mn_ialdN (j := s) hSs rfl (by omega) (by omega) dMo_state_5 ?_
  refine mn_if_ne 11 dMo_state_6 (by decide) (fun c1 => ?_) (fun c1 => ?_)
  · have c1 := mt (nI_eq (a := (ss s)) (b := 0) (by omega) (by omega)).mpr c1
    refine mn_bipush (v := 80) dMo_state_11 (by decide) ?_
    refine mn_iload_n 1 dMo_state_13 rfl rfl ?_
    refine mn_imul (z := nI (80 * s)) dMo_state_14 (pk_mul 80 s) ?_
    refine mn_istore_n (ls' := [(0, .ref mo), (1, .int (nI s)), (2, .int (nI (80 * s)))]) dMo_state_15 rfl (by decide) rfl ?_
    refine mn_aload_n 0 dMo_state_16 rfl rfl ?_
    refine mn_get okMo 9 lMo_26 (by decide) hM rfl dMo_state_17 ?_
    refine mn_iload_n 2 dMo_state_20 rfl rfl ?_
    refine mn_ialdN (j := 80 * s) hSo rfl (by omega) (by omega) dMo_state_21 ?_
    refine mn_bipush (v := 86) dMo_state_22 (by decide) ?_
    refine mn_icmp_ne 65 dMo_state_24 (by decide) (fun c2 => ?_) (fun c2 => ?_)
    · have c2 := mt (nI_eq (a := (sl (80 * s))) (b := 86) (by omega) (by omega)).mpr c2
      refine mn_iconst (v := 0) dMo_state_65 (by decide) ?_
      refine mn_istore_n (ls' := [(0, .ref mo), (1, .int (nI s)), (2, .int (nI (80 * s))), (3, .int 0)]) dMo_state_66 rfl (by decide) rfl ?_
      refine mn_iload_n 3 dMo_state_67 rfl rfl ?_
      refine mn_if_eq 136 dMo_state_68 (by decide) (fun c3 => ?_) (fun c3 => ?_)
      · refine mn_iconst (v := 0) dMo_state_136 (by decide) ?_
        refine mn_istore_n (ls' := [(0, .ref mo), (1, .int (nI s)), (2, .int (nI (80 * s))), (3, .int 0)]) dMo_state_137 rfl (by decide) rfl ?_
        refine mn_iload_n 3 dMo_state_138 rfl rfl ?_
        refine mn_if_ne 146 dMo_state_139 (by decide) (fun c4 => ?_) (fun c4 => ?_)
        · exact absurd c4 (by decide)
        · refine mn_iconst (v := 3) dMo_state_142 (by decide) ?_
          refine mn_goto 182 dMo_state_143 (by decide) ?_
          exact mn_iret rfl dMo_state_182 ⟨by rw [stN, if_neg c1, if_neg (fun q => by obtain ⟨q0, q1, q2, q3, q4, q5, q6, q7⟩ := q; simp only [sbS, Nat.add_zero] at q1 q2 q3 q4 q5 q6 q7; rw [← e1] at q3; omega)]; rfl, rfl⟩
      · exact absurd c3 (by decide)
    · have c2 := (nI_eq (a := (sl (80 * s))) (b := 86) (by omega) (by omega)).mp c2
      refine mn_aload_n 0 dMo_state_27 rfl rfl ?_
      refine mn_get okMo 9 lMo_26 (by decide) hM rfl dMo_state_28 ?_
      refine mn_iload_n 2 dMo_state_31 rfl rfl ?_
      refine mn_iconst (v := 1) dMo_state_32 (by decide) ?_
      refine mn_iadd (z := nI (80 * s + 1)) dMo_state_33 (nI_add (80 * s) 1) ?_
      refine mn_ialdN (j := 80 * s + 1) hSo rfl (by omega) (by omega) dMo_state_34 ?_
      refine mn_bipush (v := 83) dMo_state_35 (by decide) ?_
      refine mn_icmp_ne 65 dMo_state_37 (by decide) (fun c5 => ?_) (fun c5 => ?_)
      · have c5 := mt (nI_eq (a := (sl (80 * s + 1))) (b := 83) (by omega) (by omega)).mpr c5
        refine mn_iconst (v := 0) dMo_state_65 (by decide) ?_
        refine mn_istore_n (ls' := [(0, .ref mo), (1, .int (nI s)), (2, .int (nI (80 * s))), (3, .int 0)]) dMo_state_66 rfl (by decide) rfl ?_
        refine mn_iload_n 3 dMo_state_67 rfl rfl ?_
        refine mn_if_eq 136 dMo_state_68 (by decide) (fun c6 => ?_) (fun c6 => ?_)
        · refine mn_iconst (v := 0) dMo_state_136 (by decide) ?_
          refine mn_istore_n (ls' := [(0, .ref mo), (1, .int (nI s)), (2, .int (nI (80 * s))), (3, .int 0)]) dMo_state_137 rfl (by decide) rfl ?_
          refine mn_iload_n 3 dMo_state_138 rfl rfl ?_
          refine mn_if_ne 146 dMo_state_139 (by decide) (fun c7 => ?_) (fun c7 => ?_)
          · exact absurd c7 (by decide)
          · refine mn_iconst (v := 3) dMo_state_142 (by decide) ?_
            refine mn_goto 182 dMo_state_143 (by decide) ?_
            exact mn_iret rfl dMo_state_182 ⟨by rw [stN, if_neg c1, if_neg (fun q => by obtain ⟨q0, q1, q2, q3, q4, q5, q6, q7⟩ := q; simp only [sbS, Nat.add_zero] at q1 q2 q3 q4 q5 q6 q7; rw [← e1] at q3; omega)]; rfl, rfl⟩
        · exact absurd c6 (by decide)
      · have c5 := (nI_eq (a := (sl (80 * s + 1))) (b := 83) (by omega) (by omega)).mp c5
        refine mn_aload_n 0 dMo_state_40 rfl rfl ?_
        refine mn_get okMo 9 lMo_26 (by decide) hM rfl dMo_state_41 ?_
        refine mn_iload_n 2 dMo_state_44 rfl rfl ?_
        refine mn_bipush (v := 10) dMo_state_45 (by decide) ?_
        refine mn_cS (d' := 1) (w' := 21) (As := [.ref (mo + 4), .int (nI (80 * s)), .int 10]) (stk' := [.int (nI (suN sl (80 * s) 10))]) okMo_sum lMo_80 dMo_state_47 rfl rfl (Nat.le_of_ble_eq_true rfl) (Nat.le_of_ble_eq_true rfl) (by decide) (c_M_sumN hSo (fr := 80 * s) (n := 10) (by omega) (by omega)) rfl ?_
        refine mn_aload_n 0 dMo_state_50 rfl rfl ?_
        refine mn_iload_n 2 dMo_state_51 rfl rfl ?_
        refine mn_bipush (v := 10) dMo_state_52 (by decide) ?_
        refine mn_iadd (z := nI (80 * s + 10)) dMo_state_54 (nI_add (80 * s) 10) ?_
        refine mn_cV (d' := 0) (w' := 0) (As := [.int (nI (80 * s + 10))]) (stk' := [.int (nI (sl (80 * s + 10) + 256 * sl (80 * s + 11))), .int (nI (suN sl (80 * s) 10))]) okMo_two lMo_134 dMo_state_55 hM rfl rfl rfl rfl (Nat.le_of_ble_eq_true rfl) (Nat.le_of_ble_eq_true rfl) (by decide) (c_M_two hM hSo (p := 80 * s + 10) (by omega)) rfl ?_
        refine mn_icmp_ne 65 dMo_state_58 (by decide) (fun c8 => ?_) (fun c8 => ?_)
        · have c8 := mt (nI_eq (a := (suN sl (80 * s) 10)) (b := (sl (80 * s + 10) + 256 * sl (80 * s + 11))) (by omega) (by omega)).mpr c8
          refine mn_iconst (v := 0) dMo_state_65 (by decide) ?_
          refine mn_istore_n (ls' := [(0, .ref mo), (1, .int (nI s)), (2, .int (nI (80 * s))), (3, .int 0)]) dMo_state_66 rfl (by decide) rfl ?_
          refine mn_iload_n 3 dMo_state_67 rfl rfl ?_
          refine mn_if_eq 136 dMo_state_68 (by decide) (fun c9 => ?_) (fun c9 => ?_)
          · refine mn_iconst (v := 0) dMo_state_136 (by decide) ?_
            refine mn_istore_n (ls' := [(0, .ref mo), (1, .int (nI s)), (2, .int (nI (80 * s))), (3, .int 0)]) dMo_state_137 rfl (by decide) rfl ?_
            refine mn_iload_n 3 dMo_state_138 rfl rfl ?_
            refine mn_if_ne 146 dMo_state_139 (by decide) (fun c10 => ?_) (fun c10 => ?_)
            · exact absurd c10 (by decide)
            · refine mn_iconst (v := 3) dMo_state_142 (by decide) ?_
              refine mn_goto 182 dMo_state_143 (by decide) ?_
              exact mn_iret rfl dMo_state_182 ⟨by rw [stN, if_neg c1, if_neg (fun q => by obtain ⟨q0, q1, q2, q3, q4, q5, q6, q7⟩ := q; simp only [sbS, Nat.add_zero] at q1 q2 q3 q4 q5 q6 q7; rw [← e1] at q3; omega)]; rfl, rfl⟩
          · exact absurd c9 (by decide)
        · have c8 := (nI_eq (a := (suN sl (80 * s) 10)) (b := (sl (80 * s + 10) + 256 * sl (80 * s + 11))) (by omega) (by omega)).mp c8
          refine mn_iconst (v := 1) dMo_state_61 (by decide) ?_
          refine mn_goto 66 dMo_state_62 (by decide) ?_
          refine mn_istore_n (ls' := [(0, .ref mo), (1, .int (nI s)), (2, .int (nI (80 * s))), (3, .int 1)]) dMo_state_66 rfl (by decide) rfl ?_
          refine mn_iload_n 3 dMo_state_67 rfl rfl ?_
          refine mn_if_eq 136 dMo_state_68 (by decide) (fun c11 => ?_) (fun c11 => ?_)
          · exact absurd c11 (by decide)
          · by_cases h41 : 1 ≤ sl (80 * s + 4) ∧ sl (80 * s + 4) ≤ 60
            · refine mn_aload_n 0 dMo_state_71 rfl rfl ?_
              refine mn_get okMo 9 lMo_26 (by decide) hM rfl dMo_state_72 ?_
              refine mn_iload_n 2 dMo_state_75 rfl rfl ?_
              refine mn_iconst (v := 4) dMo_state_76 (by decide) ?_
              refine mn_iadd (z := nI (80 * s + 4)) dMo_state_77 (nI_add (80 * s) 4) ?_
              refine mn_ialdN (j := 80 * s + 4) hSo rfl (by omega) (by omega) dMo_state_78 ?_
              refine mn_iconst (v := 1) dMo_state_79 (by decide) ?_
              refine mn_bipush (v := 60) dMo_state_80 (by decide) ?_
              refine mn_cS (d' := 0) (w' := 0) (As := [.int (nI (sl (80 * s + 4))), .int 1, .int 60]) (stk' := [.int 1]) okMo_in lMo_68 dMo_state_82 rfl rfl (Nat.le_of_ble_eq_true rfl) (Nat.le_of_ble_eq_true rfl) (by decide) (c_M_in_y (ml_lt (a := 1) (b := sl (80 * s + 4)) (by omega) (by omega) h41.1) (ml_lt (a := sl (80 * s + 4)) (b := 60) (by omega) (by omega) h41.2)) rfl ?_
              refine mn_if_eq 136 dMo_state_85 (by decide) (fun c12 => ?_) (fun c12 => ?_)
              · exact absurd c12 (by decide)
              · by_cases h51 : sl (80 * s + 5) ≤ 3
                · refine mn_aload_n 0 dMo_state_88 rfl rfl ?_
                  refine mn_get okMo 9 lMo_26 (by decide) hM rfl dMo_state_89 ?_
                  refine mn_iload_n 2 dMo_state_92 rfl rfl ?_
                  refine mn_iconst (v := 5) dMo_state_93 (by decide) ?_
                  refine mn_iadd (z := nI (80 * s + 5)) dMo_state_94 (nI_add (80 * s) 5) ?_
                  refine mn_ialdN (j := 80 * s + 5) hSo rfl (by omega) (by omega) dMo_state_95 ?_
                  refine mn_iconst (v := 0) dMo_state_96 (by decide) ?_
                  refine mn_iconst (v := 3) dMo_state_97 (by decide) ?_
                  refine mn_cS (d' := 0) (w' := 0) (As := [.int (nI (sl (80 * s + 5))), .int 0, .int 3]) (stk' := [.int 1]) okMo_in lMo_68 dMo_state_98 rfl rfl (Nat.le_of_ble_eq_true rfl) (Nat.le_of_ble_eq_true rfl) (by decide) (c_M_in_y (nI_pos (by omega)) (ml_lt (a := sl (80 * s + 5)) (b := 3) (by omega) (by omega) h51)) rfl ?_
                  refine mn_if_eq 136 dMo_state_101 (by decide) (fun c13 => ?_) (fun c13 => ?_)
                  · exact absurd c13 (by decide)
                  · refine mn_aload_n 0 dMo_state_104 rfl rfl ?_
                    refine mn_get okMo 9 lMo_26 (by decide) hM rfl dMo_state_105 ?_
                    refine mn_iload_n 2 dMo_state_108 rfl rfl ?_
                    refine mn_iconst (v := 3) dMo_state_109 (by decide) ?_
                    refine mn_iadd (z := nI (80 * s + 3)) dMo_state_110 (nI_add (80 * s) 3) ?_
                    refine mn_ialdN (j := 80 * s + 3) hSo rfl (by omega) (by omega) dMo_state_111 ?_
                    refine mn_aload_n 0 dMo_state_112 rfl rfl ?_
                    refine mn_get okMo 9 lMo_26 (by decide) hM rfl dMo_state_113 ?_
                    refine mn_iload_n 2 dMo_state_116 rfl rfl ?_
                    refine mn_iconst (v := 4) dMo_state_117 (by decide) ?_
                    refine mn_iadd (z := nI (80 * s + 4)) dMo_state_118 (nI_add (80 * s) 4) ?_
                    refine mn_ialdN (j := 80 * s + 4) hSo rfl (by omega) (by omega) dMo_state_119 ?_
                    refine mn_aload_n 0 dMo_state_120 rfl rfl ?_
                    refine mn_get okMo 9 lMo_26 (by decide) hM rfl dMo_state_121 ?_
                    refine mn_iload_n 2 dMo_state_124 rfl rfl ?_
                    refine mn_iconst (v := 5) dMo_state_125 (by decide) ?_
                    refine mn_iadd (z := nI (80 * s + 5)) dMo_state_126 (nI_add (80 * s) 5) ?_
                    refine mn_ialdN (j := 80 * s + 5) hSo rfl (by omega) (by omega) dMo_state_127 ?_
                    refine mn_iadd (z := nI (sl (80 * s + 4) + (sl (80 * s + 5)))) dMo_state_128 (nI_add (sl (80 * s + 4)) (sl (80 * s + 5))) ?_
                    refine mn_icmp_ge 136 dMo_state_129 (by decide) (fun c14 => ?_) (fun c14 => ?_)
                    · have c14 := (nI_leI (a := (sl (80 * s + 4) + (sl (80 * s + 5)))) (b := (sl (80 * s + 3))) (by omega) (by omega)).mp c14
                      refine mn_iconst (v := 0) dMo_state_136 (by decide) ?_
                      refine mn_istore_n (ls' := [(0, .ref mo), (1, .int (nI s)), (2, .int (nI (80 * s))), (3, .int 0)]) dMo_state_137 rfl (by decide) rfl ?_
                      refine mn_iload_n 3 dMo_state_138 rfl rfl ?_
                      refine mn_if_ne 146 dMo_state_139 (by decide) (fun c15 => ?_) (fun c15 => ?_)
                      · exact absurd c15 (by decide)
                      · refine mn_iconst (v := 3) dMo_state_142 (by decide) ?_
                        refine mn_goto 182 dMo_state_143 (by decide) ?_
                        exact mn_iret rfl dMo_state_182 ⟨by rw [stN, if_neg c1, if_neg (fun q => by obtain ⟨q0, q1, q2, q3, q4, q5, q6, q7⟩ := q; simp only [sbS, Nat.add_zero] at q1 q2 q3 q4 q5 q6 q7; rw [← e1] at q3; omega)]; rfl, rfl⟩
                    · have c14 := mt (nI_leI (a := (sl (80 * s + 4) + (sl (80 * s + 5)))) (b := (sl (80 * s + 3))) (by omega) (by omega)).mpr c14
                      refine mn_iconst (v := 1) dMo_state_132 (by decide) ?_
                      refine mn_goto 137 dMo_state_133 (by decide) ?_
                      refine mn_istore_n (ls' := [(0, .ref mo), (1, .int (nI s)), (2, .int (nI (80 * s))), (3, .int 1)]) dMo_state_137 rfl (by decide) rfl ?_
                      refine mn_iload_n 3 dMo_state_138 rfl rfl ?_
                      refine mn_if_ne 146 dMo_state_139 (by decide) (fun c16 => ?_) (fun c16 => ?_)
                      · refine mn_aload_n 0 dMo_state_146 rfl rfl ?_
                        refine mn_get okMo 9 lMo_26 (by decide) hM rfl dMo_state_147 ?_
                        refine mn_iload_n 2 dMo_state_150 rfl rfl ?_
                        refine mn_bipush (v := 12) dMo_state_151 (by decide) ?_
                        refine mn_iadd (z := nI (80 * s + 12)) dMo_state_153 (nI_add (80 * s) 12) ?_
                        refine mn_aload_n 0 dMo_state_154 rfl rfl ?_
                        refine mn_get okMo 10 lMo_29 (by decide) hM rfl dMo_state_155 ?_
                        refine mn_iload_n 1 dMo_state_158 rfl rfl ?_
                        refine mn_ialdN (j := s) hSs rfl (by omega) (by omega) dMo_state_159 ?_
                        refine mn_bipush (v := 12) dMo_state_160 (by decide) ?_
                        refine mn_isub (z := nI ((ss s) - 12)) dMo_state_162 (pk_sub (a := ss s) (b := 12) (by omega)) ?_
                        refine mn_cS (d' := 1) (w' := 21) (As := [.ref (mo + 4), .int (nI (80 * s + 12)), .int (nI ((ss s) - 12))]) (stk' := [.int (nI (suN sl (80 * s + 12) ((ss s) - 12)))]) okMo_sum lMo_80 dMo_state_163 rfl rfl (Nat.le_of_ble_eq_true rfl) (Nat.le_of_ble_eq_true rfl) (by decide) (c_M_sumN hSo (fr := 80 * s + 12) (n := (ss s) - 12) (by omega) (by omega)) rfl ?_
                        refine mn_aload_n 0 dMo_state_166 rfl rfl ?_
                        refine mn_iload_n 2 dMo_state_167 rfl rfl ?_
                        refine mn_bipush (v := 8) dMo_state_168 (by decide) ?_
                        refine mn_iadd (z := nI (80 * s + 8)) dMo_state_170 (nI_add (80 * s) 8) ?_
                        refine mn_cV (d' := 0) (w' := 0) (As := [.int (nI (80 * s + 8))]) (stk' := [.int (nI (sl (80 * s + 8) + 256 * sl (80 * s + 9))), .int (nI (suN sl (80 * s + 12) ((ss s) - 12)))]) okMo_two lMo_134 dMo_state_171 hM rfl rfl rfl rfl (Nat.le_of_ble_eq_true rfl) (Nat.le_of_ble_eq_true rfl) (by decide) (c_M_two hM hSo (p := 80 * s + 8) (by omega)) rfl ?_
                        refine mn_icmp_ne 181 dMo_state_174 (by decide) (fun c17 => ?_) (fun c17 => ?_)
                        · have c17 := mt (nI_eq (a := (suN sl (80 * s + 12) ((ss s) - 12))) (b := (sl (80 * s + 8) + 256 * sl (80 * s + 9))) (by omega) (by omega)).mpr c17
                          refine mn_iconst (v := 2) dMo_state_181 (by decide) ?_
                          exact mn_iret rfl dMo_state_182 ⟨by rw [stN, if_neg c1, if_pos (⟨by omega, by show sl (80 * s + 0) = 86; rw [Nat.add_zero]; assumption, by assumption, by rw [← e1]; show sl (80 * s + 10) + 256 * sl (80 * s + 11) = _; omega, h41.1, h41.2, h51, by show sl (80 * s + 3) < sl (80 * s + 4) + sl (80 * s + 5); omega⟩ : hdN (sbS sl s) (ss s)), if_neg (by rw [← e2]; show ¬ sl (80 * s + 8) + 256 * sl (80 * s + 9) = _; omega)]; rfl, rfl⟩
                        · have c17 := (nI_eq (a := (suN sl (80 * s + 12) ((ss s) - 12))) (b := (sl (80 * s + 8) + 256 * sl (80 * s + 9))) (by omega) (by omega)).mp c17
                          refine mn_iconst (v := 1) dMo_state_177 (by decide) ?_
                          refine mn_goto 182 dMo_state_178 (by decide) ?_
                          exact mn_iret rfl dMo_state_182 ⟨by rw [stN, if_neg c1, if_pos (⟨by omega, by show sl (80 * s + 0) = 86; rw [Nat.add_zero]; assumption, by assumption, by rw [← e1]; show sl (80 * s + 10) + 256 * sl (80 * s + 11) = _; omega, h41.1, h41.2, h51, by show sl (80 * s + 3) < sl (80 * s + 4) + sl (80 * s + 5); omega⟩ : hdN (sbS sl s) (ss s)), if_pos (by rw [← e2]; show sl (80 * s + 8) + 256 * sl (80 * s + 9) = _; omega)]; rfl, rfl⟩
                      · exact absurd c16 (by decide)
                · refine mn_aload_n 0 dMo_state_88 rfl rfl ?_
                  refine mn_get okMo 9 lMo_26 (by decide) hM rfl dMo_state_89 ?_
                  refine mn_iload_n 2 dMo_state_92 rfl rfl ?_
                  refine mn_iconst (v := 5) dMo_state_93 (by decide) ?_
                  refine mn_iadd (z := nI (80 * s + 5)) dMo_state_94 (nI_add (80 * s) 5) ?_
                  refine mn_ialdN (j := 80 * s + 5) hSo rfl (by omega) (by omega) dMo_state_95 ?_
                  refine mn_iconst (v := 0) dMo_state_96 (by decide) ?_
                  refine mn_iconst (v := 3) dMo_state_97 (by decide) ?_
                  refine mn_cS (d' := 0) (w' := 0) (As := [.int (nI (sl (80 * s + 5))), .int 0, .int 3]) (stk' := [.int 0]) okMo_in lMo_68 dMo_state_98 rfl rfl (Nat.le_of_ble_eq_true rfl) (Nat.le_of_ble_eq_true rfl) (by decide) (c_M_in_n (Or.inr ((nI_ltI (a := 3) (by omega) (by omega)).mpr (by omega)))) rfl ?_
                  refine mn_if_eq 136 dMo_state_101 (by decide) (fun c18 => ?_) (fun c18 => ?_)
                  · refine mn_iconst (v := 0) dMo_state_136 (by decide) ?_
                    refine mn_istore_n (ls' := [(0, .ref mo), (1, .int (nI s)), (2, .int (nI (80 * s))), (3, .int 0)]) dMo_state_137 rfl (by decide) rfl ?_
                    refine mn_iload_n 3 dMo_state_138 rfl rfl ?_
                    refine mn_if_ne 146 dMo_state_139 (by decide) (fun c19 => ?_) (fun c19 => ?_)
                    · exact absurd c19 (by decide)
                    · refine mn_iconst (v := 3) dMo_state_142 (by decide) ?_
                      refine mn_goto 182 dMo_state_143 (by decide) ?_
                      exact mn_iret rfl dMo_state_182 ⟨by rw [stN, if_neg c1, if_neg (fun q => by obtain ⟨q0, q1, q2, q3, q4, q5, q6, q7⟩ := q; simp only [sbS, Nat.add_zero] at q1 q2 q3 q4 q5 q6 q7; rw [← e1] at q3; omega)]; rfl, rfl⟩
                  · exact absurd c18 (by decide)
            · refine mn_aload_n 0 dMo_state_71 rfl rfl ?_
              refine mn_get okMo 9 lMo_26 (by decide) hM rfl dMo_state_72 ?_
              refine mn_iload_n 2 dMo_state_75 rfl rfl ?_
              refine mn_iconst (v := 4) dMo_state_76 (by decide) ?_
              refine mn_iadd (z := nI (80 * s + 4)) dMo_state_77 (nI_add (80 * s) 4) ?_
              refine mn_ialdN (j := 80 * s + 4) hSo rfl (by omega) (by omega) dMo_state_78 ?_
              refine mn_iconst (v := 1) dMo_state_79 (by decide) ?_
              refine mn_bipush (v := 60) dMo_state_80 (by decide) ?_
              refine mn_cS (d' := 0) (w' := 0) (As := [.int (nI (sl (80 * s + 4))), .int 1, .int 60]) (stk' := [.int 0]) okMo_in lMo_68 dMo_state_82 rfl rfl (Nat.le_of_ble_eq_true rfl) (Nat.le_of_ble_eq_true rfl) (by decide) (c_M_in_n (by rcases Nat.lt_or_ge (sl (80 * s + 4)) 1 with q | q; exact Or.inl ((nI_ltI (b := 1) (by omega) (by omega)).mpr q); exact Or.inr ((nI_ltI (a := 60) (by omega) (by omega)).mpr (by omega)))) rfl ?_
              refine mn_if_eq 136 dMo_state_85 (by decide) (fun c20 => ?_) (fun c20 => ?_)
              · refine mn_iconst (v := 0) dMo_state_136 (by decide) ?_
                refine mn_istore_n (ls' := [(0, .ref mo), (1, .int (nI s)), (2, .int (nI (80 * s))), (3, .int 0)]) dMo_state_137 rfl (by decide) rfl ?_
                refine mn_iload_n 3 dMo_state_138 rfl rfl ?_
                refine mn_if_ne 146 dMo_state_139 (by decide) (fun c21 => ?_) (fun c21 => ?_)
                · exact absurd c21 (by decide)
                · refine mn_iconst (v := 3) dMo_state_142 (by decide) ?_
                  refine mn_goto 182 dMo_state_143 (by decide) ?_
                  exact mn_iret rfl dMo_state_182 ⟨by rw [stN, if_neg c1, if_neg (fun q => by obtain ⟨q0, q1, q2, q3, q4, q5, q6, q7⟩ := q; simp only [sbS, Nat.add_zero] at q1 q2 q3 q4 q5 q6 q7; rw [← e1] at q3; omega)]; rfl, rfl⟩
              · exact absurd c20 (by decide)
  · have c1 := (nI_eq (a := (ss s)) (b := 0) (by omega) (by omega)).mp c1
    refine mn_iconst (v := 0) dMo_state_9 (by decide) ?_
    exact mn_iret rfl dMo_state_10 ⟨by rw [stN, if_pos c1]; rfl, rfl⟩
