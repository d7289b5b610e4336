set_option maxRecDepth 100000 in
theorem c_M_read_bad {E : mn_En} {g : mn_H} {mo tl e sz rp st m r wd ag td om : Nat} {ir : Int32} (hM : mn_at g mo (.inr (11, [.int 0, .ref (mo + 1), .int (nI tl), .ref (mo + 2), .ref (mo + 3), .int (nI e), .int (nI sz), .int (nI rp), .int (nI st), .ref (mo + 4), .ref (mo + 5), .ref (mo + 6), .int ir, .int (nI m), .int (nI r), .int (nI wd), .int (nI ag), .ref (mo + 7), .ref (mo + 8), .ref (mo + 9), .ref (mo + 10), .int (nI td), .int (nI om), .ref (mo + 11), .ref (mo + 12), .ref (mo + 13), .ref (mo + 14), .ref (mo + 15), .ref (mo + 16)]))) {x : Int32} (hx : x < 0 ∨ 255 < x) : mn_R E MMo_read 4 97 0 0 0 [(0, .ref mo), (1, .int x)] [] g (fun x g' => x = some (.int (-1)) ∧ mn_fr (fun q => q = mo) g g' ∧ mn_at g' mo (.inr (11, [.int 0, .ref (mo + 1), .int (nI tl), .ref (mo + 2), .ref (mo + 3), .int (nI e), .int (nI sz), .int (nI rp), .int (nI st), .ref (mo + 4), .ref (mo + 5), .ref (mo + 6), .int ir, .int (nI m), .int (nI r), .int (nI wd), .int (nI ag), .ref (mo + 7), .ref (mo + 8), .ref (mo + 9), .ref (mo + 10), .int (nI td), .int (nI om), .ref (mo + 11), .ref (mo + 12), .ref (mo + 13), .ref (mo + 14), .ref (mo + 15), .ref (mo + 16)]))) := by
  refine mn_aload_n 0 dMo_read_0 rfl rfl ?_
  refine mn_iconst (v := 0) dMo_read_1 (by decide) ?_
  refine mn_putf okMo 0 lMo_1 (by decide) rfl hM rfl rfl (Nat.le_of_ble_eq_true rfl) dMo_read_2 ?_
  obtain ⟨g1, eg1⟩ : ∃ gg_, gg_ = mn_set g mo (.inr (11, [.int 0, .ref (mo + 1), .int (nI tl), .ref (mo + 2), .ref (mo + 3), .int (nI e), .int (nI sz), .int (nI rp), .int (nI st), .ref (mo + 4), .ref (mo + 5), .ref (mo + 6), .int ir, .int (nI m), .int (nI r), .int (nI wd), .int (nI ag), .ref (mo + 7), .ref (mo + 8), .ref (mo + 9), .ref (mo + 10), .int (nI td), .int (nI om), .ref (mo + 11), .ref (mo + 12), .ref (mo + 13), .ref (mo + 14), .ref (mo + 15), .ref (mo + 16)])) := ⟨_, rfl⟩
  refine mn_R.toG eg1 ?_
  have hM_g1 : mn_at g1 mo (.inr (11, [.int 0, .ref (mo + 1), .int (nI tl), .ref (mo + 2), .ref (mo + 3), .int (nI e), .int (nI sz), .int (nI rp), .int (nI st), .ref (mo + 4), .ref (mo + 5), .ref (mo + 6), .int ir, .int (nI m), .int (nI r), .int (nI wd), .int (nI ag), .ref (mo + 7), .ref (mo + 8), .ref (mo + 9), .ref (mo + 10), .int (nI td), .int (nI om), .ref (mo + 11), .ref (mo + 12), .ref (mo + 13), .ref (mo + 14), .ref (mo + 15), .ref (mo + 16)])) := by rw [eg1]; exact hM.same
  refine mn_iload_n 1 dMo_read_5 rfl rfl ?_
  refine mn_iconst (v := 0) dMo_read_6 (by decide) ?_
  refine mn_sipush (v := 255) dMo_read_7 (by decide) ?_
  refine mn_cS (d' := 0) (w' := 0) (As := [.int x, .int 0, .int 255]) (stk' := [.int 0]) okMo_in lMo_68 dMo_read_10 rfl rfl (Nat.le_of_ble_eq_true rfl) (Nat.le_of_ble_eq_true rfl) (by decide) (c_M_in_n hx) rfl ?_
  refine mn_if_ne 18 dMo_read_13 (by decide) (fun c2 => ?_) (fun c2 => ?_)
  · exact absurd c2 (by decide)
  · refine mn_iconst (v := -1) dMo_read_16 (by decide) ?_
    exact mn_iret rfl dMo_read_17 ⟨rfl, (mn_fr.rf.set eg1 (by show mo = mo; omega)), hM_g1⟩
set_option maxRecDepth 100000 in
theorem c_M_rd1 {E : mn_En} {g : mn_H} {mo tl e sz rp st m r wd ag td om : Nat} {sl ss : Nat → Nat} (hM : mn_at g mo (.inr (11, [.int 0, .ref (mo + 1), .int (nI tl), .ref (mo + 2), .ref (mo + 3), .int (nI e), .int (nI sz), .int (nI rp), .int (nI st), .ref (mo + 4), .ref (mo + 5), .ref (mo + 6), .int 0, .int (nI m), .int (nI r), .int (nI wd), .int (nI ag), .ref (mo + 7), .ref (mo + 8), .ref (mo + 9), .ref (mo + 10), .int (nI td), .int (nI om), .ref (mo + 11), .ref (mo + 12), .ref (mo + 13), .ref (mo + 14), .ref (mo + 15), .ref (mo + 16)]))) (hSo : mn_at g (mo + 4) (.inl (0, 4800, .inl (fun j => nI (sl j))))) (hSs : mn_at g (mo + 5) (.inl (0, 60, .inl (fun j => nI (ss j))))) {x : Nat} {Q : Option Value → mn_H → Prop} (hx : x < 256) (hss : ∀ k, ss k ≤ 80) (hs20 : ∀ k, ss k = 0 ∨ 20 ≤ ss k) (hslb : ∀ j, sl j < 256) (KKn : (∀ s, s < 60 → ¬ (sbS sl s 2 = x ∧ stN (sbS sl s) (ss s) = 1)) → mn_R E MMo_read 4 97 0 0 113 [(0, .ref mo), (1, .int (nI x))] [] g Q) (KKy : ∀ (f : Nat) (g1 : mn_H), f < 60 → (sbS sl f 2 = x ∧ stN (sbS sl f) (ss f) = 1) → (∀ s, s < f → ¬ (sbS sl s 2 = x ∧ stN (sbS sl s) (ss s) = 1)) → mn_fr (fun q => q = mo) g g1 → mn_at g1 mo (.inr (11, [.int 0, .ref (mo + 1), .int (nI tl), .ref (mo + 2), .ref (mo + 3), .int (nI e), .int (nI sz), .int (nI rp), .int (nI st), .ref (mo + 4), .ref (mo + 5), .ref (mo + 6), .int 1, .int (nI (sl (80 * f + 4))), .int (nI (sl (80 * f + 5))), .int (nI (ss f)), .int (nI ag), .ref (mo + 7), .ref (mo + 8), .ref (mo + 9), .ref (mo + 10), .int (nI td), .int (nI om), .ref (mo + 11), .ref (mo + 12), .ref (mo + 13), .ref (mo + 14), .ref (mo + 15), .ref (mo + 16)])) → mn_R E MMo_read 4 97 0 0 113 [(0, .ref mo), (1, .int (nI x))] [] g1 Q) : ∀ (fu s : Nat), s ≤ 60 → 60 - s < fu → (∀ s9, s9 < s → ¬ (sbS sl s9 2 = x ∧ stN (sbS sl s9) (ss s9) = 1)) → mn_R E MMo_read 4 97 0 0 25 [(0, .ref mo), (1, .int (nI x)), (2, .int (nI s))] [] g (Q) := by
  intro fu
  induction fu with
  | zero => intro s h1 h2; exact absurd h2 (by omega)
  | succ fu ih =>
    intro s h1 h2 h3
    have hstl := stN_lt (sbS sl s) (ss s)
    have hslb2 := hslb (80 * s + 2)
    refine mn_iload_n 2 dMo_read_25 rfl rfl ?_
    refine mn_bipush (v := 60) dMo_read_26 (by decide) ?_
    refine mn_icmp_ge 113 dMo_read_28 (by decide) (fun c1 => ?_) (fun c1 => ?_)
    · have c1 := (nI_leI (a := 60) (b := s) (by omega) (by omega)).mp c1
      refine mn_R.sub [0, 1] (ls' := [(0, .ref mo), (1, .int (nI x))]) rfl ?_
      exact KKn (fun s9 hs9 => h3 s9 (by omega))
    · have c1 := _root_.mt (nI_leI (a := 60) (b := s) (by omega) (by omega)).mpr c1
      refine mn_aload_n 0 dMo_read_31 rfl rfl ?_
      refine mn_get okMo 12 lMo_140 (by decide) hM rfl dMo_read_32 ?_
      refine mn_if_ne 113 dMo_read_35 (by decide) (fun c2 => ?_) (fun c2 => ?_)
      · exact absurd c2 (by decide)
      · refine mn_aload_n 0 dMo_read_38 rfl rfl ?_
        refine mn_iload_n 2 dMo_read_39 rfl rfl ?_
        refine mn_cV (d' := 2) (w' := 45) (As := [.int (nI s)]) (stk' := [.int (nI (stN (sbS sl s) (ss s)))]) okMo_state lMo_137 dMo_read_40 hM rfl rfl rfl rfl (Nat.le_of_ble_eq_true rfl) (Nat.le_of_ble_eq_true rfl) (by decide) (c_M_state hM hSo hSs hss hs20 hslb (s := s) (by omega)) rfl ?_
        refine mn_iconst (v := 1) dMo_read_43 (by decide) ?_
        refine mn_icmp_ne 107 dMo_read_44 (by decide) (fun c3 => ?_) (fun c3 => ?_)
        · have c3 := _root_.mt (nI_eq (a := (stN (sbS sl s) (ss s))) (b := 1) (by omega) (by omega)).mpr c3
          refine mn_iinc (v := nI (s + 1)) (ls' := [(0, .ref mo), (1, .int (nI x)), (2, .int (nI (s + 1)))]) 2 dMo_read_107 rfl (nI_add s 1) (by decide) rfl ?_
          refine mn_goto 25 dMo_read_110 (by decide) ?_
          refine mn_R.sub [0, 1, 2] (ls' := [(0, .ref mo), (1, .int (nI x)), (2, .int (nI (s + 1)))]) rfl ?_
          exact ih (s + 1) (by omega) (by omega) (fun s9 hs9 => by rcases Nat.lt_or_ge s9 s with q9 | q9; exact h3 s9 q9; obtain rfl : s9 = s := (by omega); exact fun q => c3 q.2)
        · have c3 := (nI_eq (a := (stN (sbS sl s) (ss s))) (b := 1) (by omega) (by omega)).mp c3
          refine mn_aload_n 0 dMo_read_47 rfl rfl ?_
          refine mn_get okMo 9 lMo_26 (by decide) hM rfl dMo_read_48 ?_
          refine mn_bipush (v := 80) dMo_read_51 (by decide) ?_
          refine mn_iload_n 2 dMo_read_53 rfl rfl ?_
          refine mn_imul (z := nI (80 * s)) dMo_read_54 (pk_mul 80 s) ?_
          refine mn_iconst (v := 2) dMo_read_55 (by decide) ?_
          refine mn_iadd (z := nI (80 * s + 2)) dMo_read_56 (nI_add (80 * s) 2) ?_
          refine mn_ialdN (j := 80 * s + 2) hSo rfl (by omega) (by omega) dMo_read_57 ?_
          refine mn_iload_n 1 dMo_read_58 rfl rfl ?_
          refine mn_icmp_ne 107 dMo_read_59 (by decide) (fun c4 => ?_) (fun c4 => ?_)
          · have c4 := _root_.mt (nI_eq (a := (sl (80 * s + 2))) (b := x) (by omega) (by omega)).mpr c4
            refine mn_iinc (v := nI (s + 1)) (ls' := [(0, .ref mo), (1, .int (nI x)), (2, .int (nI (s + 1)))]) 2 dMo_read_107 rfl (nI_add s 1) (by decide) rfl ?_
            refine mn_goto 25 dMo_read_110 (by decide) ?_
            refine mn_R.sub [0, 1, 2] (ls' := [(0, .ref mo), (1, .int (nI x)), (2, .int (nI (s + 1)))]) rfl ?_
            exact ih (s + 1) (by omega) (by omega) (fun s9 hs9 => by rcases Nat.lt_or_ge s9 s with q9 | q9; exact h3 s9 q9; obtain rfl : s9 = s := (by omega); exact fun q => c4 q.1)
          · have c4 := (nI_eq (a := (sl (80 * s + 2))) (b := x) (by omega) (by omega)).mp c4
            refine mn_aload_n 0 dMo_read_62 rfl rfl ?_
            refine mn_iconst (v := 1) dMo_read_63 (by decide) ?_
            refine mn_putf okMo 12 lMo_140 (by decide) rfl hM rfl rfl (Nat.le_of_ble_eq_true rfl) dMo_read_64 ?_
            obtain ⟨g5, eg5⟩ : ∃ gg_, gg_ = mn_set g mo (.inr (11, [.int 0, .ref (mo + 1), .int (nI tl), .ref (mo + 2), .ref (mo + 3), .int (nI e), .int (nI sz), .int (nI rp), .int (nI st), .ref (mo + 4), .ref (mo + 5), .ref (mo + 6), .int 1, .int (nI m), .int (nI r), .int (nI wd), .int (nI ag), .ref (mo + 7), .ref (mo + 8), .ref (mo + 9), .ref (mo + 10), .int (nI td), .int (nI om), .ref (mo + 11), .ref (mo + 12), .ref (mo + 13), .ref (mo + 14), .ref (mo + 15), .ref (mo + 16)])) := ⟨_, rfl⟩
            refine mn_R.toG eg5 ?_
            have hM_g5 : mn_at g5 mo (.inr (11, [.int 0, .ref (mo + 1), .int (nI tl), .ref (mo + 2), .ref (mo + 3), .int (nI e), .int (nI sz), .int (nI rp), .int (nI st), .ref (mo + 4), .ref (mo + 5), .ref (mo + 6), .int 1, .int (nI m), .int (nI r), .int (nI wd), .int (nI ag), .ref (mo + 7), .ref (mo + 8), .ref (mo + 9), .ref (mo + 10), .int (nI td), .int (nI om), .ref (mo + 11), .ref (mo + 12), .ref (mo + 13), .ref (mo + 14), .ref (mo + 15), .ref (mo + 16)])) := by rw [eg5]; exact hM.same
            have hSo_g5 : mn_at g5 (mo + 4) (.inl (0, 4800, .inl (fun j => nI (sl j)))) := by rw [eg5]; exact hSo.off (by omega)
            have hSs_g5 : mn_at g5 (mo + 5) (.inl (0, 60, .inl (fun j => nI (ss j)))) := by rw [eg5]; exact hSs.off (by omega)
            refine mn_aload_n 0 dMo_read_67 rfl rfl ?_
            refine mn_aload_n 0 dMo_read_68 rfl rfl ?_
            refine mn_get okMo 9 lMo_26 (by decide) hM_g5 rfl dMo_read_69 ?_
            refine mn_bipush (v := 80) dMo_read_72 (by decide) ?_
            refine mn_iload_n 2 dMo_read_74 rfl rfl ?_
            refine mn_imul (z := nI (80 * s)) dMo_read_75 (pk_mul 80 s) ?_
            refine mn_iconst (v := 4) dMo_read_76 (by decide) ?_
            refine mn_iadd (z := nI (80 * s + 4)) dMo_read_77 (nI_add (80 * s) 4) ?_
            refine mn_ialdN (j := 80 * s + 4) hSo_g5 rfl (by omega) (by omega) dMo_read_78 ?_
            refine mn_putf okMo 13 lMo_144 (by decide) rfl hM_g5 rfl rfl (Nat.le_of_ble_eq_true rfl) dMo_read_79 ?_
            obtain ⟨g6, eg6⟩ : ∃ gg_, gg_ = mn_set g5 mo (.inr (11, [.int 0, .ref (mo + 1), .int (nI tl), .ref (mo + 2), .ref (mo + 3), .int (nI e), .int (nI sz), .int (nI rp), .int (nI st), .ref (mo + 4), .ref (mo + 5), .ref (mo + 6), .int 1, .int (nI (sl (80 * s + 4))), .int (nI r), .int (nI wd), .int (nI ag), .ref (mo + 7), .ref (mo + 8), .ref (mo + 9), .ref (mo + 10), .int (nI td), .int (nI om), .ref (mo + 11), .ref (mo + 12), .ref (mo + 13), .ref (mo + 14), .ref (mo + 15), .ref (mo + 16)])) := ⟨_, rfl⟩
            refine mn_R.toG eg6 ?_
            have hM_g6 : mn_at g6 mo (.inr (11, [.int 0, .ref (mo + 1), .int (nI tl), .ref (mo + 2), .ref (mo + 3), .int (nI e), .int (nI sz), .int (nI rp), .int (nI st), .ref (mo + 4), .ref (mo + 5), .ref (mo + 6), .int 1, .int (nI (sl (80 * s + 4))), .int (nI r), .int (nI wd), .int (nI ag), .ref (mo + 7), .ref (mo + 8), .ref (mo + 9), .ref (mo + 10), .int (nI td), .int (nI om), .ref (mo + 11), .ref (mo + 12), .ref (mo + 13), .ref (mo + 14), .ref (mo + 15), .ref (mo + 16)])) := by rw [eg6]; exact hM_g5.same
            have hSo_g6 : mn_at g6 (mo + 4) (.inl (0, 4800, .inl (fun j => nI (sl j)))) := by rw [eg6]; exact hSo_g5.off (by omega)
            have hSs_g6 : mn_at g6 (mo + 5) (.inl (0, 60, .inl (fun j => nI (ss j)))) := by rw [eg6]; exact hSs_g5.off (by omega)
            refine mn_aload_n 0 dMo_read_82 rfl rfl ?_
            refine mn_aload_n 0 dMo_read_83 rfl rfl ?_
            refine mn_get okMo 9 lMo_26 (by decide) hM_g6 rfl dMo_read_84 ?_
            refine mn_bipush (v := 80) dMo_read_87 (by decide) ?_
            refine mn_iload_n 2 dMo_read_89 rfl rfl ?_
            refine mn_imul (z := nI (80 * s)) dMo_read_90 (pk_mul 80 s) ?_
            refine mn_iconst (v := 5) dMo_read_91 (by decide) ?_
            refine mn_iadd (z := nI (80 * s + 5)) dMo_read_92 (nI_add (80 * s) 5) ?_
            refine mn_ialdN (j := 80 * s + 5) hSo_g6 rfl (by omega) (by omega) dMo_read_93 ?_
            refine mn_putf okMo 14 lMo_147 (by decide) rfl hM_g6 rfl rfl (Nat.le_of_ble_eq_true rfl) dMo_read_94 ?_
            obtain ⟨g7, eg7⟩ : ∃ gg_, gg_ = mn_set g6 mo (.inr (11, [.int 0, .ref (mo + 1), .int (nI tl), .ref (mo + 2), .ref (mo + 3), .int (nI e), .int (nI sz), .int (nI rp), .int (nI st), .ref (mo + 4), .ref (mo + 5), .ref (mo + 6), .int 1, .int (nI (sl (80 * s + 4))), .int (nI (sl (80 * s + 5))), .int (nI wd), .int (nI ag), .ref (mo + 7), .ref (mo + 8), .ref (mo + 9), .ref (mo + 10), .int (nI td), .int (nI om), .ref (mo + 11), .ref (mo + 12), .ref (mo + 13), .ref (mo + 14), .ref (mo + 15), .ref (mo + 16)])) := ⟨_, rfl⟩
            refine mn_R.toG eg7 ?_
            have hM_g7 : mn_at g7 mo (.inr (11, [.int 0, .ref (mo + 1), .int (nI tl), .ref (mo + 2), .ref (mo + 3), .int (nI e), .int (nI sz), .int (nI rp), .int (nI st), .ref (mo + 4), .ref (mo + 5), .ref (mo + 6), .int 1, .int (nI (sl (80 * s + 4))), .int (nI (sl (80 * s + 5))), .int (nI wd), .int (nI ag), .ref (mo + 7), .ref (mo + 8), .ref (mo + 9), .ref (mo + 10), .int (nI td), .int (nI om), .ref (mo + 11), .ref (mo + 12), .ref (mo + 13), .ref (mo + 14), .ref (mo + 15), .ref (mo + 16)])) := by rw [eg7]; exact hM_g6.same
            have hSo_g7 : mn_at g7 (mo + 4) (.inl (0, 4800, .inl (fun j => nI (sl j)))) := by rw [eg7]; exact hSo_g6.off (by omega)
            have hSs_g7 : mn_at g7 (mo + 5) (.inl (0, 60, .inl (fun j => nI (ss j)))) := by rw [eg7]; exact hSs_g6.off (by omega)
            refine mn_aload_n 0 dMo_read_97 rfl rfl ?_
            refine mn_aload_n 0 dMo_read_98 rfl rfl ?_
            refine mn_get okMo 10 lMo_29 (by decide) hM_g7 rfl dMo_read_99 ?_
            refine mn_iload_n 2 dMo_read_102 rfl rfl ?_
            refine mn_ialdN (j := s) hSs_g7 rfl (by omega) (by omega) dMo_read_103 ?_
            refine mn_putf okMo 15 lMo_150 (by decide) rfl hM_g7 rfl rfl (Nat.le_of_ble_eq_true rfl) dMo_read_104 ?_
            obtain ⟨g8, eg8⟩ : ∃ gg_, gg_ = mn_set g7 mo (.inr (11, [.int 0, .ref (mo + 1), .int (nI tl), .ref (mo + 2), .ref (mo + 3), .int (nI e), .int (nI sz), .int (nI rp), .int (nI st), .ref (mo + 4), .ref (mo + 5), .ref (mo + 6), .int 1, .int (nI (sl (80 * s + 4))), .int (nI (sl (80 * s + 5))), .int (nI (ss s)), .int (nI ag), .ref (mo + 7), .ref (mo + 8), .ref (mo + 9), .ref (mo + 10), .int (nI td), .int (nI om), .ref (mo + 11), .ref (mo + 12), .ref (mo + 13), .ref (mo + 14), .ref (mo + 15), .ref (mo + 16)])) := ⟨_, rfl⟩
            refine mn_R.toG eg8 ?_
            have hM_g8 : mn_at g8 mo (.inr (11, [.int 0, .ref (mo + 1), .int (nI tl), .ref (mo + 2), .ref (mo + 3), .int (nI e), .int (nI sz), .int (nI rp), .int (nI st), .ref (mo + 4), .ref (mo + 5), .ref (mo + 6), .int 1, .int (nI (sl (80 * s + 4))), .int (nI (sl (80 * s + 5))), .int (nI (ss s)), .int (nI ag), .ref (mo + 7), .ref (mo + 8), .ref (mo + 9), .ref (mo + 10), .int (nI td), .int (nI om), .ref (mo + 11), .ref (mo + 12), .ref (mo + 13), .ref (mo + 14), .ref (mo + 15), .ref (mo + 16)])) := by rw [eg8]; exact hM_g7.same
            have hSo_g8 : mn_at g8 (mo + 4) (.inl (0, 4800, .inl (fun j => nI (sl j)))) := by rw [eg8]; exact hSo_g7.off (by omega)
            have hSs_g8 : mn_at g8 (mo + 5) (.inl (0, 60, .inl (fun j => nI (ss j)))) := by rw [eg8]; exact hSs_g7.off (by omega)
            refine mn_iinc (v := nI (s + 1)) (ls' := [(0, .ref mo), (1, .int (nI x)), (2, .int (nI (s + 1)))]) 2 dMo_read_107 rfl (nI_add s 1) (by decide) rfl ?_
            refine mn_goto 25 dMo_read_110 (by decide) ?_
            refine mn_iload_n 2 dMo_read_25 rfl rfl ?_
            refine mn_bipush (v := 60) dMo_read_26 (by decide) ?_
            refine mn_icmp_ge 113 dMo_read_28 (by decide) (fun c9 => ?_) (fun c9 => ?_)
            · have c9 := (nI_leI (a := 60) (b := (s + 1)) (by omega) (by omega)).mp c9
              refine mn_R.sub [0, 1] (ls' := [(0, .ref mo), (1, .int (nI x))]) rfl ?_
              exact KKy s g8 (by omega) ⟨c4, c3⟩ h3 ((((mn_fr.rf.set eg5 (by show mo = mo; omega)).set eg6 (by show mo = mo; omega)).set eg7 (by show mo = mo; omega)).set eg8 (by show mo = mo; omega)) hM_g8
            · have c9 := _root_.mt (nI_leI (a := 60) (b := (s + 1)) (by omega) (by omega)).mpr c9
              refine mn_aload_n 0 dMo_read_31 rfl rfl ?_
              refine mn_get okMo 12 lMo_140 (by decide) hM_g8 rfl dMo_read_32 ?_
              refine mn_if_ne 113 dMo_read_35 (by decide) (fun c10 => ?_) (fun c10 => ?_)
              · refine mn_R.sub [0, 1] (ls' := [(0, .ref mo), (1, .int (nI x))]) rfl ?_
                exact KKy s g8 (by omega) ⟨c4, c3⟩ h3 ((((mn_fr.rf.set eg5 (by show mo = mo; omega)).set eg6 (by show mo = mo; omega)).set eg7 (by show mo = mo; omega)).set eg8 (by show mo = mo; omega)) hM_g8
              · exact absurd c10 (by decide)
set_option maxRecDepth 100000 in
theorem c_M_rd2 {E : mn_En} {g : mn_H} {mo tl e sz rp st m r wd ag td om : Nat} {ir : Int32} {pm : Nat → Option Nat} {x : Nat} {Q : Option Value → mn_H → Prop} (hm : m ≤ 60) (hr3 : r ≤ 3) (KK : ∀ g1, mn_fr (fun q => q = mo + 7) g g1 → mn_at g1 mo (.inr (11, [.int 0, .ref (mo + 1), .int (nI tl), .ref (mo + 2), .ref (mo + 3), .int (nI e), .int (nI sz), .int (nI rp), .int (nI st), .ref (mo + 4), .ref (mo + 5), .ref (mo + 6), .int ir, .int (nI m), .int (nI r), .int (nI wd), .int (nI ag), .ref (mo + 7), .ref (mo + 8), .ref (mo + 9), .ref (mo + 10), .int (nI td), .int (nI om), .ref (mo + 11), .ref (mo + 12), .ref (mo + 13), .ref (mo + 14), .ref (mo + 15), .ref (mo + 16)])) → mn_at g1 (mo + 7) (.inl (0, 64, .inl (fun j => onI ((nnP pm (m + r)) j)))) → mn_R E MMo_read 4 97 0 0 152 [(0, .ref mo), (1, .int (nI x))] [] g1 Q) : ∀ (fu n : Nat) (g0 : mn_H), n ≤ m + r → m + r - n < fu → mn_fr (fun q => q = mo + 7) g g0 → mn_at g0 mo (.inr (11, [.int 0, .ref (mo + 1), .int (nI tl), .ref (mo + 2), .ref (mo + 3), .int (nI e), .int (nI sz), .int (nI rp), .int (nI st), .ref (mo + 4), .ref (mo + 5), .ref (mo + 6), .int ir, .int (nI m), .int (nI r), .int (nI wd), .int (nI ag), .ref (mo + 7), .ref (mo + 8), .ref (mo + 9), .ref (mo + 10), .int (nI td), .int (nI om), .ref (mo + 11), .ref (mo + 12), .ref (mo + 13), .ref (mo + 14), .ref (mo + 15), .ref (mo + 16)])) → mn_at g0 (mo + 7) (.inl (0, 64, .inl (fun j => onI ((nnP pm n) j)))) → mn_R E MMo_read 4 97 0 0 125 [(0, .ref mo), (1, .int (nI x)), (2, .int (nI n))] [] g0 (Q) := by
  intro fu
  induction fu with
  | zero => intro n g0 h1 h2; exact absurd h2 (by omega)
  | succ fu ih =>
    intro n g0 h1 h2 hfr hM hPm
    refine mn_iload_n 2 dMo_read_125 rfl rfl ?_
    refine mn_aload_n 0 dMo_read_126 rfl rfl ?_
    refine mn_get okMo 13 lMo_144 (by decide) hM rfl dMo_read_127 ?_
    refine mn_aload_n 0 dMo_read_130 rfl rfl ?_
    refine mn_get okMo 14 lMo_147 (by decide) hM rfl dMo_read_131 ?_
    refine mn_iadd (z := nI (m + r)) dMo_read_134 (nI_add m r) ?_
    refine mn_icmp_ge 152 dMo_read_135 (by decide) (fun c1 => ?_) (fun c1 => ?_)
    · have c1 := (nI_leI (a := (m + r)) (b := n) (by omega) (by omega)).mp c1
      refine mn_R.sub [0, 1] (ls' := [(0, .ref mo), (1, .int (nI x))]) rfl ?_
      obtain rfl : n = m + r := (by omega)
      exact KK g0 hfr hM hPm
    · have c1 := _root_.mt (nI_leI (a := (m + r)) (b := n) (by omega) (by omega)).mpr c1
      refine mn_aload_n 0 dMo_read_138 rfl rfl ?_
      refine mn_get okMo 17 lMo_35 (by decide) hM rfl dMo_read_139 ?_
      refine mn_iload_n 2 dMo_read_142 rfl rfl ?_
      refine mn_bipush (v := (-2)) dMo_read_143 (by decide) ?_
      refine mn_iastN (j := n) hPm rfl (by omega) (by omega) dMo_read_145 ?_
      obtain ⟨g2, eg2⟩ : ∃ gg_, gg_ = mn_set g0 (mo + 7) (.inl (0, 64, .inl (upd (fun j => onI ((nnP pm n) j)) n (-2)))) := ⟨_, rfl⟩
      refine mn_R.toG eg2 ?_
      have hM_g2 : mn_at g2 mo (.inr (11, [.int 0, .ref (mo + 1), .int (nI tl), .ref (mo + 2), .ref (mo + 3), .int (nI e), .int (nI sz), .int (nI rp), .int (nI st), .ref (mo + 4), .ref (mo + 5), .ref (mo + 6), .int ir, .int (nI m), .int (nI r), .int (nI wd), .int (nI ag), .ref (mo + 7), .ref (mo + 8), .ref (mo + 9), .ref (mo + 10), .int (nI td), .int (nI om), .ref (mo + 11), .ref (mo + 12), .ref (mo + 13), .ref (mo + 14), .ref (mo + 15), .ref (mo + 16)])) := by rw [eg2]; exact hM.off (by omega)
      have hPm_g2 : mn_at g2 (mo + 7) (.inl (0, 64, .inl (upd (fun j => onI ((nnP pm n) j)) n (-2)))) := by rw [eg2]; exact hPm.same
      refine mn_iinc (v := nI (n + 1)) (ls' := [(0, .ref mo), (1, .int (nI x)), (2, .int (nI (n + 1)))]) 2 dMo_read_146 rfl (nI_add n 1) (by decide) rfl ?_
      refine mn_goto 125 dMo_read_149 (by decide) ?_
      have h9 : mn_at g2 (mo + 7) (.inl (0, 64, .inl (fun j => onI ((nnP pm (n + 1)) j)))) := by rw [← nnP_s, ← upd_onI]; exact hPm_g2
      exact ih (n + 1) g2 (by omega) (by omega) (hfr.set eg2 (by show (mo + 7) = mo + 7; omega)) hM_g2 h9
set_option maxRecDepth 100000 in
theorem c_M_rd3_z {E : mn_En} {g : mn_H} {mo tl e sz rp st m r wd ag td om : Nat} {ir : Int32} (hM : mn_at g mo (.inr (11, [.int 0, .ref (mo + 1), .int (nI tl), .ref (mo + 2), .ref (mo + 3), .int (nI e), .int (nI sz), .int (nI rp), .int (nI st), .ref (mo + 4), .ref (mo + 5), .ref (mo + 6), .int ir, .int (nI m), .int (nI r), .int (nI wd), .int (nI ag), .ref (mo + 7), .ref (mo + 8), .ref (mo + 9), .ref (mo + 10), .int (nI td), .int (nI om), .ref (mo + 11), .ref (mo + 12), .ref (mo + 13), .ref (mo + 14), .ref (mo + 15), .ref (mo + 16)]))) {x : Nat} {Q : Option Value → mn_H → Prop} (KK : mn_R E MMo_read 4 97 0 0 248 [(0, .ref mo), (1, .int (nI x))] [] g Q) : mn_R E MMo_read 4 97 0 0 155 [(0, .ref mo), (1, .int (nI x)), (2, .int (-1))] [] g (Q) := by
  refine mn_iload_n 2 dMo_read_155 rfl rfl ?_
  refine mn_if_lt 248 dMo_read_156 (by decide) (fun c1 => ?_) (fun c1 => ?_)
  · refine mn_R.sub [0, 1] (ls' := [(0, .ref mo), (1, .int (nI x))]) rfl ?_
    exact KK
  · exact absurd c1 (by decide)
set_option maxRecDepth 100000 in
theorem c_M_rd3 {E : mn_En} {g : mn_H} {mo tl e sz rp st m r wd ag td om : Nat} {ir : Int32} {sl ss : Nat → Nat} {x f : Nat} {p0 : Nat → Option Nat} {Q : Option Value → mn_H → Prop} (hx : x < 256) (hss : ∀ k, ss k ≤ 80) (hs20 : ∀ k, ss k = 0 ∨ 20 ≤ ss k) (hslb : ∀ j, sl j < 256) (hm : m ≤ 60) (hr3 : r ≤ 3) (hwd2 : wd ≤ 80) (em : m = sl (80 * f + 4)) (er : r = sl (80 * f + 5)) (ew : wd = ss f) (KK : ∀ g1, mn_fr (fun q => q = mo + 7) g g1 → mn_at g1 mo (.inr (11, [.int 0, .ref (mo + 1), .int (nI tl), .ref (mo + 2), .ref (mo + 3), .int (nI e), .int (nI sz), .int (nI rp), .int (nI st), .ref (mo + 4), .ref (mo + 5), .ref (mo + 6), .int ir, .int (nI m), .int (nI r), .int (nI wd), .int (nI ag), .ref (mo + 7), .ref (mo + 8), .ref (mo + 9), .ref (mo + 10), .int (nI td), .int (nI om), .ref (mo + 11), .ref (mo + 12), .ref (mo + 13), .ref (mo + 14), .ref (mo + 15), .ref (mo + 16)])) → mn_at g1 (mo + 4) (.inl (0, 4800, .inl (fun j => nI (sl j)))) → mn_at g1 (mo + 5) (.inl (0, 60, .inl (fun j => nI (ss j)))) → mn_at g1 (mo + 7) (.inl (0, 64, .inl (fun j => onI ((plD ss (sbS sl) x f p0 60) j)))) → mn_R E MMo_read 4 97 0 0 248 [(0, .ref mo), (1, .int (nI x))] [] g1 Q) : ∀ (fu s : Nat) (g0 : mn_H), s < 60 → s < fu → mn_fr (fun q => q = mo + 7) g g0 → mn_at g0 mo (.inr (11, [.int 0, .ref (mo + 1), .int (nI tl), .ref (mo + 2), .ref (mo + 3), .int (nI e), .int (nI sz), .int (nI rp), .int (nI st), .ref (mo + 4), .ref (mo + 5), .ref (mo + 6), .int ir, .int (nI m), .int (nI r), .int (nI wd), .int (nI ag), .ref (mo + 7), .ref (mo + 8), .ref (mo + 9), .ref (mo + 10), .int (nI td), .int (nI om), .ref (mo + 11), .ref (mo + 12), .ref (mo + 13), .ref (mo + 14), .ref (mo + 15), .ref (mo + 16)])) → mn_at g0 (mo + 4) (.inl (0, 4800, .inl (fun j => nI (sl j)))) → mn_at g0 (mo + 5) (.inl (0, 60, .inl (fun j => nI (ss j)))) → mn_at g0 (mo + 7) (.inl (0, 64, .inl (fun j => onI ((plD ss (sbS sl) x f p0 (60 - (s + 1))) j)))) → mn_R E MMo_read 4 97 0 0 155 [(0, .ref mo), (1, .int (nI x)), (2, .int (nI s))] [] g0 (Q) := by
  intro fu
  induction fu with
  | zero => intro s g0 h1 h2; exact absurd h2 (by omega)
  | succ fu ih =>
    intro s g0 h1 h2 hfr hM hSo hSs hPm
    have hstl := stN_lt (sbS sl s) (ss s)
    have hq2 := hslb (80 * s + 2)
    have hq3 := hslb (80 * s + 3)
    have hq4 := hslb (80 * s + 4)
    have hq5 := hslb (80 * s + 5)
    have hsss := hss s
    refine mn_iload_n 2 dMo_read_155 rfl rfl ?_
    refine mn_if_lt 248 dMo_read_156 (by decide) (fun c1 => ?_) (fun c1 => ?_)
    · exact absurd c1 (nI_pos (by omega))
    · refine mn_bipush (v := 80) dMo_read_159 (by decide) ?_
      refine mn_iload_n 2 dMo_read_161 rfl rfl ?_
      refine mn_imul (z := nI (80 * s)) dMo_read_162 (pk_mul 80 s) ?_
      refine mn_istore_n (ls' := [(0, .ref mo), (1, .int (nI x)), (2, .int (nI s)), (3, .int (nI (80 * s)))]) dMo_read_163 rfl (by decide) rfl ?_
      refine mn_aload_n 0 dMo_read_164 rfl rfl ?_
      refine mn_iload_n 2 dMo_read_165 rfl rfl ?_
      refine mn_cV (d' := 2) (w' := 45) (As := [.int (nI s)]) (stk' := [.int (nI (stN (sbS sl s) (ss s)))]) okMo_state lMo_137 dMo_read_166 hM rfl rfl rfl rfl (Nat.le_of_ble_eq_true rfl) (Nat.le_of_ble_eq_true rfl) (by decide) (c_M_state hM hSo hSs hss hs20 hslb (s := s) (by omega)) rfl ?_
      refine mn_iconst (v := 1) dMo_read_169 (by decide) ?_
      refine mn_icmp_ne 242 dMo_read_170 (by decide) (fun c2 => ?_) (fun c2 => ?_)
      · have c2 := _root_.mt (nI_eq (a := (stN (sbS sl s) (ss s))) (b := 1) (by omega) (by omega)).mpr c2
        refine mn_iinc (v := nI s - 1) (ls' := [(0, .ref mo), (1, .int (nI x)), (2, .int (nI s - 1)), (3, .int (nI (80 * s)))]) 2 dMo_read_242 rfl (mn_dec1 _) (by decide) rfl ?_
        refine mn_goto 155 dMo_read_245 (by decide) ?_
        have hnt : ¬ tkC ss (sbS sl) x f s := fun q9 => c2 q9.1.2
        have h9 : mn_at g0 (mo + 7) (.inl (0, 64, .inl (fun j => onI ((plD ss (sbS sl) x f p0 (60 - s)) j)))) := by rw [plD_n (by omega) hnt]; exact hPm
        refine mn_R.sub [0, 1, 2] (ls' := [(0, .ref mo), (1, .int (nI x)), (2, .int (nI s - 1))]) rfl ?_
        rcases Nat.eq_zero_or_pos s with h0 | h0
        · subst h0
          refine c_M_rd3_z hM (KK g0 hfr hM hSo hSs h9)
        · obtain ⟨s, rfl⟩ : ∃ s9, s = s9 + 1 := ⟨s - 1, by omega⟩
          rw [show nI (s + 1) - 1 = nI s from pk_sub (a := s + 1) (b := 1) (by omega)]
          exact ih s g0 (by omega) (by omega) hfr hM hSo hSs h9
      · have c2 := (nI_eq (a := (stN (sbS sl s) (ss s))) (b := 1) (by omega) (by omega)).mp c2
        refine mn_aload_n 0 dMo_read_173 rfl rfl ?_
        refine mn_get okMo 9 lMo_26 (by decide) hM rfl dMo_read_174 ?_
        refine mn_iload_n 3 dMo_read_177 rfl rfl ?_
        refine mn_iconst (v := 2) dMo_read_178 (by decide) ?_
        refine mn_iadd (z := nI (80 * s + 2)) dMo_read_179 (nI_add (80 * s) 2) ?_
        refine mn_ialdN (j := 80 * s + 2) hSo rfl (by omega) (by omega) dMo_read_180 ?_
        refine mn_iload_n 1 dMo_read_181 rfl rfl ?_
        refine mn_icmp_ne 242 dMo_read_182 (by decide) (fun c3 => ?_) (fun c3 => ?_)
        · have c3 := _root_.mt (nI_eq (a := (sl (80 * s + 2))) (b := x) (by omega) (by omega)).mpr c3
          refine mn_iinc (v := nI s - 1) (ls' := [(0, .ref mo), (1, .int (nI x)), (2, .int (nI s - 1)), (3, .int (nI (80 * s)))]) 2 dMo_read_242 rfl (mn_dec1 _) (by decide) rfl ?_
          refine mn_goto 155 dMo_read_245 (by decide) ?_
          have hnt : ¬ tkC ss (sbS sl) x f s := fun q9 => c3 q9.1.1
          have h9 : mn_at g0 (mo + 7) (.inl (0, 64, .inl (fun j => onI ((plD ss (sbS sl) x f p0 (60 - s)) j)))) := by rw [plD_n (by omega) hnt]; exact hPm
          refine mn_R.sub [0, 1, 2] (ls' := [(0, .ref mo), (1, .int (nI x)), (2, .int (nI s - 1))]) rfl ?_
          rcases Nat.eq_zero_or_pos s with h0 | h0
          · subst h0
            refine c_M_rd3_z hM (KK g0 hfr hM hSo hSs h9)
          · obtain ⟨s, rfl⟩ : ∃ s9, s = s9 + 1 := ⟨s - 1, by omega⟩
            rw [show nI (s + 1) - 1 = nI s from pk_sub (a := s + 1) (b := 1) (by omega)]
            exact ih s g0 (by omega) (by omega) hfr hM hSo hSs h9
        · have c3 := (nI_eq (a := (sl (80 * s + 2))) (b := x) (by omega) (by omega)).mp c3
          refine mn_aload_n 0 dMo_read_185 rfl rfl ?_
          refine mn_get okMo 9 lMo_26 (by decide) hM rfl dMo_read_186 ?_
          refine mn_iload_n 3 dMo_read_189 rfl rfl ?_
          refine mn_iconst (v := 4) dMo_read_190 (by decide) ?_
          refine mn_iadd (z := nI (80 * s + 4)) dMo_read_191 (nI_add (80 * s) 4) ?_
          refine mn_ialdN (j := 80 * s + 4) hSo rfl (by omega) (by omega) dMo_read_192 ?_
          refine mn_aload_n 0 dMo_read_193 rfl rfl ?_
          refine mn_get okMo 13 lMo_144 (by decide) hM rfl dMo_read_194 ?_
          refine mn_icmp_ne 242 dMo_read_197 (by decide) (fun c4 => ?_) (fun c4 => ?_)
          · have c4 := _root_.mt (nI_eq (a := (sl (80 * s + 4))) (b := m) (by omega) (by omega)).mpr c4
            refine mn_iinc (v := nI s - 1) (ls' := [(0, .ref mo), (1, .int (nI x)), (2, .int (nI s - 1)), (3, .int (nI (80 * s)))]) 2 dMo_read_242 rfl (mn_dec1 _) (by decide) rfl ?_
            refine mn_goto 155 dMo_read_245 (by decide) ?_
            have hnt : ¬ tkC ss (sbS sl) x f s := fun q9 => c4 (by have q8 : sl (80 * s + 4) = sl (80 * f + 4) := q9.2.2.1; omega)
            have h9 : mn_at g0 (mo + 7) (.inl (0, 64, .inl (fun j => onI ((plD ss (sbS sl) x f p0 (60 - s)) j)))) := by rw [plD_n (by omega) hnt]; exact hPm
            refine mn_R.sub [0, 1, 2] (ls' := [(0, .ref mo), (1, .int (nI x)), (2, .int (nI s - 1))]) rfl ?_
            rcases Nat.eq_zero_or_pos s with h0 | h0
            · subst h0
              refine c_M_rd3_z hM (KK g0 hfr hM hSo hSs h9)
            · obtain ⟨s, rfl⟩ : ∃ s9, s = s9 + 1 := ⟨s - 1, by omega⟩
              rw [show nI (s + 1) - 1 = nI s from pk_sub (a := s + 1) (b := 1) (by omega)]
              exact ih s g0 (by omega) (by omega) hfr hM hSo hSs h9
          · have c4 := (nI_eq (a := (sl (80 * s + 4))) (b := m) (by omega) (by omega)).mp c4
            refine mn_aload_n 0 dMo_read_200 rfl rfl ?_
            refine mn_get okMo 9 lMo_26 (by decide) hM rfl dMo_read_201 ?_
            refine mn_iload_n 3 dMo_read_204 rfl rfl ?_
            refine mn_iconst (v := 5) dMo_read_205 (by decide) ?_
            refine mn_iadd (z := nI (80 * s + 5)) dMo_read_206 (nI_add (80 * s) 5) ?_
            refine mn_ialdN (j := 80 * s + 5) hSo rfl (by omega) (by omega) dMo_read_207 ?_
            refine mn_aload_n 0 dMo_read_208 rfl rfl ?_
            refine mn_get okMo 14 lMo_147 (by decide) hM rfl dMo_read_209 ?_
            refine mn_icmp_ne 242 dMo_read_212 (by decide) (fun c5 => ?_) (fun c5 => ?_)
            · have c5 := _root_.mt (nI_eq (a := (sl (80 * s + 5))) (b := r) (by omega) (by omega)).mpr c5
              refine mn_iinc (v := nI s - 1) (ls' := [(0, .ref mo), (1, .int (nI x)), (2, .int (nI s - 1)), (3, .int (nI (80 * s)))]) 2 dMo_read_242 rfl (mn_dec1 _) (by decide) rfl ?_
              refine mn_goto 155 dMo_read_245 (by decide) ?_
              have hnt : ¬ tkC ss (sbS sl) x f s := fun q9 => c5 (by have q8 : sl (80 * s + 5) = sl (80 * f + 5) := q9.2.2.2; omega)
              have h9 : mn_at g0 (mo + 7) (.inl (0, 64, .inl (fun j => onI ((plD ss (sbS sl) x f p0 (60 - s)) j)))) := by rw [plD_n (by omega) hnt]; exact hPm
              refine mn_R.sub [0, 1, 2] (ls' := [(0, .ref mo), (1, .int (nI x)), (2, .int (nI s - 1))]) rfl ?_
              rcases Nat.eq_zero_or_pos s with h0 | h0
              · subst h0
                refine c_M_rd3_z hM (KK g0 hfr hM hSo hSs h9)
              · obtain ⟨s, rfl⟩ : ∃ s9, s = s9 + 1 := ⟨s - 1, by omega⟩
                rw [show nI (s + 1) - 1 = nI s from pk_sub (a := s + 1) (b := 1) (by omega)]
                exact ih s g0 (by omega) (by omega) hfr hM hSo hSs h9
            · have c5 := (nI_eq (a := (sl (80 * s + 5))) (b := r) (by omega) (by omega)).mp c5
              refine mn_aload_n 0 dMo_read_215 rfl rfl ?_
              refine mn_get okMo 10 lMo_29 (by decide) hM rfl dMo_read_216 ?_
              refine mn_iload_n 2 dMo_read_219 rfl rfl ?_
              refine mn_ialdN (j := s) hSs rfl (by omega) (by omega) dMo_read_220 ?_
              refine mn_aload_n 0 dMo_read_221 rfl rfl ?_
              refine mn_get okMo 15 lMo_150 (by decide) hM rfl dMo_read_222 ?_
              refine mn_icmp_ne 242 dMo_read_225 (by decide) (fun c6 => ?_) (fun c6 => ?_)
              · have c6 := _root_.mt (nI_eq (a := (ss s)) (b := wd) (by omega) (by omega)).mpr c6
                refine mn_iinc (v := nI s - 1) (ls' := [(0, .ref mo), (1, .int (nI x)), (2, .int (nI s - 1)), (3, .int (nI (80 * s)))]) 2 dMo_read_242 rfl (mn_dec1 _) (by decide) rfl ?_
                refine mn_goto 155 dMo_read_245 (by decide) ?_
                have hnt : ¬ tkC ss (sbS sl) x f s := fun q9 => c6 (by have q8 := q9.2.1; omega)
                have h9 : mn_at g0 (mo + 7) (.inl (0, 64, .inl (fun j => onI ((plD ss (sbS sl) x f p0 (60 - s)) j)))) := by rw [plD_n (by omega) hnt]; exact hPm
                refine mn_R.sub [0, 1, 2] (ls' := [(0, .ref mo), (1, .int (nI x)), (2, .int (nI s - 1))]) rfl ?_
                rcases Nat.eq_zero_or_pos s with h0 | h0
                · subst h0
                  refine c_M_rd3_z hM (KK g0 hfr hM hSo hSs h9)
                · obtain ⟨s, rfl⟩ : ∃ s9, s = s9 + 1 := ⟨s - 1, by omega⟩
                  rw [show nI (s + 1) - 1 = nI s from pk_sub (a := s + 1) (b := 1) (by omega)]
                  exact ih s g0 (by omega) (by omega) hfr hM hSo hSs h9
              · have c6 := (nI_eq (a := (ss s)) (b := wd) (by omega) (by omega)).mp c6
                have htk : tkC ss (sbS sl) x f s := ⟨⟨c3, c2⟩, by omega, by show sl (80 * s + 4) = sl (80 * f + 4); omega, by show sl (80 * s + 5) = sl (80 * f + 5); omega⟩
                have hhd := stN_hd c2
                have hh3 : sl (80 * s + 3) < m + r := by have q1 := hhd.2.2.2.2.2.2.2; have q2 : sl (80 * s + 3) < sl (80 * s + 4) + sl (80 * s + 5) := q1; omega
                refine mn_aload_n 0 dMo_read_228 rfl rfl ?_
                refine mn_get okMo 17 lMo_35 (by decide) hM rfl dMo_read_229 ?_
                refine mn_aload_n 0 dMo_read_232 rfl rfl ?_
                refine mn_get okMo 9 lMo_26 (by decide) hM rfl dMo_read_233 ?_
                refine mn_iload_n 3 dMo_read_236 rfl rfl ?_
                refine mn_iconst (v := 3) dMo_read_237 (by decide) ?_
                refine mn_iadd (z := nI (80 * s + 3)) dMo_read_238 (nI_add (80 * s) 3) ?_
                refine mn_ialdN (j := 80 * s + 3) hSo rfl (by omega) (by omega) dMo_read_239 ?_
                refine mn_iload_n 2 dMo_read_240 rfl rfl ?_
                refine mn_iastN (j := sl (80 * s + 3)) hPm rfl (by omega) (by omega) dMo_read_241 ?_
                obtain ⟨g7, eg7⟩ : ∃ gg_, gg_ = mn_set g0 (mo + 7) (.inl (0, 64, .inl (upd (fun j => onI ((plD ss (sbS sl) x f p0 (60 - (s + 1))) j)) (sl (80 * s + 3)) (nI s)))) := ⟨_, rfl⟩
                refine mn_R.toG eg7 ?_
                have hM_g7 : mn_at g7 mo (.inr (11, [.int 0, .ref (mo + 1), .int (nI tl), .ref (mo + 2), .ref (mo + 3), .int (nI e), .int (nI sz), .int (nI rp), .int (nI st), .ref (mo + 4), .ref (mo + 5), .ref (mo + 6), .int ir, .int (nI m), .int (nI r), .int (nI wd), .int (nI ag), .ref (mo + 7), .ref (mo + 8), .ref (mo + 9), .ref (mo + 10), .int (nI td), .int (nI om), .ref (mo + 11), .ref (mo + 12), .ref (mo + 13), .ref (mo + 14), .ref (mo + 15), .ref (mo + 16)])) := by rw [eg7]; exact hM.off (by omega)
                have hSo_g7 : mn_at g7 (mo + 4) (.inl (0, 4800, .inl (fun j => nI (sl j)))) := by rw [eg7]; exact hSo.off (by omega)
                have hSs_g7 : mn_at g7 (mo + 5) (.inl (0, 60, .inl (fun j => nI (ss j)))) := by rw [eg7]; exact hSs.off (by omega)
                have hPm_g7 : mn_at g7 (mo + 7) (.inl (0, 64, .inl (upd (fun j => onI ((plD ss (sbS sl) x f p0 (60 - (s + 1))) j)) (sl (80 * s + 3)) (nI s)))) := by rw [eg7]; exact hPm.same
                refine mn_iinc (v := nI s - 1) (ls' := [(0, .ref mo), (1, .int (nI x)), (2, .int (nI s - 1)), (3, .int (nI (80 * s)))]) 2 dMo_read_242 rfl (mn_dec1 _) (by decide) rfl ?_
                refine mn_goto 155 dMo_read_245 (by decide) ?_
                have h9 : mn_at g7 (mo + 7) (.inl (0, 64, .inl (fun j => onI ((plD ss (sbS sl) x f p0 (60 - s)) j)))) := by rw [plD_y (by omega) htk, ← upd_onI]; exact hPm_g7
                refine mn_R.sub [0, 1, 2] (ls' := [(0, .ref mo), (1, .int (nI x)), (2, .int (nI s - 1))]) rfl ?_
                rcases Nat.eq_zero_or_pos s with h0 | h0
                · subst h0
                  refine c_M_rd3_z hM_g7 (KK g7 (hfr.set eg7 (by show (mo + 7) = mo + 7; omega)) hM_g7 hSo_g7 hSs_g7 h9)
                · obtain ⟨s, rfl⟩ : ∃ s9, s = s9 + 1 := ⟨s - 1, by omega⟩
                  rw [show nI (s + 1) - 1 = nI s from pk_sub (a := s + 1) (b := 1) (by omega)]
                  exact ih s g7 (by omega) (by omega) (hfr.set eg7 (by show (mo + 7) = mo + 7; omega)) hM_g7 hSo_g7 hSs_g7 h9
set_option maxRecDepth 100000 in
theorem c_M_rd4i {E : mn_En} {g : mn_H} {mo tl e sz rp st m r wd ag td om : Nat} {ir : Int32} {sl mg : Nat → Nat} {pm : Nat → Option Nat} {x n k : Nat} {Q : Option Value → mn_H → Prop} (hn : n < m) (hm : m ≤ 60) (hwd : 20 ≤ wd) (hwd2 : wd ≤ 80) (hmw : m * (wd - 12) ≤ 4080) (hslb : ∀ j, sl j < 256) (hpk : pm n = some k) (hk : k < 60) (KK : ∀ (g1 : mn_H) (mg9 : Nat → Nat), mn_fr (fun q => q = mo + 10) g g1 → (∀ j, mg9 j < 256) → (∀ i9, i9 < wd - 12 → mg9 (n * (wd - 12) + i9) = sl (80 * k + 12 + i9)) → (∀ p, ¬ (n * (wd - 12) ≤ p ∧ p < n * (wd - 12) + (wd - 12)) → mg9 p = mg p) → mn_at g1 mo (.inr (11, [.int 0, .ref (mo + 1), .int (nI tl), .ref (mo + 2), .ref (mo + 3), .int (nI e), .int (nI sz), .int (nI rp), .int (nI st), .ref (mo + 4), .ref (mo + 5), .ref (mo + 6), .int ir, .int (nI m), .int (nI r), .int (nI wd), .int (nI ag), .ref (mo + 7), .ref (mo + 8), .ref (mo + 9), .ref (mo + 10), .int (nI td), .int (nI om), .ref (mo + 11), .ref (mo + 12), .ref (mo + 13), .ref (mo + 14), .ref (mo + 15), .ref (mo + 16)])) → mn_at g1 (mo + 4) (.inl (0, 4800, .inl (fun j => nI (sl j)))) → mn_at g1 (mo + 7) (.inl (0, 64, .inl (fun j => onI (pm j)))) → mn_at g1 (mo + 10) (.inl (0, 4800, .inl (fun j => nI (mg9 j)))) → mn_R E MMo_read 4 97 0 0 367 [(0, .ref mo), (1, .int (nI x)), (2, .int (nI n))] [] g1 Q) : ∀ (fu i : Nat) (g0 : mn_H) (mg9 : Nat → Nat), i ≤ wd - 12 → wd - 12 - i < fu → mn_fr (fun q => q = mo + 10) g g0 → (∀ j, mg9 j < 256) → (∀ i9, i9 < i → mg9 (n * (wd - 12) + i9) = sl (80 * k + 12 + i9)) → (∀ p, ¬ (n * (wd - 12) ≤ p ∧ p < n * (wd - 12) + (wd - 12)) → mg9 p = mg p) → mn_at g0 mo (.inr (11, [.int 0, .ref (mo + 1), .int (nI tl), .ref (mo + 2), .ref (mo + 3), .int (nI e), .int (nI sz), .int (nI rp), .int (nI st), .ref (mo + 4), .ref (mo + 5), .ref (mo + 6), .int ir, .int (nI m), .int (nI r), .int (nI wd), .int (nI ag), .ref (mo + 7), .ref (mo + 8), .ref (mo + 9), .ref (mo + 10), .int (nI td), .int (nI om), .ref (mo + 11), .ref (mo + 12), .ref (mo + 13), .ref (mo + 14), .ref (mo + 15), .ref (mo + 16)])) → mn_at g0 (mo + 4) (.inl (0, 4800, .inl (fun j => nI (sl j)))) → mn_at g0 (mo + 7) (.inl (0, 64, .inl (fun j => onI (pm j)))) → mn_at g0 (mo + 10) (.inl (0, 4800, .inl (fun j => nI (mg9 j)))) → mn_R E MMo_read 4 97 0 0 315 [(0, .ref mo), (1, .int (nI x)), (2, .int (nI n)), (3, .int (nI i))] [] g0 (Q) := by
  intro fu
  induction fu with
  | zero => intro i g0 mg9 h1 h2; exact absurd h2 (by omega)
  | succ fu ih =>
    intro i g0 mg9 h1 h2 hfr hgb hg1 hg2 hM hSo hPm hMg
    have hnw := Nat.mul_le_mul_right (wd - 12) (show n + 1 ≤ m by omega)
    rw [Nat.succ_mul] at hnw
    refine mn_iload_n 3 dMo_read_315 rfl rfl ?_
    refine mn_aload_n 0 dMo_read_316 rfl rfl ?_
    refine mn_get okMo 15 lMo_150 (by decide) hM rfl dMo_read_317 ?_
    refine mn_bipush (v := 12) dMo_read_320 (by decide) ?_
    refine mn_isub (z := nI (wd - 12)) dMo_read_322 (pk_sub (a := wd) (b := 12) (by omega)) ?_
    refine mn_icmp_ge 367 dMo_read_323 (by decide) (fun c1 => ?_) (fun c1 => ?_)
    · have c1 := (nI_leI (a := (wd - 12)) (b := i) (by omega) (by omega)).mp c1
      refine mn_R.sub [0, 1, 2] (ls' := [(0, .ref mo), (1, .int (nI x)), (2, .int (nI n))]) rfl ?_
      obtain rfl : i = wd - 12 := (by omega)
      exact KK g0 mg9 hfr hgb hg1 hg2 hM hSo hPm hMg
    · have c1 := _root_.mt (nI_leI (a := (wd - 12)) (b := i) (by omega) (by omega)).mpr c1
      refine mn_aload_n 0 dMo_read_326 rfl rfl ?_
      refine mn_get okMo 20 lMo_44 (by decide) hM rfl dMo_read_327 ?_
      refine mn_iload_n 2 dMo_read_330 rfl rfl ?_
      refine mn_aload_n 0 dMo_read_331 rfl rfl ?_
      refine mn_get okMo 15 lMo_150 (by decide) hM rfl dMo_read_332 ?_
      refine mn_bipush (v := 12) dMo_read_335 (by decide) ?_
      refine mn_isub (z := nI (wd - 12)) dMo_read_337 (pk_sub (a := wd) (b := 12) (by omega)) ?_
      refine mn_imul (z := nI (n * (wd - 12))) dMo_read_338 (pk_mul n (wd - 12)) ?_
      refine mn_iload_n 3 dMo_read_339 rfl rfl ?_
      refine mn_iadd (z := nI (n * (wd - 12) + i)) dMo_read_340 (nI_add (n * (wd - 12)) i) ?_
      refine mn_aload_n 0 dMo_read_341 rfl rfl ?_
      refine mn_get okMo 9 lMo_26 (by decide) hM rfl dMo_read_342 ?_
      refine mn_bipush (v := 80) dMo_read_345 (by decide) ?_
      refine mn_aload_n 0 dMo_read_347 rfl rfl ?_
      refine mn_get okMo 17 lMo_35 (by decide) hM rfl dMo_read_348 ?_
      refine mn_iload_n 2 dMo_read_351 rfl rfl ?_
      refine mn_ialdN (j := n) hPm rfl (by omega) (by omega) dMo_read_352 ?_
      rw [hpk]
      show mn_R E MMo_read 4 97 _ _ 353 [(0, .ref mo), (1, .int (nI x)), (2, .int (nI n)), (3, .int (nI i))] [.int (nI k), .int 80, .ref (mo + 4), .int (nI (n * (wd - 12) + i)), .ref (mo + 10)] g0 _
      refine mn_imul (z := nI (80 * k)) dMo_read_353 (pk_mul 80 k) ?_
      refine mn_bipush (v := 12) dMo_read_354 (by decide) ?_
      refine mn_iadd (z := nI (80 * k + 12)) dMo_read_356 (nI_add (80 * k) 12) ?_
      refine mn_iload_n 3 dMo_read_357 rfl rfl ?_
      refine mn_iadd (z := nI (80 * k + 12 + i)) dMo_read_358 (nI_add (80 * k + 12) i) ?_
      refine mn_ialdN (j := 80 * k + 12 + i) hSo rfl (by omega) (by omega) dMo_read_359 ?_
      refine mn_iastN (j := n * (wd - 12) + i) hMg rfl (by omega) (by omega) dMo_read_360 ?_
      obtain ⟨g2, eg2⟩ : ∃ gg_, gg_ = mn_set g0 (mo + 10) (.inl (0, 4800, .inl (upd (fun j => nI (mg9 j)) (n * (wd - 12) + i) (nI (sl (80 * k + 12 + i)))))) := ⟨_, rfl⟩
      refine mn_R.toG eg2 ?_
      have hM_g2 : mn_at g2 mo (.inr (11, [.int 0, .ref (mo + 1), .int (nI tl), .ref (mo + 2), .ref (mo + 3), .int (nI e), .int (nI sz), .int (nI rp), .int (nI st), .ref (mo + 4), .ref (mo + 5), .ref (mo + 6), .int ir, .int (nI m), .int (nI r), .int (nI wd), .int (nI ag), .ref (mo + 7), .ref (mo + 8), .ref (mo + 9), .ref (mo + 10), .int (nI td), .int (nI om), .ref (mo + 11), .ref (mo + 12), .ref (mo + 13), .ref (mo + 14), .ref (mo + 15), .ref (mo + 16)])) := by rw [eg2]; exact hM.off (by omega)
      have hSo_g2 : mn_at g2 (mo + 4) (.inl (0, 4800, .inl (fun j => nI (sl j)))) := by rw [eg2]; exact hSo.off (by omega)
      have hPm_g2 : mn_at g2 (mo + 7) (.inl (0, 64, .inl (fun j => onI (pm j)))) := by rw [eg2]; exact hPm.off (by omega)
      have hMg_g2 : mn_at g2 (mo + 10) (.inl (0, 4800, .inl (upd (fun j => nI (mg9 j)) (n * (wd - 12) + i) (nI (sl (80 * k + 12 + i)))))) := by rw [eg2]; exact hMg.same
      refine mn_iinc (v := nI (i + 1)) (ls' := [(0, .ref mo), (1, .int (nI x)), (2, .int (nI n)), (3, .int (nI (i + 1)))]) 3 dMo_read_361 rfl (nI_add i 1) (by decide) rfl ?_
      refine mn_goto 315 dMo_read_364 (by decide) ?_
      rw [upd_nI] at hMg_g2
      exact ih (i + 1) g2 _ (by omega) (by omega) (hfr.set eg2 (by show (mo + 10) = mo + 10; omega)) (va_up_lt hgb (hslb _)) (fun i9 hi9 => by rcases Nat.lt_or_ge i9 i with q | q; rw [va_up_n _ _ (by omega)]; exact hg1 i9 q; obtain rfl : i9 = i := (by omega); exact va_up_s _ _ _) (fun p hp => by rw [va_up_n _ _ (fun e9 => hp (by omega))]; exact hg2 p hp) hM_g2 hSo_g2 hPm_g2 hMg_g2
set_option maxRecDepth 100000 in
theorem c_M_rd4 {E : mn_En} {g : mn_H} {mo tl e sz rp st m r wd ag td om : Nat} {ir : Int32} {sl : Nat → Nat} {pm : Nat → Option Nat} {x : Nat} {Q : Option Value → mn_H → Prop} (hm : m ≤ 60) (hwd : 20 ≤ wd) (hwd2 : wd ≤ 80) (hmw : m * (wd - 12) ≤ 4080) (hslb : ∀ j, sl j < 256) (hpm : ∀ j q, j < 64 → pm j = some q → q < 1000) (hp60 : ∀ j q, j < m → pm j = some q → q < 60) (KK : ∀ (g1 : mn_H) (ml mt mg : Nat → Nat), mn_fr (fun q => q = mo + 8 ∨ q = mo + 9 ∨ q = mo + 10) g g1 → (∀ j, ml j < 256) → (∀ j, mt j < 256) → (∀ j, mg j < 256) → Cpd pm sl (wd - 12) m ml mt mg → mn_at g1 mo (.inr (11, [.int 0, .ref (mo + 1), .int (nI tl), .ref (mo + 2), .ref (mo + 3), .int (nI e), .int (nI sz), .int (nI rp), .int (nI st), .ref (mo + 4), .ref (mo + 5), .ref (mo + 6), .int ir, .int (nI m), .int (nI r), .int (nI wd), .int (nI ag), .ref (mo + 7), .ref (mo + 8), .ref (mo + 9), .ref (mo + 10), .int (nI td), .int (nI om), .ref (mo + 11), .ref (mo + 12), .ref (mo + 13), .ref (mo + 14), .ref (mo + 15), .ref (mo + 16)])) → mn_at g1 (mo + 4) (.inl (0, 4800, .inl (fun j => nI (sl j)))) → mn_at g1 (mo + 7) (.inl (0, 64, .inl (fun j => onI (pm j)))) → mn_at g1 (mo + 8) (.inl (0, 64, .inl (fun j => nI (ml j)))) → mn_at g1 (mo + 9) (.inl (0, 64, .inl (fun j => nI (mt j)))) → mn_at g1 (mo + 10) (.inl (0, 4800, .inl (fun j => nI (mg j)))) → mn_R E MMo_read 4 97 0 0 373 [(0, .ref mo), (1, .int (nI x))] [] g1 Q) : ∀ (fu n : Nat) (g0 : mn_H) (ml mt mg : Nat → Nat), n ≤ m → m - n < fu → mn_fr (fun q => q = mo + 8 ∨ q = mo + 9 ∨ q = mo + 10) g g0 → (∀ j, ml j < 256) → (∀ j, mt j < 256) → (∀ j, mg j < 256) → Cpd pm sl (wd - 12) n ml mt mg → mn_at g0 mo (.inr (11, [.int 0, .ref (mo + 1), .int (nI tl), .ref (mo + 2), .ref (mo + 3), .int (nI e), .int (nI sz), .int (nI rp), .int (nI st), .ref (mo + 4), .ref (mo + 5), .ref (mo + 6), .int ir, .int (nI m), .int (nI r), .int (nI wd), .int (nI ag), .ref (mo + 7), .ref (mo + 8), .ref (mo + 9), .ref (mo + 10), .int (nI td), .int (nI om), .ref (mo + 11), .ref (mo + 12), .ref (mo + 13), .ref (mo + 14), .ref (mo + 15), .ref (mo + 16)])) → mn_at g0 (mo + 4) (.inl (0, 4800, .inl (fun j => nI (sl j)))) → mn_at g0 (mo + 7) (.inl (0, 64, .inl (fun j => onI (pm j)))) → mn_at g0 (mo + 8) (.inl (0, 64, .inl (fun j => nI (ml j)))) → mn_at g0 (mo + 9) (.inl (0, 64, .inl (fun j => nI (mt j)))) → mn_at g0 (mo + 10) (.inl (0, 4800, .inl (fun j => nI (mg j)))) → mn_R E MMo_read 4 97 0 0 250 [(0, .ref mo), (1, .int (nI x)), (2, .int (nI n))] [] g0 (Q) := by
  intro fu
  induction fu with
  | zero => intro n g0 ml mt mg h1 h2; exact absurd h2 (by omega)
  | succ fu ih =>
    intro n g0 ml mt mg h1 h2 hfr hml hmt hmg hcp hM hSo hPm hMl hMt hMg
    refine mn_iload_n 2 dMo_read_250 rfl rfl ?_
    refine mn_aload_n 0 dMo_read_251 rfl rfl ?_
    refine mn_get okMo 13 lMo_144 (by decide) hM rfl dMo_read_252 ?_
    refine mn_icmp_ge 373 dMo_read_255 (by decide) (fun c1 => ?_) (fun c1 => ?_)
    · have c1 := (nI_leI (a := m) (b := n) (by omega) (by omega)).mp c1
      refine mn_R.sub [0, 1] (ls' := [(0, .ref mo), (1, .int (nI x))]) rfl ?_
      obtain rfl : n = m := (by omega)
      exact KK g0 ml mt mg hfr hml hmt hmg hcp hM hSo hPm hMl hMt hMg
    · have c1 := _root_.mt (nI_leI (a := m) (b := n) (by omega) (by omega)).mpr c1
      refine mn_aload_n 0 dMo_read_258 rfl rfl ?_
      refine mn_get okMo 17 lMo_35 (by decide) hM rfl dMo_read_259 ?_
      refine mn_iload_n 2 dMo_read_262 rfl rfl ?_
      refine mn_ialdN (j := n) hPm rfl (by omega) (by omega) dMo_read_263 ?_
      refine mn_if_lt 367 dMo_read_264 (by decide) (fun c2 => ?_) (fun c2 => ?_)
      · have hpn : pm n = none := (onI_neg (fun q hq => hpm n q (by omega) hq)).mp c2
        refine mn_iinc (v := nI (n + 1)) (ls' := [(0, .ref mo), (1, .int (nI x)), (2, .int (nI (n + 1)))]) 2 dMo_read_367 rfl (nI_add n 1) (by decide) rfl ?_
        refine mn_goto 250 dMo_read_370 (by decide) ?_
        exact ih (n + 1) g0 ml mt mg (by omega) (by omega) hfr hml hmt hmg (Cpd_n hcp hpn) hM hSo hPm hMl hMt hMg
      · have hpn : ¬ pm n = none := fun q => c2 ((onI_neg (fun q hq => hpm n q (by omega) hq)).mpr q)
        obtain ⟨k, hpk⟩ : ∃ k, pm n = some k := by cases h8 : pm n with | none => exact absurd h8 hpn | some k => exact ⟨k, rfl⟩
        have hk60 := hp60 n k (by omega) hpk
        refine mn_aload_n 0 dMo_read_267 rfl rfl ?_
        refine mn_get okMo 18 lMo_38 (by decide) hM rfl dMo_read_268 ?_
        refine mn_iload_n 2 dMo_read_271 rfl rfl ?_
        refine mn_aload_n 0 dMo_read_272 rfl rfl ?_
        refine mn_get okMo 9 lMo_26 (by decide) hM rfl dMo_read_273 ?_
        refine mn_bipush (v := 80) dMo_read_276 (by decide) ?_
        refine mn_aload_n 0 dMo_read_278 rfl rfl ?_
        refine mn_get okMo 17 lMo_35 (by decide) hM rfl dMo_read_279 ?_
        refine mn_iload_n 2 dMo_read_282 rfl rfl ?_
        refine mn_ialdN (j := n) hPm rfl (by omega) (by omega) dMo_read_283 ?_
        rw [hpk]
        show mn_R E MMo_read 4 97 _ _ 284 [(0, .ref mo), (1, .int (nI x)), (2, .int (nI n))] [.int (nI k), .int 80, .ref (mo + 4), .int (nI n), .ref (mo + 8)] g0 _
        refine mn_imul (z := nI (80 * k)) dMo_read_284 (pk_mul 80 k) ?_
        refine mn_bipush (v := 6) dMo_read_285 (by decide) ?_
        refine mn_iadd (z := nI (80 * k + 6)) dMo_read_287 (nI_add (80 * k) 6) ?_
        refine mn_ialdN (j := 80 * k + 6) hSo rfl (by omega) (by omega) dMo_read_288 ?_
        refine mn_iastN (j := n) hMl rfl (by omega) (by omega) dMo_read_289 ?_
        obtain ⟨g3, eg3⟩ : ∃ gg_, gg_ = mn_set g0 (mo + 8) (.inl (0, 64, .inl (upd (fun j => nI (ml j)) n (nI (sl (80 * k + 6)))))) := ⟨_, rfl⟩
        refine mn_R.toG eg3 ?_
        have hM_g3 : mn_at g3 mo (.inr (11, [.int 0, .ref (mo + 1), .int (nI tl), .ref (mo + 2), .ref (mo + 3), .int (nI e), .int (nI sz), .int (nI rp), .int (nI st), .ref (mo + 4), .ref (mo + 5), .ref (mo + 6), .int ir, .int (nI m), .int (nI r), .int (nI wd), .int (nI ag), .ref (mo + 7), .ref (mo + 8), .ref (mo + 9), .ref (mo + 10), .int (nI td), .int (nI om), .ref (mo + 11), .ref (mo + 12), .ref (mo + 13), .ref (mo + 14), .ref (mo + 15), .ref (mo + 16)])) := by rw [eg3]; exact hM.off (by omega)
        have hSo_g3 : mn_at g3 (mo + 4) (.inl (0, 4800, .inl (fun j => nI (sl j)))) := by rw [eg3]; exact hSo.off (by omega)
        have hPm_g3 : mn_at g3 (mo + 7) (.inl (0, 64, .inl (fun j => onI (pm j)))) := by rw [eg3]; exact hPm.off (by omega)
        have hMl_g3 : mn_at g3 (mo + 8) (.inl (0, 64, .inl (upd (fun j => nI (ml j)) n (nI (sl (80 * k + 6)))))) := by rw [eg3]; exact hMl.same
        have hMt_g3 : mn_at g3 (mo + 9) (.inl (0, 64, .inl (fun j => nI (mt j)))) := by rw [eg3]; exact hMt.off (by omega)
        have hMg_g3 : mn_at g3 (mo + 10) (.inl (0, 4800, .inl (fun j => nI (mg j)))) := by rw [eg3]; exact hMg.off (by omega)
        refine mn_aload_n 0 dMo_read_290 rfl rfl ?_
        refine mn_get okMo 19 lMo_41 (by decide) hM_g3 rfl dMo_read_291 ?_
        refine mn_iload_n 2 dMo_read_294 rfl rfl ?_
        refine mn_aload_n 0 dMo_read_295 rfl rfl ?_
        refine mn_get okMo 9 lMo_26 (by decide) hM_g3 rfl dMo_read_296 ?_
        refine mn_bipush (v := 80) dMo_read_299 (by decide) ?_
        refine mn_aload_n 0 dMo_read_301 rfl rfl ?_
        refine mn_get okMo 17 lMo_35 (by decide) hM_g3 rfl dMo_read_302 ?_
        refine mn_iload_n 2 dMo_read_305 rfl rfl ?_
        refine mn_ialdN (j := n) hPm_g3 rfl (by omega) (by omega) dMo_read_306 ?_
        rw [hpk]
        show mn_R E MMo_read 4 97 _ _ 307 [(0, .ref mo), (1, .int (nI x)), (2, .int (nI n))] [.int (nI k), .int 80, .ref (mo + 4), .int (nI n), .ref (mo + 9)] g3 _
        refine mn_imul (z := nI (80 * k)) dMo_read_307 (pk_mul 80 k) ?_
        refine mn_bipush (v := 7) dMo_read_308 (by decide) ?_
        refine mn_iadd (z := nI (80 * k + 7)) dMo_read_310 (nI_add (80 * k) 7) ?_
        refine mn_ialdN (j := 80 * k + 7) hSo_g3 rfl (by omega) (by omega) dMo_read_311 ?_
        refine mn_iastN (j := n) hMt_g3 rfl (by omega) (by omega) dMo_read_312 ?_
        obtain ⟨g4, eg4⟩ : ∃ gg_, gg_ = mn_set g3 (mo + 9) (.inl (0, 64, .inl (upd (fun j => nI (mt j)) n (nI (sl (80 * k + 7)))))) := ⟨_, rfl⟩
        refine mn_R.toG eg4 ?_
        have hM_g4 : mn_at g4 mo (.inr (11, [.int 0, .ref (mo + 1), .int (nI tl), .ref (mo + 2), .ref (mo + 3), .int (nI e), .int (nI sz), .int (nI rp), .int (nI st), .ref (mo + 4), .ref (mo + 5), .ref (mo + 6), .int ir, .int (nI m), .int (nI r), .int (nI wd), .int (nI ag), .ref (mo + 7), .ref (mo + 8), .ref (mo + 9), .ref (mo + 10), .int (nI td), .int (nI om), .ref (mo + 11), .ref (mo + 12), .ref (mo + 13), .ref (mo + 14), .ref (mo + 15), .ref (mo + 16)])) := by rw [eg4]; exact hM_g3.off (by omega)
        have hSo_g4 : mn_at g4 (mo + 4) (.inl (0, 4800, .inl (fun j => nI (sl j)))) := by rw [eg4]; exact hSo_g3.off (by omega)
        have hPm_g4 : mn_at g4 (mo + 7) (.inl (0, 64, .inl (fun j => onI (pm j)))) := by rw [eg4]; exact hPm_g3.off (by omega)
        have hMl_g4 : mn_at g4 (mo + 8) (.inl (0, 64, .inl (upd (fun j => nI (ml j)) n (nI (sl (80 * k + 6)))))) := by rw [eg4]; exact hMl_g3.off (by omega)
        have hMt_g4 : mn_at g4 (mo + 9) (.inl (0, 64, .inl (upd (fun j => nI (mt j)) n (nI (sl (80 * k + 7)))))) := by rw [eg4]; exact hMt_g3.same
        have hMg_g4 : mn_at g4 (mo + 10) (.inl (0, 4800, .inl (fun j => nI (mg j)))) := by rw [eg4]; exact hMg_g3.off (by omega)
        refine mn_iconst (v := 0) dMo_read_313 (by decide) ?_
        refine mn_istore_n (ls' := [(0, .ref mo), (1, .int (nI x)), (2, .int (nI n)), (3, .int 0)]) dMo_read_314 rfl (by decide) rfl ?_
        rw [upd_nI] at hMl_g4 hMt_g4
        refine c_M_rd4i (n := n) (k := k) (by omega) hm hwd hwd2 hmw hslb hpk hk60 (fun g8 mg8 f8 hgb8 hg1 hg2 a1 a2 a3 a4 => ?_) (wd - 12 + 1) 0 g4 mg (by omega) (by omega) mn_fr.rf hmg (fun i9 hi9 => absurd hi9 (by omega)) (fun p _ => rfl) hM_g4 hSo_g4 hPm_g4 hMg_g4
        have hMl_g8 := hMl_g4.fr f8 (fun h => by have h9 : (mo + 8) = mo + 10 := h; omega)
        have hMt_g8 := hMt_g4.fr f8 (fun h => by have h9 : (mo + 9) = mo + 10 := h; omega)
        refine mn_iinc (v := nI (n + 1)) (ls' := [(0, .ref mo), (1, .int (nI x)), (2, .int (nI (n + 1)))]) 2 dMo_read_367 rfl (nI_add n 1) (by decide) rfl ?_
        refine mn_goto 250 dMo_read_370 (by decide) ?_
        refine mn_R.sub [0, 1, 2] (ls' := [(0, .ref mo), (1, .int (nI x)), (2, .int (nI (n + 1)))]) rfl ?_
        exact ih (n + 1) g8 _ _ mg8 (by omega) (by omega) (((hfr.set eg3 (by show (mo + 8) = mo + 8 ∨ (mo + 8) = mo + 9 ∨ (mo + 8) = mo + 10; omega)).set eg4 (by show (mo + 9) = mo + 8 ∨ (mo + 9) = mo + 9 ∨ (mo + 9) = mo + 10; omega)).tr (f8.mo (fun q h => by have h9 : q = mo + 10 := h; show q = mo + 8 ∨ q = mo + 9 ∨ q = mo + 10; omega))) (va_up_lt hml (hslb _)) (va_up_lt hmt (hslb _)) hgb8 (Cpd_s hcp hpk hg1 hg2) a1 a2 a3 hMl_g8 hMt_g8 a4
set_option maxRecDepth 100000 in
theorem c_M_rd6 {E : mn_En} {g : mn_H} {mo tl e sz rp st m r wd ag td om : Nat} {ir : Int32} {pm : Nat → Option Nat} (hM : mn_at g mo (.inr (11, [.int 0, .ref (mo + 1), .int (nI tl), .ref (mo + 2), .ref (mo + 3), .int (nI e), .int (nI sz), .int (nI rp), .int (nI st), .ref (mo + 4), .ref (mo + 5), .ref (mo + 6), .int ir, .int (nI m), .int (nI r), .int (nI wd), .int (nI ag), .ref (mo + 7), .ref (mo + 8), .ref (mo + 9), .ref (mo + 10), .int (nI td), .int (nI om), .ref (mo + 11), .ref (mo + 12), .ref (mo + 13), .ref (mo + 14), .ref (mo + 15), .ref (mo + 16)]))) (hPm : mn_at g (mo + 7) (.inl (0, 64, .inl (fun j => onI (pm j))))) {x : Nat} (hm : m ≤ 60) (hpm : ∀ j q, j < 64 → pm j = some q → q < 1000) : ∀ (fu k : Nat), k ≤ m → m - k < fu → mn_R E MMo_read 4 97 0 0 385 [(0, .ref mo), (1, .int (nI x)), (2, .int (nI (cnt (fun j => pm j ≠ none) k))), (3, .int (nI k))] [] g (mn_is (some (.int (nI (cnt (fun j => pm j ≠ none) m)))) g) := by
  intro fu
  induction fu with
  | zero => intro k h1 h2; exact absurd h2 (by omega)
  | succ fu ih =>
    intro k h1 h2
    have hcn := cnt_le (fun j => pm j ≠ none) k
    refine mn_iload_n 3 dMo_read_385 rfl rfl ?_
    refine mn_aload_n 0 dMo_read_386 rfl rfl ?_
    refine mn_get okMo 13 lMo_144 (by decide) hM rfl dMo_read_387 ?_
    refine mn_icmp_ge 418 dMo_read_390 (by decide) (fun c1 => ?_) (fun c1 => ?_)
    · have c1 := (nI_leI (a := m) (b := k) (by omega) (by omega)).mp c1
      refine mn_iload_n 2 dMo_read_418 rfl rfl ?_
      exact mn_iret rfl dMo_read_419 ⟨by rw [show k = m by omega], rfl⟩
    · have c1 := _root_.mt (nI_leI (a := m) (b := k) (by omega) (by omega)).mpr c1
      refine mn_aload_n 0 dMo_read_393 rfl rfl ?_
      refine mn_get okMo 17 lMo_35 (by decide) hM rfl dMo_read_394 ?_
      refine mn_iload_n 3 dMo_read_397 rfl rfl ?_
      refine mn_ialdN (j := k) hPm rfl (by omega) (by omega) dMo_read_398 ?_
      refine mn_bipush (v := (-2)) dMo_read_399 (by decide) ?_
      refine mn_icmp_eq 410 dMo_read_401 (by decide) (fun c2 => ?_) (fun c2 => ?_)
      · have hpn : pm k = none := (onI_e (fun q hq => hpm _ q (by omega) hq)).mp c2
        refine mn_iload_n 2 dMo_read_410 rfl rfl ?_
        refine mn_istore_n (ls' := [(0, .ref mo), (1, .int (nI x)), (2, .int (nI (cnt (fun j => pm j ≠ none) k))), (3, .int (nI k))]) dMo_read_411 rfl (by decide) rfl ?_
        refine mn_iinc (v := nI (k + 1)) (ls' := [(0, .ref mo), (1, .int (nI x)), (2, .int (nI (cnt (fun j => pm j ≠ none) k))), (3, .int (nI (k + 1)))]) 3 dMo_read_412 rfl (nI_add k 1) (by decide) rfl ?_
        refine mn_goto 385 dMo_read_415 (by decide) ?_
        rw [← cnt_n (P := (fun j => pm j ≠ none)) (k := k) (fun q => q hpn)]
        exact ih (k + 1) (by omega) (by omega)
      · have hpn : ¬ pm k = none := fun q => c2 ((onI_e (fun q hq => hpm _ q (by omega) hq)).mpr q)
        refine mn_iload_n 2 dMo_read_404 rfl rfl ?_
        refine mn_iconst (v := 1) dMo_read_405 (by decide) ?_
        refine mn_iadd (z := nI (cnt (fun j => pm j ≠ none) k + 1)) dMo_read_406 (nI_add (cnt (fun j => pm j ≠ none) k) 1) ?_
        refine mn_goto 411 dMo_read_407 (by decide) ?_
        refine mn_istore_n (ls' := [(0, .ref mo), (1, .int (nI x)), (2, .int (nI (cnt (fun j => pm j ≠ none) k + 1))), (3, .int (nI k))]) dMo_read_411 rfl (by decide) rfl ?_
        refine mn_iinc (v := nI (k + 1)) (ls' := [(0, .ref mo), (1, .int (nI x)), (2, .int (nI (cnt (fun j => pm j ≠ none) k + 1))), (3, .int (nI (k + 1)))]) 3 dMo_read_412 rfl (nI_add k 1) (by decide) rfl ?_
        refine mn_goto 385 dMo_read_415 (by decide) ?_
        rw [← cnt_y (P := (fun j => pm j ≠ none)) (k := k) hpn]
        exact ih (k + 1) (by omega) (by omega)
