set_option maxRecDepth 100000 in
theorem c_M_ofPiece {E : mn_En} {g : mn_H} {mo tl e sz rp st m r wd ag td om : Nat} {ir : Int32} {sm bg : Nat → Nat} (hM : mn_at g mo (.inr (11, [.int 0, .ref (mo + 1), .int (nI tl), .ref (mo + 2), .ref (mo + 3), .int (nI e), .int (nI sz), .int (nI rp), .int (nI st), .ref (mo + 4), .ref (mo + 5), .ref (mo + 6), .int ir, .int (nI m), .int (nI r), .int (nI wd), .int (nI ag), .ref (mo + 7), .ref (mo + 8), .ref (mo + 9), .ref (mo + 10), .int (nI td), .int (nI om), .ref (mo + 11), .ref (mo + 12), .ref (mo + 13), .ref (mo + 14), .ref (mo + 15), .ref (mo + 16)]))) (hSm : mn_at g (mo + 2) (.inl (0, 1260, .inl (fun j => nI (sm j))))) (hBg : mn_at g (mo + 3) (.inl (0, 21, .inl (fun j => nI (bg j))))) (he : e ≤ 20) (hsz : 20 ≤ sz) (hsz2 : sz ≤ 80) (hlen : bg e ≤ 1260) (hbl : ∀ k, k < e → bg k < bg e) (hsm : ∀ j, sm j < 256) {n i : Nat} (hn : n < pcN (bg e) (sz - 12)) (hi : i < sz - 12) : mn_R E MMo_ofPiece 1 22 0 0 0 [(0, .ref mo), (1, .int (nI n)), (2, .int (nI i))] [] g (mn_is (some (.int (nI (ptN (zb sm (bg e)) (LnS (bg e) (sz - 12)) (SnS bg e (sz - 12)) (sz - 12) n (12 + i))))) g) := by
  have hnw := pcN_le (len := bg e) (u := sz - 12) (by omega) hn
  refine mn_iload_n 1 dMo_ofPiece_0 rfl rfl ?_
  refine mn_aload_n 0 dMo_ofPiece_1 rfl rfl ?_
  refine mn_cV (d' := 0) (w' := 0) (As := []) (stk' := [.int (nI (sz - 12)), .int (nI n)]) okMo_piece lMo_94 dMo_ofPiece_2 hM rfl rfl rfl rfl (Nat.le_of_ble_eq_true rfl) (Nat.le_of_ble_eq_true rfl) (by decide) (c_M_piece hM hsz) rfl ?_
  refine mn_imul (z := nI (n * (sz - 12))) dMo_ofPiece_5 (pk_mul n (sz - 12)) ?_
  refine mn_istore_n (ls' := [(0, .ref mo), (1, .int (nI n)), (2, .int (nI i)), (3, .int (nI (n * (sz - 12))))]) dMo_ofPiece_6 rfl (by decide) rfl ?_
  refine mn_aload_n 0 dMo_ofPiece_7 rfl rfl ?_
  refine mn_cV (d' := 0) (w' := 0) (As := []) (stk' := [.int (nI (bg e))]) okMo_length lMo_90 dMo_ofPiece_8 hM rfl rfl rfl rfl (Nat.le_of_ble_eq_true rfl) (Nat.le_of_ble_eq_true rfl) (by decide) (c_M_length hM hBg he) rfl ?_
  refine mn_iload_n 3 dMo_ofPiece_11 rfl rfl ?_
  refine mn_isub (z := nI ((bg e) - (n * (sz - 12)))) dMo_ofPiece_12 (pk_sub (a := bg e) (b := n * (sz - 12)) (by omega)) ?_
  refine mn_istore (ls' := [(0, .ref mo), (1, .int (nI n)), (2, .int (nI i)), (3, .int (nI (n * (sz - 12)))), (4, .int (nI ((bg e) - (n * (sz - 12)))))]) dMo_ofPiece_13 (by decide) rfl ?_
  refine mn_iload 4 dMo_ofPiece_15 rfl ?_
  refine mn_aload_n 0 dMo_ofPiece_17 rfl rfl ?_
  refine mn_cV (d' := 0) (w' := 0) (As := []) (stk' := [.int (nI (sz - 12)), .int (nI ((bg e) - (n * (sz - 12))))]) okMo_piece lMo_94 dMo_ofPiece_18 hM rfl rfl rfl rfl (Nat.le_of_ble_eq_true rfl) (Nat.le_of_ble_eq_true rfl) (by decide) (c_M_piece hM hsz) rfl ?_
  refine mn_icmp_ge 29 dMo_ofPiece_21 (by decide) (fun c1 => ?_) (fun c1 => ?_)
  · have c1 := (nI_leI (a := (sz - 12)) (b := ((bg e) - (n * (sz - 12)))) (by omega) (by omega)).mp c1
    refine mn_aload_n 0 dMo_ofPiece_29 rfl rfl ?_
    refine mn_cV (d' := 0) (w' := 0) (As := []) (stk' := [.int (nI (sz - 12))]) okMo_piece lMo_94 dMo_ofPiece_30 hM rfl rfl rfl rfl (Nat.le_of_ble_eq_true rfl) (Nat.le_of_ble_eq_true rfl) (by decide) (c_M_piece hM hsz) rfl ?_
    refine mn_istore (ls' := [(0, .ref mo), (1, .int (nI n)), (2, .int (nI i)), (3, .int (nI (n * (sz - 12)))), (4, .int (nI ((bg e) - (n * (sz - 12))))), (5, .int (nI (sz - 12)))]) dMo_ofPiece_33 (by decide) rfl ?_
    refine mn_iload_n 2 dMo_ofPiece_35 rfl rfl ?_
    refine mn_if_lt 58 dMo_ofPiece_36 (by decide) (fun c2 => ?_) (fun c2 => ?_)
    · exact absurd c2 (nI_pos (by omega))
    · refine mn_iload_n 2 dMo_ofPiece_39 rfl rfl ?_
      refine mn_iload 5 dMo_ofPiece_40 rfl ?_
      refine mn_icmp_ge 56 dMo_ofPiece_42 (by decide) (fun c3 => ?_) (fun c3 => ?_)
      · have c3 := (nI_leI (a := (sz - 12)) (b := i) (by omega) (by omega)).mp c3
        refine mn_iconst (v := 0) dMo_ofPiece_56 (by decide) ?_
        exact mn_iret rfl dMo_ofPiece_57 ⟨by rw [pt_out (by omega)]; rfl, rfl⟩
      · have c3 := mt (nI_leI (a := (sz - 12)) (b := i) (by omega) (by omega)).mpr c3
        refine mn_aload_n 0 dMo_ofPiece_45 rfl rfl ?_
        refine mn_get okMo 3 lMo_17 (by decide) hM rfl dMo_ofPiece_46 ?_
        refine mn_iload_n 3 dMo_ofPiece_49 rfl rfl ?_
        refine mn_iload_n 2 dMo_ofPiece_50 rfl rfl ?_
        refine mn_iadd (z := nI (n * (sz - 12) + i)) dMo_ofPiece_51 (nI_add (n * (sz - 12)) i) ?_
        refine mn_ialdN (j := n * (sz - 12) + i) hSm rfl (by omega) (by omega) dMo_ofPiece_52 ?_
        refine mn_goto 57 dMo_ofPiece_53 (by decide) ?_
        exact mn_iret rfl dMo_ofPiece_57 ⟨by rw [pt_in (by omega)], rfl⟩
  · have c1 := mt (nI_leI (a := (sz - 12)) (b := ((bg e) - (n * (sz - 12)))) (by omega) (by omega)).mpr c1
    refine mn_iload 4 dMo_ofPiece_24 rfl ?_
    refine mn_goto 33 dMo_ofPiece_26 (by decide) ?_
    refine mn_istore (ls' := [(0, .ref mo), (1, .int (nI n)), (2, .int (nI i)), (3, .int (nI (n * (sz - 12)))), (4, .int (nI ((bg e) - (n * (sz - 12))))), (5, .int (nI ((bg e) - (n * (sz - 12)))))]) dMo_ofPiece_33 (by decide) rfl ?_
    refine mn_iload_n 2 dMo_ofPiece_35 rfl rfl ?_
    refine mn_if_lt 58 dMo_ofPiece_36 (by decide) (fun c4 => ?_) (fun c4 => ?_)
    · exact absurd c4 (nI_pos (by omega))
    · refine mn_iload_n 2 dMo_ofPiece_39 rfl rfl ?_
      refine mn_iload 5 dMo_ofPiece_40 rfl ?_
      refine mn_icmp_ge 56 dMo_ofPiece_42 (by decide) (fun c5 => ?_) (fun c5 => ?_)
      · have c5 := (nI_leI (a := ((bg e) - (n * (sz - 12)))) (b := i) (by omega) (by omega)).mp c5
        refine mn_iconst (v := 0) dMo_ofPiece_56 (by decide) ?_
        exact mn_iret rfl dMo_ofPiece_57 ⟨by rw [pt_out (by omega)]; rfl, rfl⟩
      · have c5 := mt (nI_leI (a := ((bg e) - (n * (sz - 12)))) (b := i) (by omega) (by omega)).mpr c5
        refine mn_aload_n 0 dMo_ofPiece_45 rfl rfl ?_
        refine mn_get okMo 3 lMo_17 (by decide) hM rfl dMo_ofPiece_46 ?_
        refine mn_iload_n 3 dMo_ofPiece_49 rfl rfl ?_
        refine mn_iload_n 2 dMo_ofPiece_50 rfl rfl ?_
        refine mn_iadd (z := nI (n * (sz - 12) + i)) dMo_ofPiece_51 (nI_add (n * (sz - 12)) i) ?_
        refine mn_ialdN (j := n * (sz - 12) + i) hSm rfl (by omega) (by omega) dMo_ofPiece_52 ?_
        refine mn_goto 57 dMo_ofPiece_53 (by decide) ?_
        exact mn_iret rfl dMo_ofPiece_57 ⟨by rw [pt_in (by omega)], rfl⟩
set_option maxRecDepth 100000 in
theorem c_M_ofPiece6 {E : mn_En} {g : mn_H} {mo tl e sz rp st m r wd ag td om : Nat} {ir : Int32} {sm bg : Nat → Nat} (hM : mn_at g mo (.inr (11, [.int 0, .ref (mo + 1), .int (nI tl), .ref (mo + 2), .ref (mo + 3), .int (nI e), .int (nI sz), .int (nI rp), .int (nI st), .ref (mo + 4), .ref (mo + 5), .ref (mo + 6), .int ir, .int (nI m), .int (nI r), .int (nI wd), .int (nI ag), .ref (mo + 7), .ref (mo + 8), .ref (mo + 9), .ref (mo + 10), .int (nI td), .int (nI om), .ref (mo + 11), .ref (mo + 12), .ref (mo + 13), .ref (mo + 14), .ref (mo + 15), .ref (mo + 16)]))) (hSm : mn_at g (mo + 2) (.inl (0, 1260, .inl (fun j => nI (sm j))))) (hBg : mn_at g (mo + 3) (.inl (0, 21, .inl (fun j => nI (bg j))))) (he : e ≤ 20) (hsz : 20 ≤ sz) (hsz2 : sz ≤ 80) (hlen : bg e ≤ 1260) (hbl : ∀ k, k < e → bg k < bg e) (hsm : ∀ j, sm j < 256) {n : Nat} (hn : n < pcN (bg e) (sz - 12)) : mn_R E MMo_ofPiece 1 22 0 0 0 [(0, .ref mo), (1, .int (nI n)), (2, .int (-1))] [] g (mn_is (some (.int (nI (ptN (zb sm (bg e)) (LnS (bg e) (sz - 12)) (SnS bg e (sz - 12)) (sz - 12) n 6)))) g) := by
  have hnw := pcN_le (len := bg e) (u := sz - 12) (by omega) hn
  refine mn_iload_n 1 dMo_ofPiece_0 rfl rfl ?_
  refine mn_aload_n 0 dMo_ofPiece_1 rfl rfl ?_
  refine mn_cV (d' := 0) (w' := 0) (As := []) (stk' := [.int (nI (sz - 12)), .int (nI n)]) okMo_piece lMo_94 dMo_ofPiece_2 hM rfl rfl rfl rfl (Nat.le_of_ble_eq_true rfl) (Nat.le_of_ble_eq_true rfl) (by decide) (c_M_piece hM hsz) rfl ?_
  refine mn_imul (z := nI (n * (sz - 12))) dMo_ofPiece_5 (pk_mul n (sz - 12)) ?_
  refine mn_istore_n (ls' := [(0, .ref mo), (1, .int (nI n)), (2, .int (-1)), (3, .int (nI (n * (sz - 12))))]) dMo_ofPiece_6 rfl (by decide) rfl ?_
  refine mn_aload_n 0 dMo_ofPiece_7 rfl rfl ?_
  refine mn_cV (d' := 0) (w' := 0) (As := []) (stk' := [.int (nI (bg e))]) okMo_length lMo_90 dMo_ofPiece_8 hM rfl rfl rfl rfl (Nat.le_of_ble_eq_true rfl) (Nat.le_of_ble_eq_true rfl) (by decide) (c_M_length hM hBg he) rfl ?_
  refine mn_iload_n 3 dMo_ofPiece_11 rfl rfl ?_
  refine mn_isub (z := nI ((bg e) - (n * (sz - 12)))) dMo_ofPiece_12 (pk_sub (a := bg e) (b := n * (sz - 12)) (by omega)) ?_
  refine mn_istore (ls' := [(0, .ref mo), (1, .int (nI n)), (2, .int (-1)), (3, .int (nI (n * (sz - 12)))), (4, .int (nI ((bg e) - (n * (sz - 12)))))]) dMo_ofPiece_13 (by decide) rfl ?_
  refine mn_iload 4 dMo_ofPiece_15 rfl ?_
  refine mn_aload_n 0 dMo_ofPiece_17 rfl rfl ?_
  refine mn_cV (d' := 0) (w' := 0) (As := []) (stk' := [.int (nI (sz - 12)), .int (nI ((bg e) - (n * (sz - 12))))]) okMo_piece lMo_94 dMo_ofPiece_18 hM rfl rfl rfl rfl (Nat.le_of_ble_eq_true rfl) (Nat.le_of_ble_eq_true rfl) (by decide) (c_M_piece hM hsz) rfl ?_
  refine mn_icmp_ge 29 dMo_ofPiece_21 (by decide) (fun c1 => ?_) (fun c1 => ?_)
  · have c1 := (nI_leI (a := (sz - 12)) (b := ((bg e) - (n * (sz - 12)))) (by omega) (by omega)).mp c1
    refine mn_aload_n 0 dMo_ofPiece_29 rfl rfl ?_
    refine mn_cV (d' := 0) (w' := 0) (As := []) (stk' := [.int (nI (sz - 12))]) okMo_piece lMo_94 dMo_ofPiece_30 hM rfl rfl rfl rfl (Nat.le_of_ble_eq_true rfl) (Nat.le_of_ble_eq_true rfl) (by decide) (c_M_piece hM hsz) rfl ?_
    refine mn_istore (ls' := [(0, .ref mo), (1, .int (nI n)), (2, .int (-1)), (3, .int (nI (n * (sz - 12)))), (4, .int (nI ((bg e) - (n * (sz - 12))))), (5, .int (nI (sz - 12)))]) dMo_ofPiece_33 (by decide) rfl ?_
    refine mn_iload_n 2 dMo_ofPiece_35 rfl rfl ?_
    refine mn_if_lt 58 dMo_ofPiece_36 (by decide) (fun c2 => ?_) (fun c2 => ?_)
    · refine mn_iload_n 2 dMo_ofPiece_58 rfl rfl ?_
      refine mn_iconst (v := -1) dMo_ofPiece_59 (by decide) ?_
      refine mn_icmp_ne 66 dMo_ofPiece_60 (by decide) (fun c3 => ?_) (fun c3 => ?_)
      · exact absurd c3 (by decide)
      · refine mn_iload 5 dMo_ofPiece_63 rfl ?_
        exact mn_iret rfl dMo_ofPiece_65 ⟨by rw [show ptN (zb sm (bg e)) (LnS (bg e) (sz - 12)) (SnS bg e (sz - 12)) (sz - 12) n 6 = sz - 12 by show min (sz - 12) (bg e - n * (sz - 12)) = _; rw [Nat.min_def]; split <;> omega], rfl⟩
    · exact absurd c2 (by decide)
  · have c1 := mt (nI_leI (a := (sz - 12)) (b := ((bg e) - (n * (sz - 12)))) (by omega) (by omega)).mpr c1
    refine mn_iload 4 dMo_ofPiece_24 rfl ?_
    refine mn_goto 33 dMo_ofPiece_26 (by decide) ?_
    refine mn_istore (ls' := [(0, .ref mo), (1, .int (nI n)), (2, .int (-1)), (3, .int (nI (n * (sz - 12)))), (4, .int (nI ((bg e) - (n * (sz - 12))))), (5, .int (nI ((bg e) - (n * (sz - 12)))))]) dMo_ofPiece_33 (by decide) rfl ?_
    refine mn_iload_n 2 dMo_ofPiece_35 rfl rfl ?_
    refine mn_if_lt 58 dMo_ofPiece_36 (by decide) (fun c4 => ?_) (fun c4 => ?_)
    · refine mn_iload_n 2 dMo_ofPiece_58 rfl rfl ?_
      refine mn_iconst (v := -1) dMo_ofPiece_59 (by decide) ?_
      refine mn_icmp_ne 66 dMo_ofPiece_60 (by decide) (fun c5 => ?_) (fun c5 => ?_)
      · exact absurd c5 (by decide)
      · refine mn_iload 5 dMo_ofPiece_63 rfl ?_
        exact mn_iret rfl dMo_ofPiece_65 ⟨by rw [show ptN (zb sm (bg e)) (LnS (bg e) (sz - 12)) (SnS bg e (sz - 12)) (sz - 12) n 6 = (bg e) - (n * (sz - 12)) by show min (sz - 12) (bg e - n * (sz - 12)) = _; rw [Nat.min_def]; split <;> omega], rfl⟩
    · exact absurd c4 (by decide)
set_option maxRecDepth 100000 in
theorem c_M_ofP7_l {E : mn_En} {g : mn_H} {mo tl e sz rp st m r wd ag td om : Nat} {ir : Int32} {sm bg : Nat → Nat} (hM : mn_at g mo (.inr (11, [.int 0, .ref (mo + 1), .int (nI tl), .ref (mo + 2), .ref (mo + 3), .int (nI e), .int (nI sz), .int (nI rp), .int (nI st), .ref (mo + 4), .ref (mo + 5), .ref (mo + 6), .int ir, .int (nI m), .int (nI r), .int (nI wd), .int (nI ag), .ref (mo + 7), .ref (mo + 8), .ref (mo + 9), .ref (mo + 10), .int (nI td), .int (nI om), .ref (mo + 11), .ref (mo + 12), .ref (mo + 13), .ref (mo + 14), .ref (mo + 15), .ref (mo + 16)]))) (hSm : mn_at g (mo + 2) (.inl (0, 1260, .inl (fun j => nI (sm j))))) (hBg : mn_at g (mo + 3) (.inl (0, 21, .inl (fun j => nI (bg j))))) (he : e ≤ 20) (hsz : 20 ≤ sz) (hsz2 : sz ≤ 80) (hlen : bg e ≤ 1260) (hbl : ∀ k, k < e → bg k < bg e) (hsm : ∀ j, sm j < 256) {n mn lf : Nat} (hn : n < pcN (bg e) (sz - 12)) (hnw : n * (sz - 12) ≤ bg e) (hmn : mn = min (sz - 12) (bg e - n * (sz - 12))) : ∀ (fu k : Nat), k ≤ e → e - k < fu → mn_R E MMo_ofPiece 1 22 0 0 69 [(0, .ref mo), (1, .int (nI n)), (2, .int (-2)), (3, .int (nI (n * (sz - 12)))), (4, .int (nI lf)), (5, .int (nI mn)), (6, .int (nI k))] [] g (mn_is (some (.int (nI (siK bg e (n * (sz - 12)) (sz - 12) (e - k))))) g) := by
  have hmn2 : (mn = sz - 12 ∧ sz - 12 ≤ bg e - n * (sz - 12)) ∨ (mn = bg e - n * (sz - 12) ∧ mn ≤ sz - 12) := by rw [Nat.min_def] at hmn; split at hmn <;> omega
  intro fu
  induction fu with
  | zero => intro k h1 h2; exact absurd h2 (by omega)
  | succ fu ih =>
    intro k h1 h2
    refine mn_iload 6 dMo_ofPiece_69 rfl ?_
    refine mn_aload_n 0 dMo_ofPiece_71 rfl rfl ?_
    refine mn_get okMo 5 lMo_77 (by decide) hM rfl dMo_ofPiece_72 ?_
    refine mn_icmp_ge 114 dMo_ofPiece_75 (by decide) (fun c1 => ?_) (fun c1 => ?_)
    · have c1 := (nI_leI (a := e) (b := k) (by omega) (by omega)).mp c1
      refine mn_sipush (v := 255) dMo_ofPiece_114 (by decide) ?_
      exact mn_iret rfl dMo_ofPiece_117 ⟨by rw [show e - k = 0 by omega]; rfl, rfl⟩
    · have c1 := mt (nI_leI (a := e) (b := k) (by omega) (by omega)).mpr c1
      have hbk := hbl k (by omega)
      have hnlt := pcN_lt (len := bg e) (u := sz - 12) (by omega) (by omega) hn
      by_cases hin : n * (sz - 12) ≤ bg k ∧ bg k < n * (sz - 12) + (sz - 12)
      · refine mn_aload_n 0 dMo_ofPiece_78 rfl rfl ?_
        refine mn_get okMo 4 lMo_20 (by decide) hM rfl dMo_ofPiece_79 ?_
        refine mn_iload 6 dMo_ofPiece_82 rfl ?_
        refine mn_ialdN (j := k) hBg rfl (by omega) (by omega) dMo_ofPiece_84 ?_
        refine mn_iload_n 3 dMo_ofPiece_85 rfl rfl ?_
        refine mn_iload_n 3 dMo_ofPiece_86 rfl rfl ?_
        refine mn_iload 5 dMo_ofPiece_87 rfl ?_
        refine mn_iadd (z := nI (n * (sz - 12) + mn)) dMo_ofPiece_89 (nI_add (n * (sz - 12)) mn) ?_
        refine mn_iconst (v := 1) dMo_ofPiece_90 (by decide) ?_
        refine mn_isub (z := nI (n * (sz - 12) + mn - 1)) dMo_ofPiece_91 (pk_sub (a := n * (sz - 12) + mn) (b := 1) (by omega)) ?_
        refine mn_cS (d' := 0) (w' := 0) (As := [.int (nI (bg k)), .int (nI (n * (sz - 12))), .int (nI (n * (sz - 12) + mn - 1))]) (stk' := [.int 1]) okMo_in lMo_68 dMo_ofPiece_92 rfl rfl (Nat.le_of_ble_eq_true rfl) (Nat.le_of_ble_eq_true rfl) (by decide) (c_M_in_y (ml_lt (a := n * (sz - 12)) (b := bg k) (by omega) (by omega) hin.1) (ml_lt (a := bg k) (b := n * (sz - 12) + mn - 1) (by omega) (by omega) (by omega))) rfl ?_
        refine mn_if_eq 108 dMo_ofPiece_95 (by decide) (fun c2 => ?_) (fun c2 => ?_)
        · exact absurd c2 (by decide)
        · refine mn_aload_n 0 dMo_ofPiece_98 rfl rfl ?_
          refine mn_get okMo 4 lMo_20 (by decide) hM rfl dMo_ofPiece_99 ?_
          refine mn_iload 6 dMo_ofPiece_102 rfl ?_
          refine mn_ialdN (j := k) hBg rfl (by omega) (by omega) dMo_ofPiece_104 ?_
          refine mn_iload_n 3 dMo_ofPiece_105 rfl rfl ?_
          refine mn_isub (z := nI ((bg k) - (n * (sz - 12)))) dMo_ofPiece_106 (pk_sub (a := bg k) (b := n * (sz - 12)) (by omega)) ?_
          exact mn_iret rfl dMo_ofPiece_107 ⟨by rw [show e - k = (e - k - 1) + 1 by omega]; unfold siK; rw [show e - (e - k - 1 + 1) = k by omega, if_pos hin], rfl⟩
      · refine mn_aload_n 0 dMo_ofPiece_78 rfl rfl ?_
        refine mn_get okMo 4 lMo_20 (by decide) hM rfl dMo_ofPiece_79 ?_
        refine mn_iload 6 dMo_ofPiece_82 rfl ?_
        refine mn_ialdN (j := k) hBg rfl (by omega) (by omega) dMo_ofPiece_84 ?_
        refine mn_iload_n 3 dMo_ofPiece_85 rfl rfl ?_
        refine mn_iload_n 3 dMo_ofPiece_86 rfl rfl ?_
        refine mn_iload 5 dMo_ofPiece_87 rfl ?_
        refine mn_iadd (z := nI (n * (sz - 12) + mn)) dMo_ofPiece_89 (nI_add (n * (sz - 12)) mn) ?_
        refine mn_iconst (v := 1) dMo_ofPiece_90 (by decide) ?_
        refine mn_isub (z := nI (n * (sz - 12) + mn - 1)) dMo_ofPiece_91 (pk_sub (a := n * (sz - 12) + mn) (b := 1) (by omega)) ?_
        refine mn_cS (d' := 0) (w' := 0) (As := [.int (nI (bg k)), .int (nI (n * (sz - 12))), .int (nI (n * (sz - 12) + mn - 1))]) (stk' := [.int 0]) okMo_in lMo_68 dMo_ofPiece_92 rfl rfl (Nat.le_of_ble_eq_true rfl) (Nat.le_of_ble_eq_true rfl) (by decide) (c_M_in_n (by rcases Nat.lt_or_ge (bg k) (n * (sz - 12)) with q | q; exact Or.inl ((nI_ltI (by omega) (by omega)).mpr q); exact Or.inr ((nI_ltI (a := n * (sz - 12) + mn - 1) (by omega) (by omega)).mpr (by omega)))) rfl ?_
        refine mn_if_eq 108 dMo_ofPiece_95 (by decide) (fun c3 => ?_) (fun c3 => ?_)
        · refine mn_iinc (v := nI (k + 1)) (ls' := [(0, .ref mo), (1, .int (nI n)), (2, .int (-2)), (3, .int (nI (n * (sz - 12)))), (4, .int (nI lf)), (5, .int (nI mn)), (6, .int (nI (k + 1)))]) 6 dMo_ofPiece_108 rfl (nI_add k 1) (by decide) rfl ?_
          refine mn_goto 69 dMo_ofPiece_111 (by decide) ?_
          refine mn_R.post (Q' := mn_is (some (.int (nI (siK bg e (n * (sz - 12)) (sz - 12) (e - (k + 1)))))) g) (ih (k + 1) (by omega) (by omega)) (fun v g' hq => ⟨?_, hq.2⟩)
          rw [hq.1, show e - k = (e - (k + 1)) + 1 by omega, siK, show e - (e - (k + 1) + 1) = k by omega, if_neg hin]
        · exact absurd c3 (by decide)
set_option maxRecDepth 100000 in
theorem c_M_ofPiece7 {E : mn_En} {g : mn_H} {mo tl e sz rp st m r wd ag td om : Nat} {ir : Int32} {sm bg : Nat → Nat} (hM : mn_at g mo (.inr (11, [.int 0, .ref (mo + 1), .int (nI tl), .ref (mo + 2), .ref (mo + 3), .int (nI e), .int (nI sz), .int (nI rp), .int (nI st), .ref (mo + 4), .ref (mo + 5), .ref (mo + 6), .int ir, .int (nI m), .int (nI r), .int (nI wd), .int (nI ag), .ref (mo + 7), .ref (mo + 8), .ref (mo + 9), .ref (mo + 10), .int (nI td), .int (nI om), .ref (mo + 11), .ref (mo + 12), .ref (mo + 13), .ref (mo + 14), .ref (mo + 15), .ref (mo + 16)]))) (hSm : mn_at g (mo + 2) (.inl (0, 1260, .inl (fun j => nI (sm j))))) (hBg : mn_at g (mo + 3) (.inl (0, 21, .inl (fun j => nI (bg j))))) (he : e ≤ 20) (hsz : 20 ≤ sz) (hsz2 : sz ≤ 80) (hlen : bg e ≤ 1260) (hbl : ∀ k, k < e → bg k < bg e) (hsm : ∀ j, sm j < 256) {n : Nat} (hn : n < pcN (bg e) (sz - 12)) : mn_R E MMo_ofPiece 1 22 0 0 0 [(0, .ref mo), (1, .int (nI n)), (2, .int (-2))] [] g (mn_is (some (.int (nI (ptN (zb sm (bg e)) (LnS (bg e) (sz - 12)) (SnS bg e (sz - 12)) (sz - 12) n 7)))) g) := by
  have hnw := pcN_le (len := bg e) (u := sz - 12) (by omega) hn
  refine mn_iload_n 1 dMo_ofPiece_0 rfl rfl ?_
  refine mn_aload_n 0 dMo_ofPiece_1 rfl rfl ?_
  refine mn_cV (d' := 0) (w' := 0) (As := []) (stk' := [.int (nI (sz - 12)), .int (nI n)]) okMo_piece lMo_94 dMo_ofPiece_2 hM rfl rfl rfl rfl (Nat.le_of_ble_eq_true rfl) (Nat.le_of_ble_eq_true rfl) (by decide) (c_M_piece hM hsz) rfl ?_
  refine mn_imul (z := nI (n * (sz - 12))) dMo_ofPiece_5 (pk_mul n (sz - 12)) ?_
  refine mn_istore_n (ls' := [(0, .ref mo), (1, .int (nI n)), (2, .int (-2)), (3, .int (nI (n * (sz - 12))))]) dMo_ofPiece_6 rfl (by decide) rfl ?_
  refine mn_aload_n 0 dMo_ofPiece_7 rfl rfl ?_
  refine mn_cV (d' := 0) (w' := 0) (As := []) (stk' := [.int (nI (bg e))]) okMo_length lMo_90 dMo_ofPiece_8 hM rfl rfl rfl rfl (Nat.le_of_ble_eq_true rfl) (Nat.le_of_ble_eq_true rfl) (by decide) (c_M_length hM hBg he) rfl ?_
  refine mn_iload_n 3 dMo_ofPiece_11 rfl rfl ?_
  refine mn_isub (z := nI ((bg e) - (n * (sz - 12)))) dMo_ofPiece_12 (pk_sub (a := bg e) (b := n * (sz - 12)) (by omega)) ?_
  refine mn_istore (ls' := [(0, .ref mo), (1, .int (nI n)), (2, .int (-2)), (3, .int (nI (n * (sz - 12)))), (4, .int (nI ((bg e) - (n * (sz - 12)))))]) dMo_ofPiece_13 (by decide) rfl ?_
  refine mn_iload 4 dMo_ofPiece_15 rfl ?_
  refine mn_aload_n 0 dMo_ofPiece_17 rfl rfl ?_
  refine mn_cV (d' := 0) (w' := 0) (As := []) (stk' := [.int (nI (sz - 12)), .int (nI ((bg e) - (n * (sz - 12))))]) okMo_piece lMo_94 dMo_ofPiece_18 hM rfl rfl rfl rfl (Nat.le_of_ble_eq_true rfl) (Nat.le_of_ble_eq_true rfl) (by decide) (c_M_piece hM hsz) rfl ?_
  refine mn_icmp_ge 29 dMo_ofPiece_21 (by decide) (fun c1 => ?_) (fun c1 => ?_)
  · have c1 := (nI_leI (a := (sz - 12)) (b := ((bg e) - (n * (sz - 12)))) (by omega) (by omega)).mp c1
    refine mn_aload_n 0 dMo_ofPiece_29 rfl rfl ?_
    refine mn_cV (d' := 0) (w' := 0) (As := []) (stk' := [.int (nI (sz - 12))]) okMo_piece lMo_94 dMo_ofPiece_30 hM rfl rfl rfl rfl (Nat.le_of_ble_eq_true rfl) (Nat.le_of_ble_eq_true rfl) (by decide) (c_M_piece hM hsz) rfl ?_
    refine mn_istore (ls' := [(0, .ref mo), (1, .int (nI n)), (2, .int (-2)), (3, .int (nI (n * (sz - 12)))), (4, .int (nI ((bg e) - (n * (sz - 12))))), (5, .int (nI (sz - 12)))]) dMo_ofPiece_33 (by decide) rfl ?_
    refine mn_iload_n 2 dMo_ofPiece_35 rfl rfl ?_
    refine mn_if_lt 58 dMo_ofPiece_36 (by decide) (fun c2 => ?_) (fun c2 => ?_)
    · refine mn_iload_n 2 dMo_ofPiece_58 rfl rfl ?_
      refine mn_iconst (v := -1) dMo_ofPiece_59 (by decide) ?_
      refine mn_icmp_ne 66 dMo_ofPiece_60 (by decide) (fun c3 => ?_) (fun c3 => ?_)
      · refine mn_iconst (v := 0) dMo_ofPiece_66 (by decide) ?_
        refine mn_istore (ls' := [(0, .ref mo), (1, .int (nI n)), (2, .int (-2)), (3, .int (nI (n * (sz - 12)))), (4, .int (nI ((bg e) - (n * (sz - 12))))), (5, .int (nI (sz - 12))), (6, .int 0)]) dMo_ofPiece_67 (by decide) rfl ?_
        exact c_M_ofP7_l hM hSm hBg he hsz hsz2 hlen hbl hsm hn hnw (by rw [Nat.min_def]; split <;> omega) (e + 1) 0 (by omega) (by omega)
      · exact absurd c3 (by decide)
    · exact absurd c2 (by decide)
  · have c1 := mt (nI_leI (a := (sz - 12)) (b := ((bg e) - (n * (sz - 12)))) (by omega) (by omega)).mpr c1
    refine mn_iload 4 dMo_ofPiece_24 rfl ?_
    refine mn_goto 33 dMo_ofPiece_26 (by decide) ?_
    refine mn_istore (ls' := [(0, .ref mo), (1, .int (nI n)), (2, .int (-2)), (3, .int (nI (n * (sz - 12)))), (4, .int (nI ((bg e) - (n * (sz - 12))))), (5, .int (nI ((bg e) - (n * (sz - 12)))))]) dMo_ofPiece_33 (by decide) rfl ?_
    refine mn_iload_n 2 dMo_ofPiece_35 rfl rfl ?_
    refine mn_if_lt 58 dMo_ofPiece_36 (by decide) (fun c4 => ?_) (fun c4 => ?_)
    · refine mn_iload_n 2 dMo_ofPiece_58 rfl rfl ?_
      refine mn_iconst (v := -1) dMo_ofPiece_59 (by decide) ?_
      refine mn_icmp_ne 66 dMo_ofPiece_60 (by decide) (fun c5 => ?_) (fun c5 => ?_)
      · refine mn_iconst (v := 0) dMo_ofPiece_66 (by decide) ?_
        refine mn_istore (ls' := [(0, .ref mo), (1, .int (nI n)), (2, .int (-2)), (3, .int (nI (n * (sz - 12)))), (4, .int (nI ((bg e) - (n * (sz - 12))))), (5, .int (nI ((bg e) - (n * (sz - 12))))), (6, .int 0)]) dMo_ofPiece_67 (by decide) rfl ?_
        exact c_M_ofP7_l hM hSm hBg he hsz hsz2 hlen hbl hsm hn hnw (by rw [Nat.min_def]; split <;> omega) (e + 1) 0 (by omega) (by omega)
      · exact absurd c5 (by decide)
    · exact absurd c4 (by decide)
set_option maxRecDepth 100000 in
theorem c_M_ofV_l {E : mn_En} {g : mn_H} {mo tl e sz rp st m r wd ag td om : Nat} {ir : Int32} {sm bg : Nat → Nat} (hM : mn_at g mo (.inr (11, [.int 0, .ref (mo + 1), .int (nI tl), .ref (mo + 2), .ref (mo + 3), .int (nI e), .int (nI sz), .int (nI rp), .int (nI st), .ref (mo + 4), .ref (mo + 5), .ref (mo + 6), .int ir, .int (nI m), .int (nI r), .int (nI wd), .int (nI ag), .ref (mo + 7), .ref (mo + 8), .ref (mo + 9), .ref (mo + 10), .int (nI td), .int (nI om), .ref (mo + 11), .ref (mo + 12), .ref (mo + 13), .ref (mo + 14), .ref (mo + 15), .ref (mo + 16)]))) (hSm : mn_at g (mo + 2) (.inl (0, 1260, .inl (fun j => nI (sm j))))) (hBg : mn_at g (mo + 3) (.inl (0, 21, .inl (fun j => nI (bg j))))) (he : e ≤ 20) (hsz : 20 ≤ sz) (hsz2 : sz ≤ 80) (hlen : bg e ≤ 1260) (hbl : ∀ k, k < e → bg k < bg e) (hsm : ∀ j, sm j < 256) {jj n : Nat} (hjj : jj < 10) {i : Nat} (hi : i < sz - 12) (hm : pcN (bg e) (sz - 12) < 100000) : ∀ (fu k : Nat), k ≤ pcN (bg e) (sz - 12) → pcN (bg e) (sz - 12) - k < fu → mn_R E MMo_ofVolume 2 48 0 0 34 [(0, .ref mo), (1, .int (nI n)), (2, .int (nI i)), (3, .int (nI (pcN (bg e) (sz - 12)))), (4, .int (nI (xK (fun k => ptN (zb sm (bg e)) (LnS (bg e) (sz - 12)) (SnS bg e (sz - 12)) (sz - 12) k (12 + i)) jj k))), (5, .int (nI (twsN 1 (jj * k)))), (6, .int (nI (twsN 1 jj))), (7, .int (nI k))] [] g (mn_is (some (.int (nI (horN (fun k => ptN (zb sm (bg e)) (LnS (bg e) (sz - 12)) (SnS bg e (sz - 12)) (sz - 12) k (12 + i)) jj (pcN (bg e) (sz - 12)) (pcN (bg e) (sz - 12)))))) g) := by
  intro fu
  induction fu with
  | zero => intro k h1 h2; exact absurd h2 (by omega)
  | succ fu ih =>
    intro k h1 h2
    refine mn_iload 7 dMo_ofVolume_34 rfl ?_
    refine mn_iload_n 3 dMo_ofVolume_36 rfl rfl ?_
    refine mn_icmp_ge 72 dMo_ofVolume_37 (by decide) (fun c1 => ?_) (fun c1 => ?_)
    · have c1 := (nI_leI (a := (pcN (bg e) (sz - 12))) (b := k) (by omega) (by omega)).mp c1
      refine mn_iload 4 dMo_ofVolume_72 rfl ?_
      exact mn_iret rfl dMo_ofVolume_74 ⟨by rw [show k = pcN (bg e) (sz - 12) by omega, mix_eq (fun n => ptN_lt (zb_lt hsm _) (LnS_lt (by omega)) (SnS_lt (by omega)) _ _ _)], rfl⟩
    · have c1 := mt (nI_leI (a := (pcN (bg e) (sz - 12))) (b := k) (by omega) (by omega)).mpr c1
      refine mn_iload 4 dMo_ofVolume_40 rfl ?_
      refine mn_iload 5 dMo_ofVolume_42 rfl ?_
      refine mn_aload_n 0 dMo_ofVolume_44 rfl rfl ?_
      refine mn_iload 7 dMo_ofVolume_45 rfl ?_
      refine mn_iload_n 2 dMo_ofVolume_47 rfl rfl ?_
      refine mn_cV (d' := 1) (w' := 22) (As := [.int (nI k), .int (nI i)]) (stk' := [.int (nI (ptN (zb sm (bg e)) (LnS (bg e) (sz - 12)) (SnS bg e (sz - 12)) (sz - 12) k (12 + i))), .int (nI (twsN 1 (jj * k))), .int (nI (xK (fun k => ptN (zb sm (bg e)) (LnS (bg e) (sz - 12)) (SnS bg e (sz - 12)) (sz - 12) k (12 + i)) jj k))]) okMo_ofPiece lMo_103 dMo_ofVolume_48 hM rfl rfl rfl rfl (Nat.le_of_ble_eq_true rfl) (Nat.le_of_ble_eq_true rfl) (by decide) (c_M_ofPiece hM hSm hBg he hsz hsz2 hlen hbl hsm (n := k) (i := i) (by omega) (by omega)) rfl ?_
      refine mn_cS (d' := 0) (w' := 0) (As := [.int (nI (twsN 1 (jj * k))), .int (nI (ptN (zb sm (bg e)) (LnS (bg e) (sz - 12)) (SnS bg e (sz - 12)) (sz - 12) k (12 + i)))]) (stk' := [.int (nI (pdN (twsN 1 (jj * k)) (ptN (zb sm (bg e)) (LnS (bg e) (sz - 12)) (SnS bg e (sz - 12)) (sz - 12) k (12 + i)))), .int (nI (xK (fun k => ptN (zb sm (bg e)) (LnS (bg e) (sz - 12)) (SnS bg e (sz - 12)) (sz - 12) k (12 + i)) jj k))]) okMo_times lMo_100 dMo_ofVolume_51 rfl rfl (Nat.le_of_ble_eq_true rfl) (Nat.le_of_ble_eq_true rfl) (by decide) (c_M_times (a := twsN 1 (jj * k)) (b := ptN (zb sm (bg e)) (LnS (bg e) (sz - 12)) (SnS bg e (sz - 12)) (sz - 12) k (12 + i)) (tws_lt (by decide) _) (ptN_lt (zb_lt hsm _) (LnS_lt (by omega)) (SnS_lt (by omega)) _ _ _)) rfl ?_
      refine mn_ixor (z := nI ((xK (fun k => ptN (zb sm (bg e)) (LnS (bg e) (sz - 12)) (SnS bg e (sz - 12)) (sz - 12) k (12 + i)) jj k) ^^^ (pdN (twsN 1 (jj * k)) (ptN (zb sm (bg e)) (LnS (bg e) (sz - 12)) (SnS bg e (sz - 12)) (sz - 12) k (12 + i))))) dMo_ofVolume_54 (nx_xor (xK (fun k => ptN (zb sm (bg e)) (LnS (bg e) (sz - 12)) (SnS bg e (sz - 12)) (sz - 12) k (12 + i)) jj k) (pdN (twsN 1 (jj * k)) (ptN (zb sm (bg e)) (LnS (bg e) (sz - 12)) (SnS bg e (sz - 12)) (sz - 12) k (12 + i)))) ?_
      refine mn_istore (ls' := [(0, .ref mo), (1, .int (nI n)), (2, .int (nI i)), (3, .int (nI (pcN (bg e) (sz - 12)))), (4, .int (nI ((xK (fun k => ptN (zb sm (bg e)) (LnS (bg e) (sz - 12)) (SnS bg e (sz - 12)) (sz - 12) k (12 + i)) jj k) ^^^ (pdN (twsN 1 (jj * k)) (ptN (zb sm (bg e)) (LnS (bg e) (sz - 12)) (SnS bg e (sz - 12)) (sz - 12) k (12 + i)))))), (5, .int (nI (twsN 1 (jj * k)))), (6, .int (nI (twsN 1 jj))), (7, .int (nI k))]) dMo_ofVolume_55 (by decide) rfl ?_
      refine mn_iload 5 dMo_ofVolume_57 rfl ?_
      refine mn_iload 6 dMo_ofVolume_59 rfl ?_
      refine mn_cS (d' := 0) (w' := 0) (As := [.int (nI (twsN 1 (jj * k))), .int (nI (twsN 1 jj))]) (stk' := [.int (nI (pdN (twsN 1 (jj * k)) (twsN 1 jj)))]) okMo_times lMo_100 dMo_ofVolume_61 rfl rfl (Nat.le_of_ble_eq_true rfl) (Nat.le_of_ble_eq_true rfl) (by decide) (c_M_times (a := twsN 1 (jj * k)) (b := twsN 1 jj) (tws_lt (by decide) _) (tws_lt (by decide) _)) rfl ?_
      refine mn_istore (ls' := [(0, .ref mo), (1, .int (nI n)), (2, .int (nI i)), (3, .int (nI (pcN (bg e) (sz - 12)))), (4, .int (nI ((xK (fun k => ptN (zb sm (bg e)) (LnS (bg e) (sz - 12)) (SnS bg e (sz - 12)) (sz - 12) k (12 + i)) jj k) ^^^ (pdN (twsN 1 (jj * k)) (ptN (zb sm (bg e)) (LnS (bg e) (sz - 12)) (SnS bg e (sz - 12)) (sz - 12) k (12 + i)))))), (5, .int (nI (pdN (twsN 1 (jj * k)) (twsN 1 jj)))), (6, .int (nI (twsN 1 jj))), (7, .int (nI k))]) dMo_ofVolume_64 (by decide) rfl ?_
      refine mn_iinc (v := nI (k + 1)) (ls' := [(0, .ref mo), (1, .int (nI n)), (2, .int (nI i)), (3, .int (nI (pcN (bg e) (sz - 12)))), (4, .int (nI ((xK (fun k => ptN (zb sm (bg e)) (LnS (bg e) (sz - 12)) (SnS bg e (sz - 12)) (sz - 12) k (12 + i)) jj k) ^^^ (pdN (twsN 1 (jj * k)) (ptN (zb sm (bg e)) (LnS (bg e) (sz - 12)) (SnS bg e (sz - 12)) (sz - 12) k (12 + i)))))), (5, .int (nI (pdN (twsN 1 (jj * k)) (twsN 1 jj)))), (6, .int (nI (twsN 1 jj))), (7, .int (nI (k + 1)))]) 7 dMo_ofVolume_66 rfl (nI_add k 1) (by decide) rfl ?_
      refine mn_goto 34 dMo_ofVolume_69 (by decide) ?_
      rw [show pdN (twsN 1 (jj * k)) (twsN 1 jj) = twsN 1 (jj * (k + 1)) by rw [pd_pw (tws_lt (by decide) _), ← tws_add, Nat.mul_succ]]
      exact ih (k + 1) (by omega) (by omega)
set_option maxRecDepth 100000 in
theorem c_M_ofVolume {E : mn_En} {g : mn_H} {mo tl e sz rp st m r wd ag td om : Nat} {ir : Int32} {sm bg : Nat → Nat} (hM : mn_at g mo (.inr (11, [.int 0, .ref (mo + 1), .int (nI tl), .ref (mo + 2), .ref (mo + 3), .int (nI e), .int (nI sz), .int (nI rp), .int (nI st), .ref (mo + 4), .ref (mo + 5), .ref (mo + 6), .int ir, .int (nI m), .int (nI r), .int (nI wd), .int (nI ag), .ref (mo + 7), .ref (mo + 8), .ref (mo + 9), .ref (mo + 10), .int (nI td), .int (nI om), .ref (mo + 11), .ref (mo + 12), .ref (mo + 13), .ref (mo + 14), .ref (mo + 15), .ref (mo + 16)]))) (hSm : mn_at g (mo + 2) (.inl (0, 1260, .inl (fun j => nI (sm j))))) (hBg : mn_at g (mo + 3) (.inl (0, 21, .inl (fun j => nI (bg j))))) (he : e ≤ 20) (hsz : 20 ≤ sz) (hsz2 : sz ≤ 80) (hlen : bg e ≤ 1260) (hbl : ∀ k, k < e → bg k < bg e) (hsm : ∀ j, sm j < 256) {n : Nat} (hn3 : n < pcN (bg e) (sz - 12) + 3) {i : Nat} (hi : i < sz - 12) : mn_R E MMo_ofVolume 2 48 0 0 0 [(0, .ref mo), (1, .int (nI n)), (2, .int (nI i))] [] g (mn_is (some (.int (nI (mkV (zb sm (bg e)) (LnS (bg e) (sz - 12)) (SnS bg e (sz - 12)) (sz - 12) (pcN (bg e) (sz - 12)) n (12 + i))))) g) := by
  have hpc : pcN (bg e) (sz - 12) < 100000 := by unfold pcN; have := Nat.div_le_self (bg e + (sz - 12) - 1) (sz - 12); rw [Nat.max_def]; split <;> omega
  refine mn_aload_n 0 dMo_ofVolume_0 rfl rfl ?_
  refine mn_cV (d' := 1) (w' := 20) (As := []) (stk' := [.int (nI (pcN (bg e) (sz - 12)))]) okMo_pieces lMo_97 dMo_ofVolume_1 hM rfl rfl rfl rfl (Nat.le_of_ble_eq_true rfl) (Nat.le_of_ble_eq_true rfl) (by decide) (c_M_pieces hM hBg he hsz hsz2 hlen) rfl ?_
  refine mn_istore_n (ls' := [(0, .ref mo), (1, .int (nI n)), (2, .int (nI i)), (3, .int (nI (pcN (bg e) (sz - 12))))]) dMo_ofVolume_4 rfl (by decide) rfl ?_
  refine mn_iload_n 1 dMo_ofVolume_5 rfl rfl ?_
  refine mn_iload_n 3 dMo_ofVolume_6 rfl rfl ?_
  refine mn_icmp_ge 17 dMo_ofVolume_7 (by decide) (fun c1 => ?_) (fun c1 => ?_)
  · have c1 := (nI_leI (a := (pcN (bg e) (sz - 12))) (b := n) (by omega) (by omega)).mp c1
    refine mn_iconst (v := 0) dMo_ofVolume_17 (by decide) ?_
    refine mn_istore (ls' := [(0, .ref mo), (1, .int (nI n)), (2, .int (nI i)), (3, .int (nI (pcN (bg e) (sz - 12)))), (4, .int 0)]) dMo_ofVolume_18 (by decide) rfl ?_
    refine mn_iconst (v := 1) dMo_ofVolume_20 (by decide) ?_
    refine mn_istore (ls' := [(0, .ref mo), (1, .int (nI n)), (2, .int (nI i)), (3, .int (nI (pcN (bg e) (sz - 12)))), (4, .int 0), (5, .int 1)]) dMo_ofVolume_21 (by decide) rfl ?_
    refine mn_iload_n 1 dMo_ofVolume_23 rfl rfl ?_
    refine mn_iload_n 3 dMo_ofVolume_24 rfl rfl ?_
    refine mn_isub (z := nI (n - (pcN (bg e) (sz - 12)))) dMo_ofVolume_25 (pk_sub (a := n) (b := pcN (bg e) (sz - 12)) (by omega)) ?_
    refine mn_cS (d' := 1) (w' := 24) (As := [.int (nI (n - (pcN (bg e) (sz - 12))))]) (stk' := [.int (nI (twsN 1 (n - (pcN (bg e) (sz - 12)))))]) okMo_power lMo_106 dMo_ofVolume_26 rfl rfl (Nat.le_of_ble_eq_true rfl) (Nat.le_of_ble_eq_true rfl) (by decide) (c_M_power (n := n - (pcN (bg e) (sz - 12))) (by omega)) rfl ?_
    refine mn_istore (ls' := [(0, .ref mo), (1, .int (nI n)), (2, .int (nI i)), (3, .int (nI (pcN (bg e) (sz - 12)))), (4, .int 0), (5, .int 1), (6, .int (nI (twsN 1 (n - (pcN (bg e) (sz - 12))))))]) dMo_ofVolume_29 (by decide) rfl ?_
    refine mn_iconst (v := 0) dMo_ofVolume_31 (by decide) ?_
    refine mn_istore (ls' := [(0, .ref mo), (1, .int (nI n)), (2, .int (nI i)), (3, .int (nI (pcN (bg e) (sz - 12)))), (4, .int 0), (5, .int 1), (6, .int (nI (twsN 1 (n - (pcN (bg e) (sz - 12)))))), (7, .int 0)]) dMo_ofVolume_32 (by decide) rfl ?_
    refine mn_R.post (c_M_ofV_l hM hSm hBg he hsz hsz2 hlen hbl hsm (jj := n - pcN (bg e) (sz - 12)) (by omega) hi hpc (pcN (bg e) (sz - 12) + 1) 0 (by omega) (by omega)) (fun x g' hq => ⟨?_, hq.2⟩)
    unfold mkV
    rw [if_neg (by omega)]
    exact hq.1
  · have c1 := mt (nI_leI (a := (pcN (bg e) (sz - 12))) (b := n) (by omega) (by omega)).mpr c1
    refine mn_aload_n 0 dMo_ofVolume_10 rfl rfl ?_
    refine mn_iload_n 1 dMo_ofVolume_11 rfl rfl ?_
    refine mn_iload_n 2 dMo_ofVolume_12 rfl rfl ?_
    refine mn_cV (d' := 1) (w' := 22) (As := [.int (nI n), .int (nI i)]) (stk' := [.int (nI (ptN (zb sm (bg e)) (LnS (bg e) (sz - 12)) (SnS bg e (sz - 12)) (sz - 12) n (12 + i)))]) okMo_ofPiece lMo_103 dMo_ofVolume_13 hM rfl rfl rfl rfl (Nat.le_of_ble_eq_true rfl) (Nat.le_of_ble_eq_true rfl) (by decide) (c_M_ofPiece hM hSm hBg he hsz hsz2 hlen hbl hsm (n := n) (i := i) (by omega) (by omega)) rfl ?_
    exact mn_iret rfl dMo_ofVolume_16 ⟨by unfold mkV; rw [if_pos (by omega)], rfl⟩
set_option maxRecDepth 100000 in
theorem c_M_ofV6_l {E : mn_En} {g : mn_H} {mo tl e sz rp st m r wd ag td om : Nat} {ir : Int32} {sm bg : Nat → Nat} (hM : mn_at g mo (.inr (11, [.int 0, .ref (mo + 1), .int (nI tl), .ref (mo + 2), .ref (mo + 3), .int (nI e), .int (nI sz), .int (nI rp), .int (nI st), .ref (mo + 4), .ref (mo + 5), .ref (mo + 6), .int ir, .int (nI m), .int (nI r), .int (nI wd), .int (nI ag), .ref (mo + 7), .ref (mo + 8), .ref (mo + 9), .ref (mo + 10), .int (nI td), .int (nI om), .ref (mo + 11), .ref (mo + 12), .ref (mo + 13), .ref (mo + 14), .ref (mo + 15), .ref (mo + 16)]))) (hSm : mn_at g (mo + 2) (.inl (0, 1260, .inl (fun j => nI (sm j))))) (hBg : mn_at g (mo + 3) (.inl (0, 21, .inl (fun j => nI (bg j))))) (he : e ≤ 20) (hsz : 20 ≤ sz) (hsz2 : sz ≤ 80) (hlen : bg e ≤ 1260) (hbl : ∀ k, k < e → bg k < bg e) (hsm : ∀ j, sm j < 256) {jj n : Nat} (hjj : jj < 10) (hm : pcN (bg e) (sz - 12) < 100000) : ∀ (fu k : Nat), k ≤ pcN (bg e) (sz - 12) → pcN (bg e) (sz - 12) - k < fu → mn_R E MMo_ofVolume 2 48 0 0 34 [(0, .ref mo), (1, .int (nI n)), (2, .int (-1)), (3, .int (nI (pcN (bg e) (sz - 12)))), (4, .int (nI (xK (fun k => ptN (zb sm (bg e)) (LnS (bg e) (sz - 12)) (SnS bg e (sz - 12)) (sz - 12) k 6) jj k))), (5, .int (nI (twsN 1 (jj * k)))), (6, .int (nI (twsN 1 jj))), (7, .int (nI k))] [] g (mn_is (some (.int (nI (horN (fun k => ptN (zb sm (bg e)) (LnS (bg e) (sz - 12)) (SnS bg e (sz - 12)) (sz - 12) k 6) jj (pcN (bg e) (sz - 12)) (pcN (bg e) (sz - 12)))))) g) := by
  intro fu
  induction fu with
  | zero => intro k h1 h2; exact absurd h2 (by omega)
  | succ fu ih =>
    intro k h1 h2
    refine mn_iload 7 dMo_ofVolume_34 rfl ?_
    refine mn_iload_n 3 dMo_ofVolume_36 rfl rfl ?_
    refine mn_icmp_ge 72 dMo_ofVolume_37 (by decide) (fun c1 => ?_) (fun c1 => ?_)
    · have c1 := (nI_leI (a := (pcN (bg e) (sz - 12))) (b := k) (by omega) (by omega)).mp c1
      refine mn_iload 4 dMo_ofVolume_72 rfl ?_
      exact mn_iret rfl dMo_ofVolume_74 ⟨by rw [show k = pcN (bg e) (sz - 12) by omega, mix_eq (fun n => ptN_lt (zb_lt hsm _) (LnS_lt (by omega)) (SnS_lt (by omega)) _ _ _)], rfl⟩
    · have c1 := mt (nI_leI (a := (pcN (bg e) (sz - 12))) (b := k) (by omega) (by omega)).mpr c1
      refine mn_iload 4 dMo_ofVolume_40 rfl ?_
      refine mn_iload 5 dMo_ofVolume_42 rfl ?_
      refine mn_aload_n 0 dMo_ofVolume_44 rfl rfl ?_
      refine mn_iload 7 dMo_ofVolume_45 rfl ?_
      refine mn_iload_n 2 dMo_ofVolume_47 rfl rfl ?_
      refine mn_cV (d' := 1) (w' := 22) (As := [.int (nI k), .int (-1)]) (stk' := [.int (nI (ptN (zb sm (bg e)) (LnS (bg e) (sz - 12)) (SnS bg e (sz - 12)) (sz - 12) k 6)), .int (nI (twsN 1 (jj * k))), .int (nI (xK (fun k => ptN (zb sm (bg e)) (LnS (bg e) (sz - 12)) (SnS bg e (sz - 12)) (sz - 12) k 6) jj k))]) okMo_ofPiece lMo_103 dMo_ofVolume_48 hM rfl rfl rfl rfl (Nat.le_of_ble_eq_true rfl) (Nat.le_of_ble_eq_true rfl) (by decide) (c_M_ofPiece6 hM hSm hBg he hsz hsz2 hlen hbl hsm (n := k) (by omega)) rfl ?_
      refine mn_cS (d' := 0) (w' := 0) (As := [.int (nI (twsN 1 (jj * k))), .int (nI (ptN (zb sm (bg e)) (LnS (bg e) (sz - 12)) (SnS bg e (sz - 12)) (sz - 12) k 6))]) (stk' := [.int (nI (pdN (twsN 1 (jj * k)) (ptN (zb sm (bg e)) (LnS (bg e) (sz - 12)) (SnS bg e (sz - 12)) (sz - 12) k 6))), .int (nI (xK (fun k => ptN (zb sm (bg e)) (LnS (bg e) (sz - 12)) (SnS bg e (sz - 12)) (sz - 12) k 6) jj k))]) okMo_times lMo_100 dMo_ofVolume_51 rfl rfl (Nat.le_of_ble_eq_true rfl) (Nat.le_of_ble_eq_true rfl) (by decide) (c_M_times (a := twsN 1 (jj * k)) (b := ptN (zb sm (bg e)) (LnS (bg e) (sz - 12)) (SnS bg e (sz - 12)) (sz - 12) k 6) (tws_lt (by decide) _) (ptN_lt (zb_lt hsm _) (LnS_lt (by omega)) (SnS_lt (by omega)) _ _ _)) rfl ?_
      refine mn_ixor (z := nI ((xK (fun k => ptN (zb sm (bg e)) (LnS (bg e) (sz - 12)) (SnS bg e (sz - 12)) (sz - 12) k 6) jj k) ^^^ (pdN (twsN 1 (jj * k)) (ptN (zb sm (bg e)) (LnS (bg e) (sz - 12)) (SnS bg e (sz - 12)) (sz - 12) k 6)))) dMo_ofVolume_54 (nx_xor (xK (fun k => ptN (zb sm (bg e)) (LnS (bg e) (sz - 12)) (SnS bg e (sz - 12)) (sz - 12) k 6) jj k) (pdN (twsN 1 (jj * k)) (ptN (zb sm (bg e)) (LnS (bg e) (sz - 12)) (SnS bg e (sz - 12)) (sz - 12) k 6))) ?_
      refine mn_istore (ls' := [(0, .ref mo), (1, .int (nI n)), (2, .int (-1)), (3, .int (nI (pcN (bg e) (sz - 12)))), (4, .int (nI ((xK (fun k => ptN (zb sm (bg e)) (LnS (bg e) (sz - 12)) (SnS bg e (sz - 12)) (sz - 12) k 6) jj k) ^^^ (pdN (twsN 1 (jj * k)) (ptN (zb sm (bg e)) (LnS (bg e) (sz - 12)) (SnS bg e (sz - 12)) (sz - 12) k 6))))), (5, .int (nI (twsN 1 (jj * k)))), (6, .int (nI (twsN 1 jj))), (7, .int (nI k))]) dMo_ofVolume_55 (by decide) rfl ?_
      refine mn_iload 5 dMo_ofVolume_57 rfl ?_
      refine mn_iload 6 dMo_ofVolume_59 rfl ?_
      refine mn_cS (d' := 0) (w' := 0) (As := [.int (nI (twsN 1 (jj * k))), .int (nI (twsN 1 jj))]) (stk' := [.int (nI (pdN (twsN 1 (jj * k)) (twsN 1 jj)))]) okMo_times lMo_100 dMo_ofVolume_61 rfl rfl (Nat.le_of_ble_eq_true rfl) (Nat.le_of_ble_eq_true rfl) (by decide) (c_M_times (a := twsN 1 (jj * k)) (b := twsN 1 jj) (tws_lt (by decide) _) (tws_lt (by decide) _)) rfl ?_
      refine mn_istore (ls' := [(0, .ref mo), (1, .int (nI n)), (2, .int (-1)), (3, .int (nI (pcN (bg e) (sz - 12)))), (4, .int (nI ((xK (fun k => ptN (zb sm (bg e)) (LnS (bg e) (sz - 12)) (SnS bg e (sz - 12)) (sz - 12) k 6) jj k) ^^^ (pdN (twsN 1 (jj * k)) (ptN (zb sm (bg e)) (LnS (bg e) (sz - 12)) (SnS bg e (sz - 12)) (sz - 12) k 6))))), (5, .int (nI (pdN (twsN 1 (jj * k)) (twsN 1 jj)))), (6, .int (nI (twsN 1 jj))), (7, .int (nI k))]) dMo_ofVolume_64 (by decide) rfl ?_
      refine mn_iinc (v := nI (k + 1)) (ls' := [(0, .ref mo), (1, .int (nI n)), (2, .int (-1)), (3, .int (nI (pcN (bg e) (sz - 12)))), (4, .int (nI ((xK (fun k => ptN (zb sm (bg e)) (LnS (bg e) (sz - 12)) (SnS bg e (sz - 12)) (sz - 12) k 6) jj k) ^^^ (pdN (twsN 1 (jj * k)) (ptN (zb sm (bg e)) (LnS (bg e) (sz - 12)) (SnS bg e (sz - 12)) (sz - 12) k 6))))), (5, .int (nI (pdN (twsN 1 (jj * k)) (twsN 1 jj)))), (6, .int (nI (twsN 1 jj))), (7, .int (nI (k + 1)))]) 7 dMo_ofVolume_66 rfl (nI_add k 1) (by decide) rfl ?_
      refine mn_goto 34 dMo_ofVolume_69 (by decide) ?_
      rw [show pdN (twsN 1 (jj * k)) (twsN 1 jj) = twsN 1 (jj * (k + 1)) by rw [pd_pw (tws_lt (by decide) _), ← tws_add, Nat.mul_succ]]
      exact ih (k + 1) (by omega) (by omega)
set_option maxRecDepth 100000 in
theorem c_M_ofVolume6 {E : mn_En} {g : mn_H} {mo tl e sz rp st m r wd ag td om : Nat} {ir : Int32} {sm bg : Nat → Nat} (hM : mn_at g mo (.inr (11, [.int 0, .ref (mo + 1), .int (nI tl), .ref (mo + 2), .ref (mo + 3), .int (nI e), .int (nI sz), .int (nI rp), .int (nI st), .ref (mo + 4), .ref (mo + 5), .ref (mo + 6), .int ir, .int (nI m), .int (nI r), .int (nI wd), .int (nI ag), .ref (mo + 7), .ref (mo + 8), .ref (mo + 9), .ref (mo + 10), .int (nI td), .int (nI om), .ref (mo + 11), .ref (mo + 12), .ref (mo + 13), .ref (mo + 14), .ref (mo + 15), .ref (mo + 16)]))) (hSm : mn_at g (mo + 2) (.inl (0, 1260, .inl (fun j => nI (sm j))))) (hBg : mn_at g (mo + 3) (.inl (0, 21, .inl (fun j => nI (bg j))))) (he : e ≤ 20) (hsz : 20 ≤ sz) (hsz2 : sz ≤ 80) (hlen : bg e ≤ 1260) (hbl : ∀ k, k < e → bg k < bg e) (hsm : ∀ j, sm j < 256) {n : Nat} (hn3 : n < pcN (bg e) (sz - 12) + 3) : mn_R E MMo_ofVolume 2 48 0 0 0 [(0, .ref mo), (1, .int (nI n)), (2, .int (-1))] [] g (mn_is (some (.int (nI (mkV (zb sm (bg e)) (LnS (bg e) (sz - 12)) (SnS bg e (sz - 12)) (sz - 12) (pcN (bg e) (sz - 12)) n 6)))) g) := by
  have hpc : pcN (bg e) (sz - 12) < 100000 := by unfold pcN; have := Nat.div_le_self (bg e + (sz - 12) - 1) (sz - 12); rw [Nat.max_def]; split <;> omega
  refine mn_aload_n 0 dMo_ofVolume_0 rfl rfl ?_
  refine mn_cV (d' := 1) (w' := 20) (As := []) (stk' := [.int (nI (pcN (bg e) (sz - 12)))]) okMo_pieces lMo_97 dMo_ofVolume_1 hM rfl rfl rfl rfl (Nat.le_of_ble_eq_true rfl) (Nat.le_of_ble_eq_true rfl) (by decide) (c_M_pieces hM hBg he hsz hsz2 hlen) rfl ?_
  refine mn_istore_n (ls' := [(0, .ref mo), (1, .int (nI n)), (2, .int (-1)), (3, .int (nI (pcN (bg e) (sz - 12))))]) dMo_ofVolume_4 rfl (by decide) rfl ?_
  refine mn_iload_n 1 dMo_ofVolume_5 rfl rfl ?_
  refine mn_iload_n 3 dMo_ofVolume_6 rfl rfl ?_
  refine mn_icmp_ge 17 dMo_ofVolume_7 (by decide) (fun c1 => ?_) (fun c1 => ?_)
  · have c1 := (nI_leI (a := (pcN (bg e) (sz - 12))) (b := n) (by omega) (by omega)).mp c1
    refine mn_iconst (v := 0) dMo_ofVolume_17 (by decide) ?_
    refine mn_istore (ls' := [(0, .ref mo), (1, .int (nI n)), (2, .int (-1)), (3, .int (nI (pcN (bg e) (sz - 12)))), (4, .int 0)]) dMo_ofVolume_18 (by decide) rfl ?_
    refine mn_iconst (v := 1) dMo_ofVolume_20 (by decide) ?_
    refine mn_istore (ls' := [(0, .ref mo), (1, .int (nI n)), (2, .int (-1)), (3, .int (nI (pcN (bg e) (sz - 12)))), (4, .int 0), (5, .int 1)]) dMo_ofVolume_21 (by decide) rfl ?_
    refine mn_iload_n 1 dMo_ofVolume_23 rfl rfl ?_
    refine mn_iload_n 3 dMo_ofVolume_24 rfl rfl ?_
    refine mn_isub (z := nI (n - (pcN (bg e) (sz - 12)))) dMo_ofVolume_25 (pk_sub (a := n) (b := pcN (bg e) (sz - 12)) (by omega)) ?_
    refine mn_cS (d' := 1) (w' := 24) (As := [.int (nI (n - (pcN (bg e) (sz - 12))))]) (stk' := [.int (nI (twsN 1 (n - (pcN (bg e) (sz - 12)))))]) okMo_power lMo_106 dMo_ofVolume_26 rfl rfl (Nat.le_of_ble_eq_true rfl) (Nat.le_of_ble_eq_true rfl) (by decide) (c_M_power (n := n - (pcN (bg e) (sz - 12))) (by omega)) rfl ?_
    refine mn_istore (ls' := [(0, .ref mo), (1, .int (nI n)), (2, .int (-1)), (3, .int (nI (pcN (bg e) (sz - 12)))), (4, .int 0), (5, .int 1), (6, .int (nI (twsN 1 (n - (pcN (bg e) (sz - 12))))))]) dMo_ofVolume_29 (by decide) rfl ?_
    refine mn_iconst (v := 0) dMo_ofVolume_31 (by decide) ?_
    refine mn_istore (ls' := [(0, .ref mo), (1, .int (nI n)), (2, .int (-1)), (3, .int (nI (pcN (bg e) (sz - 12)))), (4, .int 0), (5, .int 1), (6, .int (nI (twsN 1 (n - (pcN (bg e) (sz - 12)))))), (7, .int 0)]) dMo_ofVolume_32 (by decide) rfl ?_
    refine mn_R.post (c_M_ofV6_l hM hSm hBg he hsz hsz2 hlen hbl hsm (jj := n - pcN (bg e) (sz - 12)) (by omega) hpc (pcN (bg e) (sz - 12) + 1) 0 (by omega) (by omega)) (fun x g' hq => ⟨?_, hq.2⟩)
    unfold mkV
    rw [if_neg (by omega)]
    exact hq.1
  · have c1 := mt (nI_leI (a := (pcN (bg e) (sz - 12))) (b := n) (by omega) (by omega)).mpr c1
    refine mn_aload_n 0 dMo_ofVolume_10 rfl rfl ?_
    refine mn_iload_n 1 dMo_ofVolume_11 rfl rfl ?_
    refine mn_iload_n 2 dMo_ofVolume_12 rfl rfl ?_
    refine mn_cV (d' := 1) (w' := 22) (As := [.int (nI n), .int (-1)]) (stk' := [.int (nI (ptN (zb sm (bg e)) (LnS (bg e) (sz - 12)) (SnS bg e (sz - 12)) (sz - 12) n 6))]) okMo_ofPiece lMo_103 dMo_ofVolume_13 hM rfl rfl rfl rfl (Nat.le_of_ble_eq_true rfl) (Nat.le_of_ble_eq_true rfl) (by decide) (c_M_ofPiece6 hM hSm hBg he hsz hsz2 hlen hbl hsm (n := n) (by omega)) rfl ?_
    exact mn_iret rfl dMo_ofVolume_16 ⟨by unfold mkV; rw [if_pos (by omega)], rfl⟩
set_option maxRecDepth 100000 in
theorem c_M_ofV7_l {E : mn_En} {g : mn_H} {mo tl e sz rp st m r wd ag td om : Nat} {ir : Int32} {sm bg : Nat → Nat} (hM : mn_at g mo (.inr (11, [.int 0, .ref (mo + 1), .int (nI tl), .ref (mo + 2), .ref (mo + 3), .int (nI e), .int (nI sz), .int (nI rp), .int (nI st), .ref (mo + 4), .ref (mo + 5), .ref (mo + 6), .int ir, .int (nI m), .int (nI r), .int (nI wd), .int (nI ag), .ref (mo + 7), .ref (mo + 8), .ref (mo + 9), .ref (mo + 10), .int (nI td), .int (nI om), .ref (mo + 11), .ref (mo + 12), .ref (mo + 13), .ref (mo + 14), .ref (mo + 15), .ref (mo + 16)]))) (hSm : mn_at g (mo + 2) (.inl (0, 1260, .inl (fun j => nI (sm j))))) (hBg : mn_at g (mo + 3) (.inl (0, 21, .inl (fun j => nI (bg j))))) (he : e ≤ 20) (hsz : 20 ≤ sz) (hsz2 : sz ≤ 80) (hlen : bg e ≤ 1260) (hbl : ∀ k, k < e → bg k < bg e) (hsm : ∀ j, sm j < 256) {jj n : Nat} (hjj : jj < 10) (hm : pcN (bg e) (sz - 12) < 100000) : ∀ (fu k : Nat), k ≤ pcN (bg e) (sz - 12) → pcN (bg e) (sz - 12) - k < fu → mn_R E MMo_ofVolume 2 48 0 0 34 [(0, .ref mo), (1, .int (nI n)), (2, .int (-2)), (3, .int (nI (pcN (bg e) (sz - 12)))), (4, .int (nI (xK (fun k => ptN (zb sm (bg e)) (LnS (bg e) (sz - 12)) (SnS bg e (sz - 12)) (sz - 12) k 7) jj k))), (5, .int (nI (twsN 1 (jj * k)))), (6, .int (nI (twsN 1 jj))), (7, .int (nI k))] [] g (mn_is (some (.int (nI (horN (fun k => ptN (zb sm (bg e)) (LnS (bg e) (sz - 12)) (SnS bg e (sz - 12)) (sz - 12) k 7) jj (pcN (bg e) (sz - 12)) (pcN (bg e) (sz - 12)))))) g) := by
  intro fu
  induction fu with
  | zero => intro k h1 h2; exact absurd h2 (by omega)
  | succ fu ih =>
    intro k h1 h2
    refine mn_iload 7 dMo_ofVolume_34 rfl ?_
    refine mn_iload_n 3 dMo_ofVolume_36 rfl rfl ?_
    refine mn_icmp_ge 72 dMo_ofVolume_37 (by decide) (fun c1 => ?_) (fun c1 => ?_)
    · have c1 := (nI_leI (a := (pcN (bg e) (sz - 12))) (b := k) (by omega) (by omega)).mp c1
      refine mn_iload 4 dMo_ofVolume_72 rfl ?_
      exact mn_iret rfl dMo_ofVolume_74 ⟨by rw [show k = pcN (bg e) (sz - 12) by omega, mix_eq (fun n => ptN_lt (zb_lt hsm _) (LnS_lt (by omega)) (SnS_lt (by omega)) _ _ _)], rfl⟩
    · have c1 := mt (nI_leI (a := (pcN (bg e) (sz - 12))) (b := k) (by omega) (by omega)).mpr c1
      refine mn_iload 4 dMo_ofVolume_40 rfl ?_
      refine mn_iload 5 dMo_ofVolume_42 rfl ?_
      refine mn_aload_n 0 dMo_ofVolume_44 rfl rfl ?_
      refine mn_iload 7 dMo_ofVolume_45 rfl ?_
      refine mn_iload_n 2 dMo_ofVolume_47 rfl rfl ?_
      refine mn_cV (d' := 1) (w' := 22) (As := [.int (nI k), .int (-2)]) (stk' := [.int (nI (ptN (zb sm (bg e)) (LnS (bg e) (sz - 12)) (SnS bg e (sz - 12)) (sz - 12) k 7)), .int (nI (twsN 1 (jj * k))), .int (nI (xK (fun k => ptN (zb sm (bg e)) (LnS (bg e) (sz - 12)) (SnS bg e (sz - 12)) (sz - 12) k 7) jj k))]) okMo_ofPiece lMo_103 dMo_ofVolume_48 hM rfl rfl rfl rfl (Nat.le_of_ble_eq_true rfl) (Nat.le_of_ble_eq_true rfl) (by decide) (c_M_ofPiece7 hM hSm hBg he hsz hsz2 hlen hbl hsm (n := k) (by omega)) rfl ?_
      refine mn_cS (d' := 0) (w' := 0) (As := [.int (nI (twsN 1 (jj * k))), .int (nI (ptN (zb sm (bg e)) (LnS (bg e) (sz - 12)) (SnS bg e (sz - 12)) (sz - 12) k 7))]) (stk' := [.int (nI (pdN (twsN 1 (jj * k)) (ptN (zb sm (bg e)) (LnS (bg e) (sz - 12)) (SnS bg e (sz - 12)) (sz - 12) k 7))), .int (nI (xK (fun k => ptN (zb sm (bg e)) (LnS (bg e) (sz - 12)) (SnS bg e (sz - 12)) (sz - 12) k 7) jj k))]) okMo_times lMo_100 dMo_ofVolume_51 rfl rfl (Nat.le_of_ble_eq_true rfl) (Nat.le_of_ble_eq_true rfl) (by decide) (c_M_times (a := twsN 1 (jj * k)) (b := ptN (zb sm (bg e)) (LnS (bg e) (sz - 12)) (SnS bg e (sz - 12)) (sz - 12) k 7) (tws_lt (by decide) _) (ptN_lt (zb_lt hsm _) (LnS_lt (by omega)) (SnS_lt (by omega)) _ _ _)) rfl ?_
      refine mn_ixor (z := nI ((xK (fun k => ptN (zb sm (bg e)) (LnS (bg e) (sz - 12)) (SnS bg e (sz - 12)) (sz - 12) k 7) jj k) ^^^ (pdN (twsN 1 (jj * k)) (ptN (zb sm (bg e)) (LnS (bg e) (sz - 12)) (SnS bg e (sz - 12)) (sz - 12) k 7)))) dMo_ofVolume_54 (nx_xor (xK (fun k => ptN (zb sm (bg e)) (LnS (bg e) (sz - 12)) (SnS bg e (sz - 12)) (sz - 12) k 7) jj k) (pdN (twsN 1 (jj * k)) (ptN (zb sm (bg e)) (LnS (bg e) (sz - 12)) (SnS bg e (sz - 12)) (sz - 12) k 7))) ?_
      refine mn_istore (ls' := [(0, .ref mo), (1, .int (nI n)), (2, .int (-2)), (3, .int (nI (pcN (bg e) (sz - 12)))), (4, .int (nI ((xK (fun k => ptN (zb sm (bg e)) (LnS (bg e) (sz - 12)) (SnS bg e (sz - 12)) (sz - 12) k 7) jj k) ^^^ (pdN (twsN 1 (jj * k)) (ptN (zb sm (bg e)) (LnS (bg e) (sz - 12)) (SnS bg e (sz - 12)) (sz - 12) k 7))))), (5, .int (nI (twsN 1 (jj * k)))), (6, .int (nI (twsN 1 jj))), (7, .int (nI k))]) dMo_ofVolume_55 (by decide) rfl ?_
      refine mn_iload 5 dMo_ofVolume_57 rfl ?_
      refine mn_iload 6 dMo_ofVolume_59 rfl ?_
      refine mn_cS (d' := 0) (w' := 0) (As := [.int (nI (twsN 1 (jj * k))), .int (nI (twsN 1 jj))]) (stk' := [.int (nI (pdN (twsN 1 (jj * k)) (twsN 1 jj)))]) okMo_times lMo_100 dMo_ofVolume_61 rfl rfl (Nat.le_of_ble_eq_true rfl) (Nat.le_of_ble_eq_true rfl) (by decide) (c_M_times (a := twsN 1 (jj * k)) (b := twsN 1 jj) (tws_lt (by decide) _) (tws_lt (by decide) _)) rfl ?_
      refine mn_istore (ls' := [(0, .ref mo), (1, .int (nI n)), (2, .int (-2)), (3, .int (nI (pcN (bg e) (sz - 12)))), (4, .int (nI ((xK (fun k => ptN (zb sm (bg e)) (LnS (bg e) (sz - 12)) (SnS bg e (sz - 12)) (sz - 12) k 7) jj k) ^^^ (pdN (twsN 1 (jj * k)) (ptN (zb sm (bg e)) (LnS (bg e) (sz - 12)) (SnS bg e (sz - 12)) (sz - 12) k 7))))), (5, .int (nI (pdN (twsN 1 (jj * k)) (twsN 1 jj)))), (6, .int (nI (twsN 1 jj))), (7, .int (nI k))]) dMo_ofVolume_64 (by decide) rfl ?_
      refine mn_iinc (v := nI (k + 1)) (ls' := [(0, .ref mo), (1, .int (nI n)), (2, .int (-2)), (3, .int (nI (pcN (bg e) (sz - 12)))), (4, .int (nI ((xK (fun k => ptN (zb sm (bg e)) (LnS (bg e) (sz - 12)) (SnS bg e (sz - 12)) (sz - 12) k 7) jj k) ^^^ (pdN (twsN 1 (jj * k)) (ptN (zb sm (bg e)) (LnS (bg e) (sz - 12)) (SnS bg e (sz - 12)) (sz - 12) k 7))))), (5, .int (nI (pdN (twsN 1 (jj * k)) (twsN 1 jj)))), (6, .int (nI (twsN 1 jj))), (7, .int (nI (k + 1)))]) 7 dMo_ofVolume_66 rfl (nI_add k 1) (by decide) rfl ?_
      refine mn_goto 34 dMo_ofVolume_69 (by decide) ?_
      rw [show pdN (twsN 1 (jj * k)) (twsN 1 jj) = twsN 1 (jj * (k + 1)) by rw [pd_pw (tws_lt (by decide) _), ← tws_add, Nat.mul_succ]]
      exact ih (k + 1) (by omega) (by omega)
set_option maxRecDepth 100000 in
theorem c_M_ofVolume7 {E : mn_En} {g : mn_H} {mo tl e sz rp st m r wd ag td om : Nat} {ir : Int32} {sm bg : Nat → Nat} (hM : mn_at g mo (.inr (11, [.int 0, .ref (mo + 1), .int (nI tl), .ref (mo + 2), .ref (mo + 3), .int (nI e), .int (nI sz), .int (nI rp), .int (nI st), .ref (mo + 4), .ref (mo + 5), .ref (mo + 6), .int ir, .int (nI m), .int (nI r), .int (nI wd), .int (nI ag), .ref (mo + 7), .ref (mo + 8), .ref (mo + 9), .ref (mo + 10), .int (nI td), .int (nI om), .ref (mo + 11), .ref (mo + 12), .ref (mo + 13), .ref (mo + 14), .ref (mo + 15), .ref (mo + 16)]))) (hSm : mn_at g (mo + 2) (.inl (0, 1260, .inl (fun j => nI (sm j))))) (hBg : mn_at g (mo + 3) (.inl (0, 21, .inl (fun j => nI (bg j))))) (he : e ≤ 20) (hsz : 20 ≤ sz) (hsz2 : sz ≤ 80) (hlen : bg e ≤ 1260) (hbl : ∀ k, k < e → bg k < bg e) (hsm : ∀ j, sm j < 256) {n : Nat} (hn3 : n < pcN (bg e) (sz - 12) + 3) : mn_R E MMo_ofVolume 2 48 0 0 0 [(0, .ref mo), (1, .int (nI n)), (2, .int (-2))] [] g (mn_is (some (.int (nI (mkV (zb sm (bg e)) (LnS (bg e) (sz - 12)) (SnS bg e (sz - 12)) (sz - 12) (pcN (bg e) (sz - 12)) n 7)))) g) := by
  have hpc : pcN (bg e) (sz - 12) < 100000 := by unfold pcN; have := Nat.div_le_self (bg e + (sz - 12) - 1) (sz - 12); rw [Nat.max_def]; split <;> omega
  refine mn_aload_n 0 dMo_ofVolume_0 rfl rfl ?_
  refine mn_cV (d' := 1) (w' := 20) (As := []) (stk' := [.int (nI (pcN (bg e) (sz - 12)))]) okMo_pieces lMo_97 dMo_ofVolume_1 hM rfl rfl rfl rfl (Nat.le_of_ble_eq_true rfl) (Nat.le_of_ble_eq_true rfl) (by decide) (c_M_pieces hM hBg he hsz hsz2 hlen) rfl ?_
  refine mn_istore_n (ls' := [(0, .ref mo), (1, .int (nI n)), (2, .int (-2)), (3, .int (nI (pcN (bg e) (sz - 12))))]) dMo_ofVolume_4 rfl (by decide) rfl ?_
  refine mn_iload_n 1 dMo_ofVolume_5 rfl rfl ?_
  refine mn_iload_n 3 dMo_ofVolume_6 rfl rfl ?_
  refine mn_icmp_ge 17 dMo_ofVolume_7 (by decide) (fun c1 => ?_) (fun c1 => ?_)
  · have c1 := (nI_leI (a := (pcN (bg e) (sz - 12))) (b := n) (by omega) (by omega)).mp c1
    refine mn_iconst (v := 0) dMo_ofVolume_17 (by decide) ?_
    refine mn_istore (ls' := [(0, .ref mo), (1, .int (nI n)), (2, .int (-2)), (3, .int (nI (pcN (bg e) (sz - 12)))), (4, .int 0)]) dMo_ofVolume_18 (by decide) rfl ?_
    refine mn_iconst (v := 1) dMo_ofVolume_20 (by decide) ?_
    refine mn_istore (ls' := [(0, .ref mo), (1, .int (nI n)), (2, .int (-2)), (3, .int (nI (pcN (bg e) (sz - 12)))), (4, .int 0), (5, .int 1)]) dMo_ofVolume_21 (by decide) rfl ?_
    refine mn_iload_n 1 dMo_ofVolume_23 rfl rfl ?_
    refine mn_iload_n 3 dMo_ofVolume_24 rfl rfl ?_
    refine mn_isub (z := nI (n - (pcN (bg e) (sz - 12)))) dMo_ofVolume_25 (pk_sub (a := n) (b := pcN (bg e) (sz - 12)) (by omega)) ?_
    refine mn_cS (d' := 1) (w' := 24) (As := [.int (nI (n - (pcN (bg e) (sz - 12))))]) (stk' := [.int (nI (twsN 1 (n - (pcN (bg e) (sz - 12)))))]) okMo_power lMo_106 dMo_ofVolume_26 rfl rfl (Nat.le_of_ble_eq_true rfl) (Nat.le_of_ble_eq_true rfl) (by decide) (c_M_power (n := n - (pcN (bg e) (sz - 12))) (by omega)) rfl ?_
    refine mn_istore (ls' := [(0, .ref mo), (1, .int (nI n)), (2, .int (-2)), (3, .int (nI (pcN (bg e) (sz - 12)))), (4, .int 0), (5, .int 1), (6, .int (nI (twsN 1 (n - (pcN (bg e) (sz - 12))))))]) dMo_ofVolume_29 (by decide) rfl ?_
    refine mn_iconst (v := 0) dMo_ofVolume_31 (by decide) ?_
    refine mn_istore (ls' := [(0, .ref mo), (1, .int (nI n)), (2, .int (-2)), (3, .int (nI (pcN (bg e) (sz - 12)))), (4, .int 0), (5, .int 1), (6, .int (nI (twsN 1 (n - (pcN (bg e) (sz - 12)))))), (7, .int 0)]) dMo_ofVolume_32 (by decide) rfl ?_
    refine mn_R.post (c_M_ofV7_l hM hSm hBg he hsz hsz2 hlen hbl hsm (jj := n - pcN (bg e) (sz - 12)) (by omega) hpc (pcN (bg e) (sz - 12) + 1) 0 (by omega) (by omega)) (fun x g' hq => ⟨?_, hq.2⟩)
    unfold mkV
    rw [if_neg (by omega)]
    exact hq.1
  · have c1 := mt (nI_leI (a := (pcN (bg e) (sz - 12))) (b := n) (by omega) (by omega)).mpr c1
    refine mn_aload_n 0 dMo_ofVolume_10 rfl rfl ?_
    refine mn_iload_n 1 dMo_ofVolume_11 rfl rfl ?_
    refine mn_iload_n 2 dMo_ofVolume_12 rfl rfl ?_
    refine mn_cV (d' := 1) (w' := 22) (As := [.int (nI n), .int (-2)]) (stk' := [.int (nI (ptN (zb sm (bg e)) (LnS (bg e) (sz - 12)) (SnS bg e (sz - 12)) (sz - 12) n 7))]) okMo_ofPiece lMo_103 dMo_ofVolume_13 hM rfl rfl rfl rfl (Nat.le_of_ble_eq_true rfl) (Nat.le_of_ble_eq_true rfl) (by decide) (c_M_ofPiece7 hM hSm hBg he hsz hsz2 hlen hbl hsm (n := n) (by omega)) rfl ?_
    exact mn_iret rfl dMo_ofVolume_16 ⟨by unfold mkV; rw [if_pos (by omega)], rfl⟩
set_option maxRecDepth 100000 in
theorem c_M_make_z {E : mn_En} {g : mn_H} {mo tl e sz rp st m r wd ag td om : Nat} {ir : Int32} {sm bg vl : Nat → Nat} {n : Nat} (hM : mn_at g mo (.inr (11, [.int 0, .ref (mo + 1), .int (nI tl), .ref (mo + 2), .ref (mo + 3), .int (nI e), .int (nI sz), .int (nI rp), .int (nI st), .ref (mo + 4), .ref (mo + 5), .ref (mo + 6), .int ir, .int (nI m), .int (nI r), .int (nI wd), .int (nI ag), .ref (mo + 7), .ref (mo + 8), .ref (mo + 9), .ref (mo + 10), .int (nI td), .int (nI om), .ref (mo + 11), .ref (mo + 12), .ref (mo + 13), .ref (mo + 14), .ref (mo + 15), .ref (mo + 16)]))) (hSm : mn_at g (mo + 2) (.inl (0, 1260, .inl (fun j => nI (sm j))))) (hBg : mn_at g (mo + 3) (.inl (0, 21, .inl (fun j => nI (bg j))))) (hVl : mn_at g (mo + 6) (.inl (0, 80, .inl (fun j => nI ((bdL vl (fun j0 => mkV (zb sm (bg e)) (LnS (bg e) (sz - 12)) (SnS bg e (sz - 12)) (sz - 12) (pcN (bg e) (sz - 12)) n j0) (sz - 12)) j))))) (he : e ≤ 20) (hsz : 20 ≤ sz) (hsz2 : sz ≤ 80) (hlen : bg e ≤ 1260) (hbl : ∀ k, k < e → bg k < bg e) (hsm : ∀ j, sm j < 256) (hm60 : pcN (bg e) (sz - 12) ≤ 60) (hrp : rp ≤ 3) (hst : st < 256) (hvl : ∀ j, vl j < 256) (hn3 : n < pcN (bg e) (sz - 12) + 3) : mn_R E MMo_make 3 75 0 0 31 [(0, .ref mo), (1, .int (nI n))] [] g (fun x g' => x = none ∧ mn_fr (fun q => q = mo + 6) g g' ∧ ∃ vw : Nat → Nat, mn_at g' (mo + 6) (.inl (0, 80, .inl (fun j => nI (vw j)))) ∧ (∀ j, j < sz → vw j = vlN (fun _ => 0) (zb sm (bg e)) (LnS (bg e) (sz - 12)) (SnS bg e (sz - 12)) (sz - 12) (pcN (bg e) (sz - 12)) n st rp sz j) ∧ ∀ j, vw j < 256) := by
  have hVlt : ∀ j0, mkV (zb sm (bg e)) (LnS (bg e) (sz - 12)) (SnS bg e (sz - 12)) (sz - 12) (pcN (bg e) (sz - 12)) n j0 < 256 := fun j0 => mkV_lt (zb_lt hsm _) (LnS_lt (by omega)) (SnS_lt (by omega)) _ _ _ j0
  have hs1 := suN_lt (mkM vl (fun j0 => mkV (zb sm (bg e)) (LnS (bg e) (sz - 12)) (SnS bg e (sz - 12)) (sz - 12) (pcN (bg e) (sz - 12)) n j0) st n (pcN (bg e) (sz - 12)) rp (sz - 12)) 12 (sz - 12)
  have hs2 := suN_lt (mkM2 vl (fun j0 => mkV (zb sm (bg e)) (LnS (bg e) (sz - 12)) (SnS bg e (sz - 12)) (sz - 12) (pcN (bg e) (sz - 12)) n j0) st n (pcN (bg e) (sz - 12)) rp (sz - 12)) 0 10
  refine mn_aload_n 0 dMo_make_31 rfl rfl ?_
  refine mn_get okMo 11 lMo_32 (by decide) hM rfl dMo_make_32 ?_
  refine mn_iconst (v := 0) dMo_make_35 (by decide) ?_
  refine mn_bipush (v := 86) dMo_make_36 (by decide) ?_
  refine mn_iastN (j := 0) hVl rfl (by omega) (by omega) dMo_make_38 ?_
  obtain ⟨g1, eg1⟩ : ∃ gg_, gg_ = mn_set g (mo + 6) (.inl (0, 80, .inl (upd (fun j => nI ((bdL vl (fun j0 => mkV (zb sm (bg e)) (LnS (bg e) (sz - 12)) (SnS bg e (sz - 12)) (sz - 12) (pcN (bg e) (sz - 12)) n j0) (sz - 12)) j)) 0 86))) := ⟨_, rfl⟩
  refine mn_R.toG eg1 ?_
  have hM_g1 : mn_at g1 mo (.inr (11, [.int 0, .ref (mo + 1), .int (nI tl), .ref (mo + 2), .ref (mo + 3), .int (nI e), .int (nI sz), .int (nI rp), .int (nI st), .ref (mo + 4), .ref (mo + 5), .ref (mo + 6), .int ir, .int (nI m), .int (nI r), .int (nI wd), .int (nI ag), .ref (mo + 7), .ref (mo + 8), .ref (mo + 9), .ref (mo + 10), .int (nI td), .int (nI om), .ref (mo + 11), .ref (mo + 12), .ref (mo + 13), .ref (mo + 14), .ref (mo + 15), .ref (mo + 16)])) := by rw [eg1]; exact hM.off (by omega)
  have hSm_g1 : mn_at g1 (mo + 2) (.inl (0, 1260, .inl (fun j => nI (sm j)))) := by rw [eg1]; exact hSm.off (by omega)
  have hBg_g1 : mn_at g1 (mo + 3) (.inl (0, 21, .inl (fun j => nI (bg j)))) := by rw [eg1]; exact hBg.off (by omega)
  have hVl_g1 : mn_at g1 (mo + 6) (.inl (0, 80, .inl (upd (fun j => nI ((bdL vl (fun j0 => mkV (zb sm (bg e)) (LnS (bg e) (sz - 12)) (SnS bg e (sz - 12)) (sz - 12) (pcN (bg e) (sz - 12)) n j0) (sz - 12)) j)) 0 86))) := by rw [eg1]; exact hVl.same
  refine mn_aload_n 0 dMo_make_39 rfl rfl ?_
  refine mn_get okMo 11 lMo_32 (by decide) hM_g1 rfl dMo_make_40 ?_
  refine mn_iconst (v := 1) dMo_make_43 (by decide) ?_
  refine mn_bipush (v := 83) dMo_make_44 (by decide) ?_
  refine mn_iastN (j := 1) hVl_g1 rfl (by omega) (by omega) dMo_make_46 ?_
  obtain ⟨g2, eg2⟩ : ∃ gg_, gg_ = mn_set g1 (mo + 6) (.inl (0, 80, .inl (upd (upd (fun j => nI ((bdL vl (fun j0 => mkV (zb sm (bg e)) (LnS (bg e) (sz - 12)) (SnS bg e (sz - 12)) (sz - 12) (pcN (bg e) (sz - 12)) n j0) (sz - 12)) j)) 0 86) 1 83))) := ⟨_, rfl⟩
  refine mn_R.toG eg2 ?_
  have hM_g2 : mn_at g2 mo (.inr (11, [.int 0, .ref (mo + 1), .int (nI tl), .ref (mo + 2), .ref (mo + 3), .int (nI e), .int (nI sz), .int (nI rp), .int (nI st), .ref (mo + 4), .ref (mo + 5), .ref (mo + 6), .int ir, .int (nI m), .int (nI r), .int (nI wd), .int (nI ag), .ref (mo + 7), .ref (mo + 8), .ref (mo + 9), .ref (mo + 10), .int (nI td), .int (nI om), .ref (mo + 11), .ref (mo + 12), .ref (mo + 13), .ref (mo + 14), .ref (mo + 15), .ref (mo + 16)])) := by rw [eg2]; exact hM_g1.off (by omega)
  have hSm_g2 : mn_at g2 (mo + 2) (.inl (0, 1260, .inl (fun j => nI (sm j)))) := by rw [eg2]; exact hSm_g1.off (by omega)
  have hBg_g2 : mn_at g2 (mo + 3) (.inl (0, 21, .inl (fun j => nI (bg j)))) := by rw [eg2]; exact hBg_g1.off (by omega)
  have hVl_g2 : mn_at g2 (mo + 6) (.inl (0, 80, .inl (upd (upd (fun j => nI ((bdL vl (fun j0 => mkV (zb sm (bg e)) (LnS (bg e) (sz - 12)) (SnS bg e (sz - 12)) (sz - 12) (pcN (bg e) (sz - 12)) n j0) (sz - 12)) j)) 0 86) 1 83))) := by rw [eg2]; exact hVl_g1.same
  refine mn_aload_n 0 dMo_make_47 rfl rfl ?_
  refine mn_get okMo 11 lMo_32 (by decide) hM_g2 rfl dMo_make_48 ?_
  refine mn_iconst (v := 2) dMo_make_51 (by decide) ?_
  refine mn_aload_n 0 dMo_make_52 rfl rfl ?_
  refine mn_get okMo 8 lMo_87 (by decide) hM_g2 rfl dMo_make_53 ?_
  refine mn_iastN (j := 2) hVl_g2 rfl (by omega) (by omega) dMo_make_56 ?_
  obtain ⟨g3, eg3⟩ : ∃ gg_, gg_ = mn_set g2 (mo + 6) (.inl (0, 80, .inl (upd (upd (upd (fun j => nI ((bdL vl (fun j0 => mkV (zb sm (bg e)) (LnS (bg e) (sz - 12)) (SnS bg e (sz - 12)) (sz - 12) (pcN (bg e) (sz - 12)) n j0) (sz - 12)) j)) 0 86) 1 83) 2 (nI st)))) := ⟨_, rfl⟩
  refine mn_R.toG eg3 ?_
  have hM_g3 : mn_at g3 mo (.inr (11, [.int 0, .ref (mo + 1), .int (nI tl), .ref (mo + 2), .ref (mo + 3), .int (nI e), .int (nI sz), .int (nI rp), .int (nI st), .ref (mo + 4), .ref (mo + 5), .ref (mo + 6), .int ir, .int (nI m), .int (nI r), .int (nI wd), .int (nI ag), .ref (mo + 7), .ref (mo + 8), .ref (mo + 9), .ref (mo + 10), .int (nI td), .int (nI om), .ref (mo + 11), .ref (mo + 12), .ref (mo + 13), .ref (mo + 14), .ref (mo + 15), .ref (mo + 16)])) := by rw [eg3]; exact hM_g2.off (by omega)
  have hSm_g3 : mn_at g3 (mo + 2) (.inl (0, 1260, .inl (fun j => nI (sm j)))) := by rw [eg3]; exact hSm_g2.off (by omega)
  have hBg_g3 : mn_at g3 (mo + 3) (.inl (0, 21, .inl (fun j => nI (bg j)))) := by rw [eg3]; exact hBg_g2.off (by omega)
  have hVl_g3 : mn_at g3 (mo + 6) (.inl (0, 80, .inl (upd (upd (upd (fun j => nI ((bdL vl (fun j0 => mkV (zb sm (bg e)) (LnS (bg e) (sz - 12)) (SnS bg e (sz - 12)) (sz - 12) (pcN (bg e) (sz - 12)) n j0) (sz - 12)) j)) 0 86) 1 83) 2 (nI st)))) := by rw [eg3]; exact hVl_g2.same
  refine mn_aload_n 0 dMo_make_57 rfl rfl ?_
  refine mn_get okMo 11 lMo_32 (by decide) hM_g3 rfl dMo_make_58 ?_
  refine mn_iconst (v := 3) dMo_make_61 (by decide) ?_
  refine mn_iload_n 1 dMo_make_62 rfl rfl ?_
  refine mn_iastN (j := 3) hVl_g3 rfl (by omega) (by omega) dMo_make_63 ?_
  obtain ⟨g4, eg4⟩ : ∃ gg_, gg_ = mn_set g3 (mo + 6) (.inl (0, 80, .inl (upd (upd (upd (upd (fun j => nI ((bdL vl (fun j0 => mkV (zb sm (bg e)) (LnS (bg e) (sz - 12)) (SnS bg e (sz - 12)) (sz - 12) (pcN (bg e) (sz - 12)) n j0) (sz - 12)) j)) 0 86) 1 83) 2 (nI st)) 3 (nI n)))) := ⟨_, rfl⟩
  refine mn_R.toG eg4 ?_
  have hM_g4 : mn_at g4 mo (.inr (11, [.int 0, .ref (mo + 1), .int (nI tl), .ref (mo + 2), .ref (mo + 3), .int (nI e), .int (nI sz), .int (nI rp), .int (nI st), .ref (mo + 4), .ref (mo + 5), .ref (mo + 6), .int ir, .int (nI m), .int (nI r), .int (nI wd), .int (nI ag), .ref (mo + 7), .ref (mo + 8), .ref (mo + 9), .ref (mo + 10), .int (nI td), .int (nI om), .ref (mo + 11), .ref (mo + 12), .ref (mo + 13), .ref (mo + 14), .ref (mo + 15), .ref (mo + 16)])) := by rw [eg4]; exact hM_g3.off (by omega)
  have hSm_g4 : mn_at g4 (mo + 2) (.inl (0, 1260, .inl (fun j => nI (sm j)))) := by rw [eg4]; exact hSm_g3.off (by omega)
  have hBg_g4 : mn_at g4 (mo + 3) (.inl (0, 21, .inl (fun j => nI (bg j)))) := by rw [eg4]; exact hBg_g3.off (by omega)
  have hVl_g4 : mn_at g4 (mo + 6) (.inl (0, 80, .inl (upd (upd (upd (upd (fun j => nI ((bdL vl (fun j0 => mkV (zb sm (bg e)) (LnS (bg e) (sz - 12)) (SnS bg e (sz - 12)) (sz - 12) (pcN (bg e) (sz - 12)) n j0) (sz - 12)) j)) 0 86) 1 83) 2 (nI st)) 3 (nI n)))) := by rw [eg4]; exact hVl_g3.same
  refine mn_aload_n 0 dMo_make_64 rfl rfl ?_
  refine mn_get okMo 11 lMo_32 (by decide) hM_g4 rfl dMo_make_65 ?_
  refine mn_iconst (v := 4) dMo_make_68 (by decide) ?_
  refine mn_aload_n 0 dMo_make_69 rfl rfl ?_
  refine mn_cV (d' := 1) (w' := 20) (As := []) (stk' := [.int (nI (pcN (bg e) (sz - 12))), .int 4, .ref (mo + 6)]) okMo_pieces lMo_97 dMo_make_70 hM_g4 rfl rfl rfl rfl (Nat.le_of_ble_eq_true rfl) (Nat.le_of_ble_eq_true rfl) (by decide) (c_M_pieces hM_g4 hBg_g4 he hsz hsz2 hlen) rfl ?_
  refine mn_iastN (j := 4) hVl_g4 rfl (by omega) (by omega) dMo_make_73 ?_
  obtain ⟨g5, eg5⟩ : ∃ gg_, gg_ = mn_set g4 (mo + 6) (.inl (0, 80, .inl (upd (upd (upd (upd (upd (fun j => nI ((bdL vl (fun j0 => mkV (zb sm (bg e)) (LnS (bg e) (sz - 12)) (SnS bg e (sz - 12)) (sz - 12) (pcN (bg e) (sz - 12)) n j0) (sz - 12)) j)) 0 86) 1 83) 2 (nI st)) 3 (nI n)) 4 (nI (pcN (bg e) (sz - 12)))))) := ⟨_, rfl⟩
  refine mn_R.toG eg5 ?_
  have hM_g5 : mn_at g5 mo (.inr (11, [.int 0, .ref (mo + 1), .int (nI tl), .ref (mo + 2), .ref (mo + 3), .int (nI e), .int (nI sz), .int (nI rp), .int (nI st), .ref (mo + 4), .ref (mo + 5), .ref (mo + 6), .int ir, .int (nI m), .int (nI r), .int (nI wd), .int (nI ag), .ref (mo + 7), .ref (mo + 8), .ref (mo + 9), .ref (mo + 10), .int (nI td), .int (nI om), .ref (mo + 11), .ref (mo + 12), .ref (mo + 13), .ref (mo + 14), .ref (mo + 15), .ref (mo + 16)])) := by rw [eg5]; exact hM_g4.off (by omega)
  have hSm_g5 : mn_at g5 (mo + 2) (.inl (0, 1260, .inl (fun j => nI (sm j)))) := by rw [eg5]; exact hSm_g4.off (by omega)
  have hBg_g5 : mn_at g5 (mo + 3) (.inl (0, 21, .inl (fun j => nI (bg j)))) := by rw [eg5]; exact hBg_g4.off (by omega)
  have hVl_g5 : mn_at g5 (mo + 6) (.inl (0, 80, .inl (upd (upd (upd (upd (upd (fun j => nI ((bdL vl (fun j0 => mkV (zb sm (bg e)) (LnS (bg e) (sz - 12)) (SnS bg e (sz - 12)) (sz - 12) (pcN (bg e) (sz - 12)) n j0) (sz - 12)) j)) 0 86) 1 83) 2 (nI st)) 3 (nI n)) 4 (nI (pcN (bg e) (sz - 12)))))) := by rw [eg5]; exact hVl_g4.same
  refine mn_aload_n 0 dMo_make_74 rfl rfl ?_
  refine mn_get okMo 11 lMo_32 (by decide) hM_g5 rfl dMo_make_75 ?_
  refine mn_iconst (v := 5) dMo_make_78 (by decide) ?_
  refine mn_aload_n 0 dMo_make_79 rfl rfl ?_
  refine mn_get okMo 7 lMo_84 (by decide) hM_g5 rfl dMo_make_80 ?_
  refine mn_iastN (j := 5) hVl_g5 rfl (by omega) (by omega) dMo_make_83 ?_
  obtain ⟨g6, eg6⟩ : ∃ gg_, gg_ = mn_set g5 (mo + 6) (.inl (0, 80, .inl (upd (upd (upd (upd (upd (upd (fun j => nI ((bdL vl (fun j0 => mkV (zb sm (bg e)) (LnS (bg e) (sz - 12)) (SnS bg e (sz - 12)) (sz - 12) (pcN (bg e) (sz - 12)) n j0) (sz - 12)) j)) 0 86) 1 83) 2 (nI st)) 3 (nI n)) 4 (nI (pcN (bg e) (sz - 12)))) 5 (nI rp)))) := ⟨_, rfl⟩
  refine mn_R.toG eg6 ?_
  have hM_g6 : mn_at g6 mo (.inr (11, [.int 0, .ref (mo + 1), .int (nI tl), .ref (mo + 2), .ref (mo + 3), .int (nI e), .int (nI sz), .int (nI rp), .int (nI st), .ref (mo + 4), .ref (mo + 5), .ref (mo + 6), .int ir, .int (nI m), .int (nI r), .int (nI wd), .int (nI ag), .ref (mo + 7), .ref (mo + 8), .ref (mo + 9), .ref (mo + 10), .int (nI td), .int (nI om), .ref (mo + 11), .ref (mo + 12), .ref (mo + 13), .ref (mo + 14), .ref (mo + 15), .ref (mo + 16)])) := by rw [eg6]; exact hM_g5.off (by omega)
  have hSm_g6 : mn_at g6 (mo + 2) (.inl (0, 1260, .inl (fun j => nI (sm j)))) := by rw [eg6]; exact hSm_g5.off (by omega)
  have hBg_g6 : mn_at g6 (mo + 3) (.inl (0, 21, .inl (fun j => nI (bg j)))) := by rw [eg6]; exact hBg_g5.off (by omega)
  have hVl_g6 : mn_at g6 (mo + 6) (.inl (0, 80, .inl (upd (upd (upd (upd (upd (upd (fun j => nI ((bdL vl (fun j0 => mkV (zb sm (bg e)) (LnS (bg e) (sz - 12)) (SnS bg e (sz - 12)) (sz - 12) (pcN (bg e) (sz - 12)) n j0) (sz - 12)) j)) 0 86) 1 83) 2 (nI st)) 3 (nI n)) 4 (nI (pcN (bg e) (sz - 12)))) 5 (nI rp)))) := by rw [eg6]; exact hVl_g5.same
  refine mn_aload_n 0 dMo_make_84 rfl rfl ?_
  refine mn_get okMo 11 lMo_32 (by decide) hM_g6 rfl dMo_make_85 ?_
  refine mn_bipush (v := 6) dMo_make_88 (by decide) ?_
  refine mn_aload_n 0 dMo_make_90 rfl rfl ?_
  refine mn_iload_n 1 dMo_make_91 rfl rfl ?_
  refine mn_iconst (v := -1) dMo_make_92 (by decide) ?_
  refine mn_cV (d' := 2) (w' := 48) (As := [.int (nI n), .int (-1)]) (stk' := [.int (nI (mkV (zb sm (bg e)) (LnS (bg e) (sz - 12)) (SnS bg e (sz - 12)) (sz - 12) (pcN (bg e) (sz - 12)) n 6)), .int 6, .ref (mo + 6)]) okMo_ofVolume lMo_110 dMo_make_93 hM_g6 rfl rfl rfl rfl (Nat.le_of_ble_eq_true rfl) (Nat.le_of_ble_eq_true rfl) (by decide) (c_M_ofVolume6 hM_g6 hSm_g6 hBg_g6 he hsz hsz2 hlen hbl hsm (n := n) hn3) rfl ?_
  refine mn_iastN (j := 6) hVl_g6 rfl (by omega) (by omega) dMo_make_96 ?_
  obtain ⟨g7, eg7⟩ : ∃ gg_, gg_ = mn_set g6 (mo + 6) (.inl (0, 80, .inl (upd (upd (upd (upd (upd (upd (upd (fun j => nI ((bdL vl (fun j0 => mkV (zb sm (bg e)) (LnS (bg e) (sz - 12)) (SnS bg e (sz - 12)) (sz - 12) (pcN (bg e) (sz - 12)) n j0) (sz - 12)) j)) 0 86) 1 83) 2 (nI st)) 3 (nI n)) 4 (nI (pcN (bg e) (sz - 12)))) 5 (nI rp)) 6 (nI (mkV (zb sm (bg e)) (LnS (bg e) (sz - 12)) (SnS bg e (sz - 12)) (sz - 12) (pcN (bg e) (sz - 12)) n 6))))) := ⟨_, rfl⟩
  refine mn_R.toG eg7 ?_
  have hM_g7 : mn_at g7 mo (.inr (11, [.int 0, .ref (mo + 1), .int (nI tl), .ref (mo + 2), .ref (mo + 3), .int (nI e), .int (nI sz), .int (nI rp), .int (nI st), .ref (mo + 4), .ref (mo + 5), .ref (mo + 6), .int ir, .int (nI m), .int (nI r), .int (nI wd), .int (nI ag), .ref (mo + 7), .ref (mo + 8), .ref (mo + 9), .ref (mo + 10), .int (nI td), .int (nI om), .ref (mo + 11), .ref (mo + 12), .ref (mo + 13), .ref (mo + 14), .ref (mo + 15), .ref (mo + 16)])) := by rw [eg7]; exact hM_g6.off (by omega)
  have hSm_g7 : mn_at g7 (mo + 2) (.inl (0, 1260, .inl (fun j => nI (sm j)))) := by rw [eg7]; exact hSm_g6.off (by omega)
  have hBg_g7 : mn_at g7 (mo + 3) (.inl (0, 21, .inl (fun j => nI (bg j)))) := by rw [eg7]; exact hBg_g6.off (by omega)
  have hVl_g7 : mn_at g7 (mo + 6) (.inl (0, 80, .inl (upd (upd (upd (upd (upd (upd (upd (fun j => nI ((bdL vl (fun j0 => mkV (zb sm (bg e)) (LnS (bg e) (sz - 12)) (SnS bg e (sz - 12)) (sz - 12) (pcN (bg e) (sz - 12)) n j0) (sz - 12)) j)) 0 86) 1 83) 2 (nI st)) 3 (nI n)) 4 (nI (pcN (bg e) (sz - 12)))) 5 (nI rp)) 6 (nI (mkV (zb sm (bg e)) (LnS (bg e) (sz - 12)) (SnS bg e (sz - 12)) (sz - 12) (pcN (bg e) (sz - 12)) n 6))))) := by rw [eg7]; exact hVl_g6.same
  refine mn_aload_n 0 dMo_make_97 rfl rfl ?_
  refine mn_get okMo 11 lMo_32 (by decide) hM_g7 rfl dMo_make_98 ?_
  refine mn_bipush (v := 7) dMo_make_101 (by decide) ?_
  refine mn_aload_n 0 dMo_make_103 rfl rfl ?_
  refine mn_iload_n 1 dMo_make_104 rfl rfl ?_
  refine mn_bipush (v := (-2)) dMo_make_105 (by decide) ?_
  refine mn_cV (d' := 2) (w' := 48) (As := [.int (nI n), .int (-2)]) (stk' := [.int (nI (mkV (zb sm (bg e)) (LnS (bg e) (sz - 12)) (SnS bg e (sz - 12)) (sz - 12) (pcN (bg e) (sz - 12)) n 7)), .int 7, .ref (mo + 6)]) okMo_ofVolume lMo_110 dMo_make_107 hM_g7 rfl rfl rfl rfl (Nat.le_of_ble_eq_true rfl) (Nat.le_of_ble_eq_true rfl) (by decide) (c_M_ofVolume7 hM_g7 hSm_g7 hBg_g7 he hsz hsz2 hlen hbl hsm (n := n) hn3) rfl ?_
  refine mn_iastN (j := 7) hVl_g7 rfl (by omega) (by omega) dMo_make_110 ?_
  obtain ⟨g8, eg8⟩ : ∃ gg_, gg_ = mn_set g7 (mo + 6) (.inl (0, 80, .inl (upd (upd (upd (upd (upd (upd (upd (upd (fun j => nI ((bdL vl (fun j0 => mkV (zb sm (bg e)) (LnS (bg e) (sz - 12)) (SnS bg e (sz - 12)) (sz - 12) (pcN (bg e) (sz - 12)) n j0) (sz - 12)) j)) 0 86) 1 83) 2 (nI st)) 3 (nI n)) 4 (nI (pcN (bg e) (sz - 12)))) 5 (nI rp)) 6 (nI (mkV (zb sm (bg e)) (LnS (bg e) (sz - 12)) (SnS bg e (sz - 12)) (sz - 12) (pcN (bg e) (sz - 12)) n 6))) 7 (nI (mkV (zb sm (bg e)) (LnS (bg e) (sz - 12)) (SnS bg e (sz - 12)) (sz - 12) (pcN (bg e) (sz - 12)) n 7))))) := ⟨_, rfl⟩
  refine mn_R.toG eg8 ?_
  have hM_g8 : mn_at g8 mo (.inr (11, [.int 0, .ref (mo + 1), .int (nI tl), .ref (mo + 2), .ref (mo + 3), .int (nI e), .int (nI sz), .int (nI rp), .int (nI st), .ref (mo + 4), .ref (mo + 5), .ref (mo + 6), .int ir, .int (nI m), .int (nI r), .int (nI wd), .int (nI ag), .ref (mo + 7), .ref (mo + 8), .ref (mo + 9), .ref (mo + 10), .int (nI td), .int (nI om), .ref (mo + 11), .ref (mo + 12), .ref (mo + 13), .ref (mo + 14), .ref (mo + 15), .ref (mo + 16)])) := by rw [eg8]; exact hM_g7.off (by omega)
  have hSm_g8 : mn_at g8 (mo + 2) (.inl (0, 1260, .inl (fun j => nI (sm j)))) := by rw [eg8]; exact hSm_g7.off (by omega)
  have hBg_g8 : mn_at g8 (mo + 3) (.inl (0, 21, .inl (fun j => nI (bg j)))) := by rw [eg8]; exact hBg_g7.off (by omega)
  have hVl_g8 : mn_at g8 (mo + 6) (.inl (0, 80, .inl (upd (upd (upd (upd (upd (upd (upd (upd (fun j => nI ((bdL vl (fun j0 => mkV (zb sm (bg e)) (LnS (bg e) (sz - 12)) (SnS bg e (sz - 12)) (sz - 12) (pcN (bg e) (sz - 12)) n j0) (sz - 12)) j)) 0 86) 1 83) 2 (nI st)) 3 (nI n)) 4 (nI (pcN (bg e) (sz - 12)))) 5 (nI rp)) 6 (nI (mkV (zb sm (bg e)) (LnS (bg e) (sz - 12)) (SnS bg e (sz - 12)) (sz - 12) (pcN (bg e) (sz - 12)) n 6))) 7 (nI (mkV (zb sm (bg e)) (LnS (bg e) (sz - 12)) (SnS bg e (sz - 12)) (sz - 12) (pcN (bg e) (sz - 12)) n 7))))) := by rw [eg8]; exact hVl_g7.same
  have hVm_g8 : mn_at g8 (mo + 6) (.inl (0, 80, .inl (fun j => nI (mkM vl (fun j0 => mkV (zb sm (bg e)) (LnS (bg e) (sz - 12)) (SnS bg e (sz - 12)) (sz - 12) (pcN (bg e) (sz - 12)) n j0) st n (pcN (bg e) (sz - 12)) rp (sz - 12) j)))) := by unfold mkM; rw [← upd_nI, ← upd_nI, ← upd_nI, ← upd_nI, ← upd_nI, ← upd_nI, ← upd_nI, ← upd_nI]; exact hVl_g8
  refine mn_aload_n 0 dMo_make_111 rfl rfl ?_
  refine mn_get okMo 11 lMo_32 (by decide) hM_g8 rfl dMo_make_112 ?_
  refine mn_bipush (v := 12) dMo_make_115 (by decide) ?_
  refine mn_aload_n 0 dMo_make_117 rfl rfl ?_
  refine mn_cV (d' := 0) (w' := 0) (As := []) (stk' := [.int (nI (sz - 12)), .int 12, .ref (mo + 6)]) okMo_piece lMo_94 dMo_make_118 hM_g8 rfl rfl rfl rfl (Nat.le_of_ble_eq_true rfl) (Nat.le_of_ble_eq_true rfl) (by decide) (c_M_piece hM_g8 hsz) rfl ?_
  refine mn_cS (d' := 1) (w' := 21) (As := [.ref (mo + 6), .int 12, .int (nI (sz - 12))]) (stk' := [.int (nI (suN (mkM vl (fun j0 => mkV (zb sm (bg e)) (LnS (bg e) (sz - 12)) (SnS bg e (sz - 12)) (sz - 12) (pcN (bg e) (sz - 12)) n j0) st n (pcN (bg e) (sz - 12)) rp (sz - 12)) 12 (sz - 12)))]) okMo_sum lMo_80 dMo_make_121 rfl rfl (Nat.le_of_ble_eq_true rfl) (Nat.le_of_ble_eq_true rfl) (by decide) (c_M_sumN hVm_g8 (fr := 12) (n := sz - 12) (by omega) (by omega)) rfl ?_
  refine mn_istore_n (ls' := [(0, .ref mo), (1, .int (nI n)), (2, .int (nI (suN (mkM vl (fun j0 => mkV (zb sm (bg e)) (LnS (bg e) (sz - 12)) (SnS bg e (sz - 12)) (sz - 12) (pcN (bg e) (sz - 12)) n j0) st n (pcN (bg e) (sz - 12)) rp (sz - 12)) 12 (sz - 12))))]) dMo_make_124 rfl (by decide) rfl ?_
  refine mn_aload_n 0 dMo_make_125 rfl rfl ?_
  refine mn_get okMo 11 lMo_32 (by decide) hM_g8 rfl dMo_make_126 ?_
  refine mn_bipush (v := 8) dMo_make_129 (by decide) ?_
  refine mn_iload_n 2 dMo_make_131 rfl rfl ?_
  refine mn_sipush (v := 256) dMo_make_132 (by decide) ?_
  refine mn_irem (z := nI ((suN (mkM vl (fun j0 => mkV (zb sm (bg e)) (LnS (bg e) (sz - 12)) (SnS bg e (sz - 12)) (sz - 12) (pcN (bg e) (sz - 12)) n j0) st n (pcN (bg e) (sz - 12)) rp (sz - 12)) 12 (sz - 12)) % 256)) dMo_make_135 (nI_ne0 (n := 256) (by omega) (by omega)) (pk_rem (a := suN (mkM vl (fun j0 => mkV (zb sm (bg e)) (LnS (bg e) (sz - 12)) (SnS bg e (sz - 12)) (sz - 12) (pcN (bg e) (sz - 12)) n j0) st n (pcN (bg e) (sz - 12)) rp (sz - 12)) 12 (sz - 12)) (d := 256) (by omega) (by omega) (by omega)) ?_
  refine mn_iastN (j := 8) hVm_g8 rfl (by omega) (by omega) dMo_make_136 ?_
  obtain ⟨g9, eg9⟩ : ∃ gg_, gg_ = mn_set g8 (mo + 6) (.inl (0, 80, .inl (upd (fun j => nI ((mkM vl (fun j0 => mkV (zb sm (bg e)) (LnS (bg e) (sz - 12)) (SnS bg e (sz - 12)) (sz - 12) (pcN (bg e) (sz - 12)) n j0) st n (pcN (bg e) (sz - 12)) rp (sz - 12)) j)) 8 (nI ((suN (mkM vl (fun j0 => mkV (zb sm (bg e)) (LnS (bg e) (sz - 12)) (SnS bg e (sz - 12)) (sz - 12) (pcN (bg e) (sz - 12)) n j0) st n (pcN (bg e) (sz - 12)) rp (sz - 12)) 12 (sz - 12)) % 256))))) := ⟨_, rfl⟩
  refine mn_R.toG eg9 ?_
  have hM_g9 : mn_at g9 mo (.inr (11, [.int 0, .ref (mo + 1), .int (nI tl), .ref (mo + 2), .ref (mo + 3), .int (nI e), .int (nI sz), .int (nI rp), .int (nI st), .ref (mo + 4), .ref (mo + 5), .ref (mo + 6), .int ir, .int (nI m), .int (nI r), .int (nI wd), .int (nI ag), .ref (mo + 7), .ref (mo + 8), .ref (mo + 9), .ref (mo + 10), .int (nI td), .int (nI om), .ref (mo + 11), .ref (mo + 12), .ref (mo + 13), .ref (mo + 14), .ref (mo + 15), .ref (mo + 16)])) := by rw [eg9]; exact hM_g8.off (by omega)
  have hSm_g9 : mn_at g9 (mo + 2) (.inl (0, 1260, .inl (fun j => nI (sm j)))) := by rw [eg9]; exact hSm_g8.off (by omega)
  have hBg_g9 : mn_at g9 (mo + 3) (.inl (0, 21, .inl (fun j => nI (bg j)))) := by rw [eg9]; exact hBg_g8.off (by omega)
  have hVm_g9 : mn_at g9 (mo + 6) (.inl (0, 80, .inl (upd (fun j => nI ((mkM vl (fun j0 => mkV (zb sm (bg e)) (LnS (bg e) (sz - 12)) (SnS bg e (sz - 12)) (sz - 12) (pcN (bg e) (sz - 12)) n j0) st n (pcN (bg e) (sz - 12)) rp (sz - 12)) j)) 8 (nI ((suN (mkM vl (fun j0 => mkV (zb sm (bg e)) (LnS (bg e) (sz - 12)) (SnS bg e (sz - 12)) (sz - 12) (pcN (bg e) (sz - 12)) n j0) st n (pcN (bg e) (sz - 12)) rp (sz - 12)) 12 (sz - 12)) % 256))))) := by rw [eg9]; exact hVm_g8.same
  refine mn_aload_n 0 dMo_make_137 rfl rfl ?_
  refine mn_get okMo 11 lMo_32 (by decide) hM_g9 rfl dMo_make_138 ?_
  refine mn_bipush (v := 9) dMo_make_141 (by decide) ?_
  refine mn_iload_n 2 dMo_make_143 rfl rfl ?_
  refine mn_sipush (v := 256) dMo_make_144 (by decide) ?_
  refine mn_idiv (z := nI ((suN (mkM vl (fun j0 => mkV (zb sm (bg e)) (LnS (bg e) (sz - 12)) (SnS bg e (sz - 12)) (sz - 12) (pcN (bg e) (sz - 12)) n j0) st n (pcN (bg e) (sz - 12)) rp (sz - 12)) 12 (sz - 12)) / 256)) dMo_make_147 (nI_ne0 (n := 256) (by omega) (by omega)) (pk_div (a := suN (mkM vl (fun j0 => mkV (zb sm (bg e)) (LnS (bg e) (sz - 12)) (SnS bg e (sz - 12)) (sz - 12) (pcN (bg e) (sz - 12)) n j0) st n (pcN (bg e) (sz - 12)) rp (sz - 12)) 12 (sz - 12)) (d := 256) (by omega) (by omega) (by omega)) ?_
  refine mn_iastN (j := 9) hVm_g9 rfl (by omega) (by omega) dMo_make_148 ?_
  obtain ⟨g10, eg10⟩ : ∃ gg_, gg_ = mn_set g9 (mo + 6) (.inl (0, 80, .inl (upd (upd (fun j => nI ((mkM vl (fun j0 => mkV (zb sm (bg e)) (LnS (bg e) (sz - 12)) (SnS bg e (sz - 12)) (sz - 12) (pcN (bg e) (sz - 12)) n j0) st n (pcN (bg e) (sz - 12)) rp (sz - 12)) j)) 8 (nI ((suN (mkM vl (fun j0 => mkV (zb sm (bg e)) (LnS (bg e) (sz - 12)) (SnS bg e (sz - 12)) (sz - 12) (pcN (bg e) (sz - 12)) n j0) st n (pcN (bg e) (sz - 12)) rp (sz - 12)) 12 (sz - 12)) % 256))) 9 (nI ((suN (mkM vl (fun j0 => mkV (zb sm (bg e)) (LnS (bg e) (sz - 12)) (SnS bg e (sz - 12)) (sz - 12) (pcN (bg e) (sz - 12)) n j0) st n (pcN (bg e) (sz - 12)) rp (sz - 12)) 12 (sz - 12)) / 256))))) := ⟨_, rfl⟩
  refine mn_R.toG eg10 ?_
  have hM_g10 : mn_at g10 mo (.inr (11, [.int 0, .ref (mo + 1), .int (nI tl), .ref (mo + 2), .ref (mo + 3), .int (nI e), .int (nI sz), .int (nI rp), .int (nI st), .ref (mo + 4), .ref (mo + 5), .ref (mo + 6), .int ir, .int (nI m), .int (nI r), .int (nI wd), .int (nI ag), .ref (mo + 7), .ref (mo + 8), .ref (mo + 9), .ref (mo + 10), .int (nI td), .int (nI om), .ref (mo + 11), .ref (mo + 12), .ref (mo + 13), .ref (mo + 14), .ref (mo + 15), .ref (mo + 16)])) := by rw [eg10]; exact hM_g9.off (by omega)
  have hSm_g10 : mn_at g10 (mo + 2) (.inl (0, 1260, .inl (fun j => nI (sm j)))) := by rw [eg10]; exact hSm_g9.off (by omega)
  have hBg_g10 : mn_at g10 (mo + 3) (.inl (0, 21, .inl (fun j => nI (bg j)))) := by rw [eg10]; exact hBg_g9.off (by omega)
  have hVm_g10 : mn_at g10 (mo + 6) (.inl (0, 80, .inl (upd (upd (fun j => nI ((mkM vl (fun j0 => mkV (zb sm (bg e)) (LnS (bg e) (sz - 12)) (SnS bg e (sz - 12)) (sz - 12) (pcN (bg e) (sz - 12)) n j0) st n (pcN (bg e) (sz - 12)) rp (sz - 12)) j)) 8 (nI ((suN (mkM vl (fun j0 => mkV (zb sm (bg e)) (LnS (bg e) (sz - 12)) (SnS bg e (sz - 12)) (sz - 12) (pcN (bg e) (sz - 12)) n j0) st n (pcN (bg e) (sz - 12)) rp (sz - 12)) 12 (sz - 12)) % 256))) 9 (nI ((suN (mkM vl (fun j0 => mkV (zb sm (bg e)) (LnS (bg e) (sz - 12)) (SnS bg e (sz - 12)) (sz - 12) (pcN (bg e) (sz - 12)) n j0) st n (pcN (bg e) (sz - 12)) rp (sz - 12)) 12 (sz - 12)) / 256))))) := by rw [eg10]; exact hVm_g9.same
  have hVq_g10 : mn_at g10 (mo + 6) (.inl (0, 80, .inl (fun j => nI (mkM2 vl (fun j0 => mkV (zb sm (bg e)) (LnS (bg e) (sz - 12)) (SnS bg e (sz - 12)) (sz - 12) (pcN (bg e) (sz - 12)) n j0) st n (pcN (bg e) (sz - 12)) rp (sz - 12) j)))) := by have h9 := hVm_g10; rw [upd_nI, upd_nI] at h9; exact h9
  refine mn_aload_n 0 dMo_make_149 rfl rfl ?_
  refine mn_get okMo 11 lMo_32 (by decide) hM_g10 rfl dMo_make_150 ?_
  refine mn_iconst (v := 0) dMo_make_153 (by decide) ?_
  refine mn_bipush (v := 10) dMo_make_154 (by decide) ?_
  refine mn_cS (d' := 1) (w' := 21) (As := [.ref (mo + 6), .int 0, .int 10]) (stk' := [.int (nI (suN (mkM2 vl (fun j0 => mkV (zb sm (bg e)) (LnS (bg e) (sz - 12)) (SnS bg e (sz - 12)) (sz - 12) (pcN (bg e) (sz - 12)) n j0) st n (pcN (bg e) (sz - 12)) rp (sz - 12)) 0 10))]) okMo_sum lMo_80 dMo_make_156 rfl rfl (Nat.le_of_ble_eq_true rfl) (Nat.le_of_ble_eq_true rfl) (by decide) (c_M_sumN hVq_g10 (fr := 0) (n := 10) (by omega) (by omega)) rfl ?_
  refine mn_istore_n (ls' := [(0, .ref mo), (1, .int (nI n)), (2, .int (nI (suN (mkM vl (fun j0 => mkV (zb sm (bg e)) (LnS (bg e) (sz - 12)) (SnS bg e (sz - 12)) (sz - 12) (pcN (bg e) (sz - 12)) n j0) st n (pcN (bg e) (sz - 12)) rp (sz - 12)) 12 (sz - 12)))), (3, .int (nI (suN (mkM2 vl (fun j0 => mkV (zb sm (bg e)) (LnS (bg e) (sz - 12)) (SnS bg e (sz - 12)) (sz - 12) (pcN (bg e) (sz - 12)) n j0) st n (pcN (bg e) (sz - 12)) rp (sz - 12)) 0 10)))]) dMo_make_159 rfl (by decide) rfl ?_
  refine mn_aload_n 0 dMo_make_160 rfl rfl ?_
  refine mn_get okMo 11 lMo_32 (by decide) hM_g10 rfl dMo_make_161 ?_
  refine mn_bipush (v := 10) dMo_make_164 (by decide) ?_
  refine mn_iload_n 3 dMo_make_166 rfl rfl ?_
  refine mn_sipush (v := 256) dMo_make_167 (by decide) ?_
  refine mn_irem (z := nI ((suN (mkM2 vl (fun j0 => mkV (zb sm (bg e)) (LnS (bg e) (sz - 12)) (SnS bg e (sz - 12)) (sz - 12) (pcN (bg e) (sz - 12)) n j0) st n (pcN (bg e) (sz - 12)) rp (sz - 12)) 0 10) % 256)) dMo_make_170 (nI_ne0 (n := 256) (by omega) (by omega)) (pk_rem (a := suN (mkM2 vl (fun j0 => mkV (zb sm (bg e)) (LnS (bg e) (sz - 12)) (SnS bg e (sz - 12)) (sz - 12) (pcN (bg e) (sz - 12)) n j0) st n (pcN (bg e) (sz - 12)) rp (sz - 12)) 0 10) (d := 256) (by omega) (by omega) (by omega)) ?_
  refine mn_iastN (j := 10) hVq_g10 rfl (by omega) (by omega) dMo_make_171 ?_
  obtain ⟨g11, eg11⟩ : ∃ gg_, gg_ = mn_set g10 (mo + 6) (.inl (0, 80, .inl (upd (fun j => nI ((mkM2 vl (fun j0 => mkV (zb sm (bg e)) (LnS (bg e) (sz - 12)) (SnS bg e (sz - 12)) (sz - 12) (pcN (bg e) (sz - 12)) n j0) st n (pcN (bg e) (sz - 12)) rp (sz - 12)) j)) 10 (nI ((suN (mkM2 vl (fun j0 => mkV (zb sm (bg e)) (LnS (bg e) (sz - 12)) (SnS bg e (sz - 12)) (sz - 12) (pcN (bg e) (sz - 12)) n j0) st n (pcN (bg e) (sz - 12)) rp (sz - 12)) 0 10) % 256))))) := ⟨_, rfl⟩
  refine mn_R.toG eg11 ?_
  have hM_g11 : mn_at g11 mo (.inr (11, [.int 0, .ref (mo + 1), .int (nI tl), .ref (mo + 2), .ref (mo + 3), .int (nI e), .int (nI sz), .int (nI rp), .int (nI st), .ref (mo + 4), .ref (mo + 5), .ref (mo + 6), .int ir, .int (nI m), .int (nI r), .int (nI wd), .int (nI ag), .ref (mo + 7), .ref (mo + 8), .ref (mo + 9), .ref (mo + 10), .int (nI td), .int (nI om), .ref (mo + 11), .ref (mo + 12), .ref (mo + 13), .ref (mo + 14), .ref (mo + 15), .ref (mo + 16)])) := by rw [eg11]; exact hM_g10.off (by omega)
  have hSm_g11 : mn_at g11 (mo + 2) (.inl (0, 1260, .inl (fun j => nI (sm j)))) := by rw [eg11]; exact hSm_g10.off (by omega)
  have hBg_g11 : mn_at g11 (mo + 3) (.inl (0, 21, .inl (fun j => nI (bg j)))) := by rw [eg11]; exact hBg_g10.off (by omega)
  have hVq_g11 : mn_at g11 (mo + 6) (.inl (0, 80, .inl (upd (fun j => nI ((mkM2 vl (fun j0 => mkV (zb sm (bg e)) (LnS (bg e) (sz - 12)) (SnS bg e (sz - 12)) (sz - 12) (pcN (bg e) (sz - 12)) n j0) st n (pcN (bg e) (sz - 12)) rp (sz - 12)) j)) 10 (nI ((suN (mkM2 vl (fun j0 => mkV (zb sm (bg e)) (LnS (bg e) (sz - 12)) (SnS bg e (sz - 12)) (sz - 12) (pcN (bg e) (sz - 12)) n j0) st n (pcN (bg e) (sz - 12)) rp (sz - 12)) 0 10) % 256))))) := by rw [eg11]; exact hVq_g10.same
  refine mn_aload_n 0 dMo_make_172 rfl rfl ?_
  refine mn_get okMo 11 lMo_32 (by decide) hM_g11 rfl dMo_make_173 ?_
  refine mn_bipush (v := 11) dMo_make_176 (by decide) ?_
  refine mn_iload_n 3 dMo_make_178 rfl rfl ?_
  refine mn_sipush (v := 256) dMo_make_179 (by decide) ?_
  refine mn_idiv (z := nI ((suN (mkM2 vl (fun j0 => mkV (zb sm (bg e)) (LnS (bg e) (sz - 12)) (SnS bg e (sz - 12)) (sz - 12) (pcN (bg e) (sz - 12)) n j0) st n (pcN (bg e) (sz - 12)) rp (sz - 12)) 0 10) / 256)) dMo_make_182 (nI_ne0 (n := 256) (by omega) (by omega)) (pk_div (a := suN (mkM2 vl (fun j0 => mkV (zb sm (bg e)) (LnS (bg e) (sz - 12)) (SnS bg e (sz - 12)) (sz - 12) (pcN (bg e) (sz - 12)) n j0) st n (pcN (bg e) (sz - 12)) rp (sz - 12)) 0 10) (d := 256) (by omega) (by omega) (by omega)) ?_
  refine mn_iastN (j := 11) hVq_g11 rfl (by omega) (by omega) dMo_make_183 ?_
  obtain ⟨g12, eg12⟩ : ∃ gg_, gg_ = mn_set g11 (mo + 6) (.inl (0, 80, .inl (upd (upd (fun j => nI ((mkM2 vl (fun j0 => mkV (zb sm (bg e)) (LnS (bg e) (sz - 12)) (SnS bg e (sz - 12)) (sz - 12) (pcN (bg e) (sz - 12)) n j0) st n (pcN (bg e) (sz - 12)) rp (sz - 12)) j)) 10 (nI ((suN (mkM2 vl (fun j0 => mkV (zb sm (bg e)) (LnS (bg e) (sz - 12)) (SnS bg e (sz - 12)) (sz - 12) (pcN (bg e) (sz - 12)) n j0) st n (pcN (bg e) (sz - 12)) rp (sz - 12)) 0 10) % 256))) 11 (nI ((suN (mkM2 vl (fun j0 => mkV (zb sm (bg e)) (LnS (bg e) (sz - 12)) (SnS bg e (sz - 12)) (sz - 12) (pcN (bg e) (sz - 12)) n j0) st n (pcN (bg e) (sz - 12)) rp (sz - 12)) 0 10) / 256))))) := ⟨_, rfl⟩
  refine mn_R.toG eg12 ?_
  have hM_g12 : mn_at g12 mo (.inr (11, [.int 0, .ref (mo + 1), .int (nI tl), .ref (mo + 2), .ref (mo + 3), .int (nI e), .int (nI sz), .int (nI rp), .int (nI st), .ref (mo + 4), .ref (mo + 5), .ref (mo + 6), .int ir, .int (nI m), .int (nI r), .int (nI wd), .int (nI ag), .ref (mo + 7), .ref (mo + 8), .ref (mo + 9), .ref (mo + 10), .int (nI td), .int (nI om), .ref (mo + 11), .ref (mo + 12), .ref (mo + 13), .ref (mo + 14), .ref (mo + 15), .ref (mo + 16)])) := by rw [eg12]; exact hM_g11.off (by omega)
  have hSm_g12 : mn_at g12 (mo + 2) (.inl (0, 1260, .inl (fun j => nI (sm j)))) := by rw [eg12]; exact hSm_g11.off (by omega)
  have hBg_g12 : mn_at g12 (mo + 3) (.inl (0, 21, .inl (fun j => nI (bg j)))) := by rw [eg12]; exact hBg_g11.off (by omega)
  have hVq_g12 : mn_at g12 (mo + 6) (.inl (0, 80, .inl (upd (upd (fun j => nI ((mkM2 vl (fun j0 => mkV (zb sm (bg e)) (LnS (bg e) (sz - 12)) (SnS bg e (sz - 12)) (sz - 12) (pcN (bg e) (sz - 12)) n j0) st n (pcN (bg e) (sz - 12)) rp (sz - 12)) j)) 10 (nI ((suN (mkM2 vl (fun j0 => mkV (zb sm (bg e)) (LnS (bg e) (sz - 12)) (SnS bg e (sz - 12)) (sz - 12) (pcN (bg e) (sz - 12)) n j0) st n (pcN (bg e) (sz - 12)) rp (sz - 12)) 0 10) % 256))) 11 (nI ((suN (mkM2 vl (fun j0 => mkV (zb sm (bg e)) (LnS (bg e) (sz - 12)) (SnS bg e (sz - 12)) (sz - 12) (pcN (bg e) (sz - 12)) n j0) st n (pcN (bg e) (sz - 12)) rp (sz - 12)) 0 10) / 256))))) := by rw [eg12]; exact hVq_g11.same
  exact mn_vret rfl dMo_make_184 (by have h9 := hVq_g12; rw [upd_nI, upd_nI] at h9; refine ⟨rfl, ((((((((((((mn_fr.rf.set eg1 (by show (mo + 6) = mo + 6; omega)).set eg2 (by show (mo + 6) = mo + 6; omega)).set eg3 (by show (mo + 6) = mo + 6; omega)).set eg4 (by show (mo + 6) = mo + 6; omega)).set eg5 (by show (mo + 6) = mo + 6; omega)).set eg6 (by show (mo + 6) = mo + 6; omega)).set eg7 (by show (mo + 6) = mo + 6; omega)).set eg8 (by show (mo + 6) = mo + 6; omega)).set eg9 (by show (mo + 6) = mo + 6; omega)).set eg10 (by show (mo + 6) = mo + 6; omega)).set eg11 (by show (mo + 6) = mo + 6; omega)).set eg12 (by show (mo + 6) = mo + 6; omega)), mkM3 vl (fun j0 => mkV (zb sm (bg e)) (LnS (bg e) (sz - 12)) (SnS bg e (sz - 12)) (sz - 12) (pcN (bg e) (sz - 12)) n j0) st n (pcN (bg e) (sz - 12)) rp (sz - 12), h9, fun j hj => ?_, mkM3_lt (V := (fun j0 => mkV (zb sm (bg e)) (LnS (bg e) (sz - 12)) (SnS bg e (sz - 12)) (sz - 12) (pcN (bg e) (sz - 12)) n j0)) hvl hVlt hst (by omega) (by omega) (by omega) _⟩; rw [mkM3_eq vl (fun j0 => mkV (zb sm (bg e)) (LnS (bg e) (sz - 12)) (SnS bg e (sz - 12)) (sz - 12) (pcN (bg e) (sz - 12)) n j0) (fun _ => 0) st n (pcN (bg e) (sz - 12)) rp (sz - 12) j (by omega), show sz - 12 + 12 = sz by omega]; rfl)
set_option maxRecDepth 100000 in
theorem c_M_make_l {E : mn_En} {g : mn_H} {mo tl e sz rp st m r wd ag td om : Nat} {ir : Int32} {sm bg vl : Nat → Nat} (he : e ≤ 20) (hsz : 20 ≤ sz) (hsz2 : sz ≤ 80) (hlen : bg e ≤ 1260) (hbl : ∀ k, k < e → bg k < bg e) (hsm : ∀ j, sm j < 256) (hm60 : pcN (bg e) (sz - 12) ≤ 60) (hrp : rp ≤ 3) (hst : st < 256) (hvl : ∀ j, vl j < 256) {n : Nat} (hn3 : n < pcN (bg e) (sz - 12) + 3) : ∀ (fu i : Nat) (g0 : mn_H), i ≤ sz - 12 → sz - 12 - i < fu → mn_fr (fun q => q = mo + 6) g g0 → mn_at g0 mo (.inr (11, [.int 0, .ref (mo + 1), .int (nI tl), .ref (mo + 2), .ref (mo + 3), .int (nI e), .int (nI sz), .int (nI rp), .int (nI st), .ref (mo + 4), .ref (mo + 5), .ref (mo + 6), .int ir, .int (nI m), .int (nI r), .int (nI wd), .int (nI ag), .ref (mo + 7), .ref (mo + 8), .ref (mo + 9), .ref (mo + 10), .int (nI td), .int (nI om), .ref (mo + 11), .ref (mo + 12), .ref (mo + 13), .ref (mo + 14), .ref (mo + 15), .ref (mo + 16)])) → mn_at g0 (mo + 2) (.inl (0, 1260, .inl (fun j => nI (sm j)))) → mn_at g0 (mo + 3) (.inl (0, 21, .inl (fun j => nI (bg j)))) → mn_at g0 (mo + 6) (.inl (0, 80, .inl (fun j => nI ((bdL vl (fun j0 => mkV (zb sm (bg e)) (LnS (bg e) (sz - 12)) (SnS bg e (sz - 12)) (sz - 12) (pcN (bg e) (sz - 12)) n j0) i) j)))) → mn_R E MMo_make 3 75 0 0 2 [(0, .ref mo), (1, .int (nI n)), (2, .int (nI i))] [] g0 (fun x g' => x = none ∧ mn_fr (fun q => q = mo + 6) g g' ∧ ∃ vw : Nat → Nat, mn_at g' (mo + 6) (.inl (0, 80, .inl (fun j => nI (vw j)))) ∧ (∀ j, j < sz → vw j = vlN (fun _ => 0) (zb sm (bg e)) (LnS (bg e) (sz - 12)) (SnS bg e (sz - 12)) (sz - 12) (pcN (bg e) (sz - 12)) n st rp sz j) ∧ ∀ j, vw j < 256) := by
  intro fu
  induction fu with
  | zero => intro i g0 h1 h2; exact absurd h2 (by omega)
  | succ fu ih =>
    intro i g0 h1 h2 hfr hM hSm hBg hVl
    refine mn_iload_n 2 dMo_make_2 rfl rfl ?_
    refine mn_aload_n 0 dMo_make_3 rfl rfl ?_
    refine mn_cV (d' := 0) (w' := 0) (As := []) (stk' := [.int (nI (sz - 12)), .int (nI i)]) okMo_piece lMo_94 dMo_make_4 hM rfl rfl rfl rfl (Nat.le_of_ble_eq_true rfl) (Nat.le_of_ble_eq_true rfl) (by decide) (c_M_piece hM hsz) rfl ?_
    refine mn_icmp_ge 31 dMo_make_7 (by decide) (fun c1 => ?_) (fun c1 => ?_)
    · have c1 := (nI_leI (a := (sz - 12)) (b := i) (by omega) (by omega)).mp c1
      refine mn_R.sub [0, 1] (ls' := [(0, .ref mo), (1, .int (nI n))]) rfl ?_
      obtain rfl : i = sz - 12 := (by omega)
      refine mn_R.post (c_M_make_z hM hSm hBg hVl he hsz hsz2 hlen hbl hsm hm60 hrp hst hvl hn3) (fun x g' hq => ⟨hq.1, hfr.tr hq.2.1, hq.2.2⟩)
    · have c1 := mt (nI_leI (a := (sz - 12)) (b := i) (by omega) (by omega)).mpr c1
      refine mn_aload_n 0 dMo_make_10 rfl rfl ?_
      refine mn_get okMo 11 lMo_32 (by decide) hM rfl dMo_make_11 ?_
      refine mn_bipush (v := 12) dMo_make_14 (by decide) ?_
      refine mn_iload_n 2 dMo_make_16 rfl rfl ?_
      refine mn_iadd (z := nI (12 + i)) dMo_make_17 (nI_add 12 i) ?_
      refine mn_aload_n 0 dMo_make_18 rfl rfl ?_
      refine mn_iload_n 1 dMo_make_19 rfl rfl ?_
      refine mn_iload_n 2 dMo_make_20 rfl rfl ?_
      refine mn_cV (d' := 2) (w' := 48) (As := [.int (nI n), .int (nI i)]) (stk' := [.int (nI (mkV (zb sm (bg e)) (LnS (bg e) (sz - 12)) (SnS bg e (sz - 12)) (sz - 12) (pcN (bg e) (sz - 12)) n (12 + i))), .int (nI (12 + i)), .ref (mo + 6)]) okMo_ofVolume lMo_110 dMo_make_21 hM rfl rfl rfl rfl (Nat.le_of_ble_eq_true rfl) (Nat.le_of_ble_eq_true rfl) (by decide) (c_M_ofVolume hM hSm hBg he hsz hsz2 hlen hbl hsm (n := n) (i := i) hn3 (by omega)) rfl ?_
      refine mn_iastN (j := 12 + i) hVl rfl (by omega) (by omega) dMo_make_24 ?_
      obtain ⟨g2, eg2⟩ : ∃ gg_, gg_ = mn_set g0 (mo + 6) (.inl (0, 80, .inl (upd (fun j => nI ((bdL vl (fun j0 => mkV (zb sm (bg e)) (LnS (bg e) (sz - 12)) (SnS bg e (sz - 12)) (sz - 12) (pcN (bg e) (sz - 12)) n j0) i) j)) (12 + i) (nI (mkV (zb sm (bg e)) (LnS (bg e) (sz - 12)) (SnS bg e (sz - 12)) (sz - 12) (pcN (bg e) (sz - 12)) n (12 + i)))))) := ⟨_, rfl⟩
      refine mn_R.toG eg2 ?_
      have hM_g2 : mn_at g2 mo (.inr (11, [.int 0, .ref (mo + 1), .int (nI tl), .ref (mo + 2), .ref (mo + 3), .int (nI e), .int (nI sz), .int (nI rp), .int (nI st), .ref (mo + 4), .ref (mo + 5), .ref (mo + 6), .int ir, .int (nI m), .int (nI r), .int (nI wd), .int (nI ag), .ref (mo + 7), .ref (mo + 8), .ref (mo + 9), .ref (mo + 10), .int (nI td), .int (nI om), .ref (mo + 11), .ref (mo + 12), .ref (mo + 13), .ref (mo + 14), .ref (mo + 15), .ref (mo + 16)])) := by rw [eg2]; exact hM.off (by omega)
      have hSm_g2 : mn_at g2 (mo + 2) (.inl (0, 1260, .inl (fun j => nI (sm j)))) := by rw [eg2]; exact hSm.off (by omega)
      have hBg_g2 : mn_at g2 (mo + 3) (.inl (0, 21, .inl (fun j => nI (bg j)))) := by rw [eg2]; exact hBg.off (by omega)
      have hVl_g2 : mn_at g2 (mo + 6) (.inl (0, 80, .inl (upd (fun j => nI ((bdL vl (fun j0 => mkV (zb sm (bg e)) (LnS (bg e) (sz - 12)) (SnS bg e (sz - 12)) (sz - 12) (pcN (bg e) (sz - 12)) n j0) i) j)) (12 + i) (nI (mkV (zb sm (bg e)) (LnS (bg e) (sz - 12)) (SnS bg e (sz - 12)) (sz - 12) (pcN (bg e) (sz - 12)) n (12 + i)))))) := by rw [eg2]; exact hVl.same
      refine mn_iinc (v := nI (i + 1)) (ls' := [(0, .ref mo), (1, .int (nI n)), (2, .int (nI (i + 1)))]) 2 dMo_make_25 rfl (nI_add i 1) (by decide) rfl ?_
      refine mn_goto 2 dMo_make_28 (by decide) ?_
      have h9 : mn_at g2 (mo + 6) (.inl (0, 80, .inl (fun j => nI (bdL vl (fun j0 => mkV (zb sm (bg e)) (LnS (bg e) (sz - 12)) (SnS bg e (sz - 12)) (sz - 12) (pcN (bg e) (sz - 12)) n j0) (i + 1) j)))) := by rw [← bdL_s, ← upd_nI]; exact hVl_g2
      exact ih (i + 1) g2 (by omega) (by omega) (hfr.set eg2 (by show (mo + 6) = mo + 6; omega)) hM_g2 hSm_g2 hBg_g2 h9
set_option maxRecDepth 100000 in
theorem c_M_make {E : mn_En} {g : mn_H} {mo tl e sz rp st m r wd ag td om : Nat} {ir : Int32} {sm bg vl : Nat → Nat} (hM : mn_at g mo (.inr (11, [.int 0, .ref (mo + 1), .int (nI tl), .ref (mo + 2), .ref (mo + 3), .int (nI e), .int (nI sz), .int (nI rp), .int (nI st), .ref (mo + 4), .ref (mo + 5), .ref (mo + 6), .int ir, .int (nI m), .int (nI r), .int (nI wd), .int (nI ag), .ref (mo + 7), .ref (mo + 8), .ref (mo + 9), .ref (mo + 10), .int (nI td), .int (nI om), .ref (mo + 11), .ref (mo + 12), .ref (mo + 13), .ref (mo + 14), .ref (mo + 15), .ref (mo + 16)]))) (hSm : mn_at g (mo + 2) (.inl (0, 1260, .inl (fun j => nI (sm j))))) (hBg : mn_at g (mo + 3) (.inl (0, 21, .inl (fun j => nI (bg j))))) (hVl : mn_at g (mo + 6) (.inl (0, 80, .inl (fun j => nI (vl j))))) (he : e ≤ 20) (hsz : 20 ≤ sz) (hsz2 : sz ≤ 80) (hlen : bg e ≤ 1260) (hbl : ∀ k, k < e → bg k < bg e) (hsm : ∀ j, sm j < 256) (hm60 : pcN (bg e) (sz - 12) ≤ 60) (hrp : rp ≤ 3) (hst : st < 256) (hvl : ∀ j, vl j < 256) {n : Nat} (hn3 : n < pcN (bg e) (sz - 12) + 3) : mn_R E MMo_make 3 75 0 0 0 [(0, .ref mo), (1, .int (nI n))] [] g (fun x g' => x = none ∧ mn_fr (fun q => q = mo + 6) g g' ∧ ∃ vw : Nat → Nat, mn_at g' (mo + 6) (.inl (0, 80, .inl (fun j => nI (vw j)))) ∧ (∀ j, j < sz → vw j = vlN (fun _ => 0) (zb sm (bg e)) (LnS (bg e) (sz - 12)) (SnS bg e (sz - 12)) (sz - 12) (pcN (bg e) (sz - 12)) n st rp sz j) ∧ ∀ j, vw j < 256) := by
  refine mn_iconst (v := 0) dMo_make_0 (by decide) ?_
  refine mn_istore_n (ls' := [(0, .ref mo), (1, .int (nI n)), (2, .int 0)]) dMo_make_1 rfl (by decide) rfl ?_
  have h9 : mn_at g (mo + 6) (.inl (0, 80, .inl (fun j => nI (bdL vl (fun j0 => mkV (zb sm (bg e)) (LnS (bg e) (sz - 12)) (SnS bg e (sz - 12)) (sz - 12) (pcN (bg e) (sz - 12)) n j0) 0 j)))) := by rw [bdL_0]; exact hVl
  exact c_M_make_l he hsz hsz2 hlen hbl hsm hm60 hrp hst hvl hn3 (sz - 12 + 1) 0 g (by omega) (by omega) mn_fr.rf hM hSm hBg h9
