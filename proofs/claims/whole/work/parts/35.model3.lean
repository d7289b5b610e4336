set_option maxRecDepth 100000 in
theorem c_M_byteOf_full {E : mn_En} {g : mn_H} {mo tl e sz rp st m r wd ag td om : Nat} {ir : Int32} {bg : Nat → Nat} (hM : mn_at g mo (.inr (11, [.int 0, .ref (mo + 1), .int (nI tl), .ref (mo + 2), .ref (mo + 3), .int (nI e), .int (nI sz), .int (nI rp), .int (nI st), .ref (mo + 4), .ref (mo + 5), .ref (mo + 6), .int ir, .int (nI m), .int (nI r), .int (nI wd), .int (nI ag), .ref (mo + 7), .ref (mo + 8), .ref (mo + 9), .ref (mo + 10), .int (nI td), .int (nI om), .ref (mo + 11), .ref (mo + 12), .ref (mo + 13), .ref (mo + 14), .ref (mo + 15), .ref (mo + 16)]))) (hBg : mn_at g (mo + 3) (.inl (0, 21, .inl (fun j => nI (bg j))))) (he : e ≤ 20) (hsz : 20 ≤ sz) (hsz2 : sz ≤ 80) (hrp : rp ≤ 3) (hlen : bg e ≤ 1260) (hf : 60 < pcN (bg e) (sz - 12) + rp) {x1 x2 : Int32} : mn_R E MMo_byteOf 4 98 0 0 0 [(0, .ref mo), (1, .int x1), (2, .int x2)] [] g (fun x g' => x = some (.int (-3)) ∧ mn_fr (fun q => q = mo) g g' ∧ mn_at g' mo (.inr (11, [.int 0, .ref (mo + 1), .int (nI tl), .ref (mo + 2), .ref (mo + 3), .int (nI e), .int (nI sz), .int (nI rp), .int (nI st), .ref (mo + 4), .ref (mo + 5), .ref (mo + 6), .int ir, .int (nI m), .int (nI r), .int (nI wd), .int (nI ag), .ref (mo + 7), .ref (mo + 8), .ref (mo + 9), .ref (mo + 10), .int (nI td), .int (nI om), .ref (mo + 11), .ref (mo + 12), .ref (mo + 13), .ref (mo + 14), .ref (mo + 15), .ref (mo + 16)]))) := by
  have hpc : pcN (bg e) (sz - 12) < 100000 := by unfold pcN; have := Nat.div_le_self (bg e + (sz - 12) - 1) (sz - 12); rw [Nat.max_def]; split <;> omega
  refine mn_aload_n 0 dMo_byteOf_0 rfl rfl ?_
  refine mn_callV (d' := 2) (w' := 40) (nc' := 0) (ns' := 0) (As := []) (st := []) okMo_volumes lMo_113 dMo_byteOf_1 hM rfl rfl rfl rfl (Nat.le_of_ble_eq_true rfl) (Nat.le_of_ble_eq_true rfl) (by decide) (c_M_volumes_full hM hBg he hsz hsz2 hrp hlen hf) (fun v g1 hq => ?_)
  obtain ⟨rfl, fg1, hM_g1⟩ := hq
  have hM_g1 : mn_at g1 mo (.inr (11, [.int 0, .ref (mo + 1), .int (nI tl), .ref (mo + 2), .ref (mo + 3), .int (nI e), .int (nI sz), .int (nI rp), .int (nI st), .ref (mo + 4), .ref (mo + 5), .ref (mo + 6), .int ir, .int (nI m), .int (nI r), .int (nI wd), .int (nI ag), .ref (mo + 7), .ref (mo + 8), .ref (mo + 9), .ref (mo + 10), .int (nI td), .int (nI om), .ref (mo + 11), .ref (mo + 12), .ref (mo + 13), .ref (mo + 14), .ref (mo + 15), .ref (mo + 16)])) := hM_g1
  show mn_R E MMo_byteOf 4 98 _ _ 4 [(0, .ref mo), (1, .int x1), (2, .int x2)] [.int (-3)] g1 _
  have hBg_g1 := hBg.fr fg1 (fun h => by have h9 : (mo + 3) = mo := h; omega)
  refine mn_istore_n (ls' := [(0, .ref mo), (1, .int x1), (2, .int x2), (3, .int (-3))]) dMo_byteOf_4 rfl (by decide) rfl ?_
  refine mn_iload_n 3 dMo_byteOf_5 rfl rfl ?_
  refine mn_bipush (v := (-3)) dMo_byteOf_6 (by decide) ?_
  refine mn_icmp_ne 14 dMo_byteOf_8 (by decide) (fun c2 => ?_) (fun c2 => ?_)
  · exact absurd c2 (by decide)
  · refine mn_bipush (v := (-3)) dMo_byteOf_11 (by decide) ?_
    exact mn_iret rfl dMo_byteOf_13 ⟨rfl, (mn_fr.rf.tr (fg1.mo (fun q h => by have h9 : q = mo := h; show q = mo; omega))), hM_g1⟩
theorem i32_n1 {x : Int32} {N : Nat} (hN : 0 < N) (h2 : N < 2 ^ 31) (h : x < 0 ∨ nI N ≤ x) : x < 0 ∨ nI (N - 1) < x := by
  rcases h with q | q
  · exact Or.inl q
  · refine Or.inr (Int32.lt_of_lt_of_le ?_ q)
    rw [nI_ltI (by omega) h2]
    omega
set_option maxRecDepth 100000 in
theorem c_M_byteOf_bad1 {E : mn_En} {g : mn_H} {mo tl e sz rp st m r wd ag td om : Nat} {ir : Int32} {bg : Nat → Nat} (hM : mn_at g mo (.inr (11, [.int 0, .ref (mo + 1), .int (nI tl), .ref (mo + 2), .ref (mo + 3), .int (nI e), .int (nI sz), .int (nI rp), .int (nI st), .ref (mo + 4), .ref (mo + 5), .ref (mo + 6), .int ir, .int (nI m), .int (nI r), .int (nI wd), .int (nI ag), .ref (mo + 7), .ref (mo + 8), .ref (mo + 9), .ref (mo + 10), .int (nI td), .int (nI om), .ref (mo + 11), .ref (mo + 12), .ref (mo + 13), .ref (mo + 14), .ref (mo + 15), .ref (mo + 16)]))) (hBg : mn_at g (mo + 3) (.inl (0, 21, .inl (fun j => nI (bg j))))) (he : e ≤ 20) (hsz : 20 ≤ sz) (hsz2 : sz ≤ 80) (hrp : rp ≤ 3) (hlen : bg e ≤ 1260) (hf : pcN (bg e) (sz - 12) + rp ≤ 60) {x1 x2 : Int32} (hx : x1 < 0 ∨ nI (pcN (bg e) (sz - 12) + rp) ≤ x1) : mn_R E MMo_byteOf 4 98 0 0 0 [(0, .ref mo), (1, .int x1), (2, .int x2)] [] g (fun x g' => x = some (.int (-1)) ∧ mn_fr (fun q => q = mo) g g' ∧ mn_at g' mo (.inr (11, [.int 0, .ref (mo + 1), .int (nI tl), .ref (mo + 2), .ref (mo + 3), .int (nI e), .int (nI sz), .int (nI rp), .int (nI st), .ref (mo + 4), .ref (mo + 5), .ref (mo + 6), .int ir, .int (nI m), .int (nI r), .int (nI wd), .int (nI ag), .ref (mo + 7), .ref (mo + 8), .ref (mo + 9), .ref (mo + 10), .int (nI td), .int (nI om), .ref (mo + 11), .ref (mo + 12), .ref (mo + 13), .ref (mo + 14), .ref (mo + 15), .ref (mo + 16)]))) := by
  have hpc : pcN (bg e) (sz - 12) < 100000 := by unfold pcN; have := Nat.div_le_self (bg e + (sz - 12) - 1) (sz - 12); rw [Nat.max_def]; split <;> omega
  have hm1 := pcN_pos (bg e) (sz - 12)
  refine mn_aload_n 0 dMo_byteOf_0 rfl rfl ?_
  refine mn_callV (d' := 2) (w' := 40) (nc' := 0) (ns' := 0) (As := []) (st := []) okMo_volumes lMo_113 dMo_byteOf_1 hM rfl rfl rfl rfl (Nat.le_of_ble_eq_true rfl) (Nat.le_of_ble_eq_true rfl) (by decide) (c_M_volumes hM hBg he hsz hsz2 hrp hlen hf) (fun v g1 hq => ?_)
  obtain ⟨rfl, fg1, hM_g1⟩ := hq
  have hM_g1 : mn_at g1 mo (.inr (11, [.int 0, .ref (mo + 1), .int (nI tl), .ref (mo + 2), .ref (mo + 3), .int (nI e), .int (nI sz), .int (nI rp), .int (nI st), .ref (mo + 4), .ref (mo + 5), .ref (mo + 6), .int ir, .int (nI m), .int (nI r), .int (nI wd), .int (nI ag), .ref (mo + 7), .ref (mo + 8), .ref (mo + 9), .ref (mo + 10), .int (nI td), .int (nI om), .ref (mo + 11), .ref (mo + 12), .ref (mo + 13), .ref (mo + 14), .ref (mo + 15), .ref (mo + 16)])) := hM_g1
  show mn_R E MMo_byteOf 4 98 _ _ 4 [(0, .ref mo), (1, .int x1), (2, .int x2)] [.int (nI (pcN (bg e) (sz - 12) + rp))] g1 _
  have hBg_g1 := hBg.fr fg1 (fun h => by have h9 : (mo + 3) = mo := h; omega)
  refine mn_istore_n (ls' := [(0, .ref mo), (1, .int x1), (2, .int x2), (3, .int (nI (pcN (bg e) (sz - 12) + rp)))]) dMo_byteOf_4 rfl (by decide) rfl ?_
  refine mn_iload_n 3 dMo_byteOf_5 rfl rfl ?_
  refine mn_bipush (v := (-3)) dMo_byteOf_6 (by decide) ?_
  refine mn_icmp_ne 14 dMo_byteOf_8 (by decide) (fun c2 => ?_) (fun c2 => ?_)
  · refine mn_iload_n 1 dMo_byteOf_14 rfl rfl ?_
    refine mn_iconst (v := 0) dMo_byteOf_15 (by decide) ?_
    refine mn_iload_n 3 dMo_byteOf_16 rfl rfl ?_
    refine mn_iconst (v := 1) dMo_byteOf_17 (by decide) ?_
    refine mn_isub (z := nI (pcN (bg e) (sz - 12) + rp - 1)) dMo_byteOf_18 (pk_sub (a := pcN (bg e) (sz - 12) + rp) (b := 1) (by omega)) ?_
    refine mn_cS (d' := 0) (w' := 0) (As := [.int x1, .int 0, .int (nI (pcN (bg e) (sz - 12) + rp - 1))]) (stk' := [.int 0]) okMo_in lMo_68 dMo_byteOf_19 rfl rfl (Nat.le_of_ble_eq_true rfl) (Nat.le_of_ble_eq_true rfl) (by decide) (c_M_in_n (i32_n1 (by omega) (by omega) hx)) rfl ?_
    refine mn_if_eq 39 dMo_byteOf_22 (by decide) (fun c3 => ?_) (fun c3 => ?_)
    · refine mn_iconst (v := -1) dMo_byteOf_39 (by decide) ?_
      exact mn_iret rfl dMo_byteOf_40 ⟨rfl, (mn_fr.rf.tr (fg1.mo (fun q h => by have h9 : q = mo := h; show q = mo; omega))), hM_g1⟩
    · exact absurd c3 (by decide)
  · exact absurd c2 (nI_nm3 (by omega))
set_option maxRecDepth 100000 in
theorem c_M_byteOf_bad2 {E : mn_En} {g : mn_H} {mo tl e sz rp st m r wd ag td om : Nat} {ir : Int32} {bg : Nat → Nat} (hM : mn_at g mo (.inr (11, [.int 0, .ref (mo + 1), .int (nI tl), .ref (mo + 2), .ref (mo + 3), .int (nI e), .int (nI sz), .int (nI rp), .int (nI st), .ref (mo + 4), .ref (mo + 5), .ref (mo + 6), .int ir, .int (nI m), .int (nI r), .int (nI wd), .int (nI ag), .ref (mo + 7), .ref (mo + 8), .ref (mo + 9), .ref (mo + 10), .int (nI td), .int (nI om), .ref (mo + 11), .ref (mo + 12), .ref (mo + 13), .ref (mo + 14), .ref (mo + 15), .ref (mo + 16)]))) (hBg : mn_at g (mo + 3) (.inl (0, 21, .inl (fun j => nI (bg j))))) (he : e ≤ 20) (hsz : 20 ≤ sz) (hsz2 : sz ≤ 80) (hrp : rp ≤ 3) (hlen : bg e ≤ 1260) (hf : pcN (bg e) (sz - 12) + rp ≤ 60) {n : Nat} {x2 : Int32} (hn : n < pcN (bg e) (sz - 12) + rp) (hx : x2 < 0 ∨ nI sz ≤ x2) : mn_R E MMo_byteOf 4 98 0 0 0 [(0, .ref mo), (1, .int (nI n)), (2, .int x2)] [] g (fun x g' => x = some (.int (-1)) ∧ mn_fr (fun q => q = mo) g g' ∧ mn_at g' mo (.inr (11, [.int 0, .ref (mo + 1), .int (nI tl), .ref (mo + 2), .ref (mo + 3), .int (nI e), .int (nI sz), .int (nI rp), .int (nI st), .ref (mo + 4), .ref (mo + 5), .ref (mo + 6), .int ir, .int (nI m), .int (nI r), .int (nI wd), .int (nI ag), .ref (mo + 7), .ref (mo + 8), .ref (mo + 9), .ref (mo + 10), .int (nI td), .int (nI om), .ref (mo + 11), .ref (mo + 12), .ref (mo + 13), .ref (mo + 14), .ref (mo + 15), .ref (mo + 16)]))) := by
  have hpc : pcN (bg e) (sz - 12) < 100000 := by unfold pcN; have := Nat.div_le_self (bg e + (sz - 12) - 1) (sz - 12); rw [Nat.max_def]; split <;> omega
  have hm1 := pcN_pos (bg e) (sz - 12)
  refine mn_aload_n 0 dMo_byteOf_0 rfl rfl ?_
  refine mn_callV (d' := 2) (w' := 40) (nc' := 0) (ns' := 0) (As := []) (st := []) okMo_volumes lMo_113 dMo_byteOf_1 hM rfl rfl rfl rfl (Nat.le_of_ble_eq_true rfl) (Nat.le_of_ble_eq_true rfl) (by decide) (c_M_volumes hM hBg he hsz hsz2 hrp hlen hf) (fun v g1 hq => ?_)
  obtain ⟨rfl, fg1, hM_g1⟩ := hq
  have hM_g1 : mn_at g1 mo (.inr (11, [.int 0, .ref (mo + 1), .int (nI tl), .ref (mo + 2), .ref (mo + 3), .int (nI e), .int (nI sz), .int (nI rp), .int (nI st), .ref (mo + 4), .ref (mo + 5), .ref (mo + 6), .int ir, .int (nI m), .int (nI r), .int (nI wd), .int (nI ag), .ref (mo + 7), .ref (mo + 8), .ref (mo + 9), .ref (mo + 10), .int (nI td), .int (nI om), .ref (mo + 11), .ref (mo + 12), .ref (mo + 13), .ref (mo + 14), .ref (mo + 15), .ref (mo + 16)])) := hM_g1
  show mn_R E MMo_byteOf 4 98 _ _ 4 [(0, .ref mo), (1, .int (nI n)), (2, .int x2)] [.int (nI (pcN (bg e) (sz - 12) + rp))] g1 _
  have hBg_g1 := hBg.fr fg1 (fun h => by have h9 : (mo + 3) = mo := h; omega)
  refine mn_istore_n (ls' := [(0, .ref mo), (1, .int (nI n)), (2, .int x2), (3, .int (nI (pcN (bg e) (sz - 12) + rp)))]) dMo_byteOf_4 rfl (by decide) rfl ?_
  refine mn_iload_n 3 dMo_byteOf_5 rfl rfl ?_
  refine mn_bipush (v := (-3)) dMo_byteOf_6 (by decide) ?_
  refine mn_icmp_ne 14 dMo_byteOf_8 (by decide) (fun c2 => ?_) (fun c2 => ?_)
  · refine mn_iload_n 1 dMo_byteOf_14 rfl rfl ?_
    refine mn_iconst (v := 0) dMo_byteOf_15 (by decide) ?_
    refine mn_iload_n 3 dMo_byteOf_16 rfl rfl ?_
    refine mn_iconst (v := 1) dMo_byteOf_17 (by decide) ?_
    refine mn_isub (z := nI (pcN (bg e) (sz - 12) + rp - 1)) dMo_byteOf_18 (pk_sub (a := pcN (bg e) (sz - 12) + rp) (b := 1) (by omega)) ?_
    refine mn_cS (d' := 0) (w' := 0) (As := [.int (nI n), .int 0, .int (nI (pcN (bg e) (sz - 12) + rp - 1))]) (stk' := [.int 1]) okMo_in lMo_68 dMo_byteOf_19 rfl rfl (Nat.le_of_ble_eq_true rfl) (Nat.le_of_ble_eq_true rfl) (by decide) (c_M_in_y (nI_pos (by omega)) (ml_lt (a := n) (b := pcN (bg e) (sz - 12) + rp - 1) (by omega) (by omega) (by omega))) rfl ?_
    refine mn_if_eq 39 dMo_byteOf_22 (by decide) (fun c3 => ?_) (fun c3 => ?_)
    · exact absurd c3 (by decide)
    · refine mn_iload_n 2 dMo_byteOf_25 rfl rfl ?_
      refine mn_iconst (v := 0) dMo_byteOf_26 (by decide) ?_
      refine mn_aload_n 0 dMo_byteOf_27 rfl rfl ?_
      refine mn_get okMo 6 lMo_23 (by decide) hM_g1 rfl dMo_byteOf_28 ?_
      refine mn_iconst (v := 1) dMo_byteOf_31 (by decide) ?_
      refine mn_isub (z := nI (sz - 1)) dMo_byteOf_32 (pk_sub (a := sz) (b := 1) (by omega)) ?_
      refine mn_cS (d' := 0) (w' := 0) (As := [.int x2, .int 0, .int (nI (sz - 1))]) (stk' := [.int 0]) okMo_in lMo_68 dMo_byteOf_33 rfl rfl (Nat.le_of_ble_eq_true rfl) (Nat.le_of_ble_eq_true rfl) (by decide) (c_M_in_n (i32_n1 (by omega) (by omega) hx)) rfl ?_
      refine mn_if_ne 41 dMo_byteOf_36 (by decide) (fun c4 => ?_) (fun c4 => ?_)
      · exact absurd c4 (by decide)
      · refine mn_iconst (v := -1) dMo_byteOf_39 (by decide) ?_
        exact mn_iret rfl dMo_byteOf_40 ⟨rfl, (mn_fr.rf.tr (fg1.mo (fun q h => by have h9 : q = mo := h; show q = mo; omega))), hM_g1⟩
  · exact absurd c2 (nI_nm3 (by omega))
set_option maxRecDepth 100000 in
theorem c_M_byteOf {E : mn_En} {g : mn_H} {mo tl e sz rp st m r wd ag td om : Nat} {ir : Int32} {sm bg vl : Nat → Nat} (hM : mn_at g mo (.inr (11, [.int 0, .ref (mo + 1), .int (nI tl), .ref (mo + 2), .ref (mo + 3), .int (nI e), .int (nI sz), .int (nI rp), .int (nI st), .ref (mo + 4), .ref (mo + 5), .ref (mo + 6), .int ir, .int (nI m), .int (nI r), .int (nI wd), .int (nI ag), .ref (mo + 7), .ref (mo + 8), .ref (mo + 9), .ref (mo + 10), .int (nI td), .int (nI om), .ref (mo + 11), .ref (mo + 12), .ref (mo + 13), .ref (mo + 14), .ref (mo + 15), .ref (mo + 16)]))) (hSm : mn_at g (mo + 2) (.inl (0, 1260, .inl (fun j => nI (sm j))))) (hBg : mn_at g (mo + 3) (.inl (0, 21, .inl (fun j => nI (bg j))))) (hVl : mn_at g (mo + 6) (.inl (0, 80, .inl (fun j => nI (vl j))))) (he : e ≤ 20) (hsz : 20 ≤ sz) (hsz2 : sz ≤ 80) (hlen : bg e ≤ 1260) (hbl : ∀ k, k < e → bg k < bg e) (hsm : ∀ j, sm j < 256) (hm60 : pcN (bg e) (sz - 12) ≤ 60) (hrp : rp ≤ 3) (hst : st < 256) (hvl : ∀ j, vl j < 256) (hf : pcN (bg e) (sz - 12) + rp ≤ 60) {n i : Nat} (hn : n < pcN (bg e) (sz - 12) + rp) (hi : i < sz) : mn_R E MMo_byteOf 4 98 0 0 0 [(0, .ref mo), (1, .int (nI n)), (2, .int (nI i))] [] g (fun x g' => x = some (.int (nI (vlN (fun _ => 0) (zb sm (bg e)) (LnS (bg e) (sz - 12)) (SnS bg e (sz - 12)) (sz - 12) (pcN (bg e) (sz - 12)) n st rp sz i))) ∧ mn_fr (fun q => q = mo ∨ q = mo + 6) g g' ∧ mn_at g' mo (.inr (11, [.int 0, .ref (mo + 1), .int (nI tl), .ref (mo + 2), .ref (mo + 3), .int (nI e), .int (nI sz), .int (nI rp), .int (nI st), .ref (mo + 4), .ref (mo + 5), .ref (mo + 6), .int ir, .int (nI m), .int (nI r), .int (nI wd), .int (nI ag), .ref (mo + 7), .ref (mo + 8), .ref (mo + 9), .ref (mo + 10), .int (nI td), .int (nI om), .ref (mo + 11), .ref (mo + 12), .ref (mo + 13), .ref (mo + 14), .ref (mo + 15), .ref (mo + 16)])) ∧ ∃ vw : Nat → Nat, mn_at g' (mo + 6) (.inl (0, 80, .inl (fun j => nI (vw j)))) ∧ ∀ j, vw j < 256) := by
  have hpc : pcN (bg e) (sz - 12) < 100000 := by unfold pcN; have := Nat.div_le_self (bg e + (sz - 12) - 1) (sz - 12); rw [Nat.max_def]; split <;> omega
  have hm1 := pcN_pos (bg e) (sz - 12)
  refine mn_aload_n 0 dMo_byteOf_0 rfl rfl ?_
  refine mn_callV (d' := 2) (w' := 40) (nc' := 0) (ns' := 0) (As := []) (st := []) okMo_volumes lMo_113 dMo_byteOf_1 hM rfl rfl rfl rfl (Nat.le_of_ble_eq_true rfl) (Nat.le_of_ble_eq_true rfl) (by decide) (c_M_volumes hM hBg he hsz hsz2 hrp hlen hf) (fun v g1 hq => ?_)
  obtain ⟨rfl, fg1, hM_g1⟩ := hq
  have hM_g1 : mn_at g1 mo (.inr (11, [.int 0, .ref (mo + 1), .int (nI tl), .ref (mo + 2), .ref (mo + 3), .int (nI e), .int (nI sz), .int (nI rp), .int (nI st), .ref (mo + 4), .ref (mo + 5), .ref (mo + 6), .int ir, .int (nI m), .int (nI r), .int (nI wd), .int (nI ag), .ref (mo + 7), .ref (mo + 8), .ref (mo + 9), .ref (mo + 10), .int (nI td), .int (nI om), .ref (mo + 11), .ref (mo + 12), .ref (mo + 13), .ref (mo + 14), .ref (mo + 15), .ref (mo + 16)])) := hM_g1
  show mn_R E MMo_byteOf 4 98 _ _ 4 [(0, .ref mo), (1, .int (nI n)), (2, .int (nI i))] [.int (nI (pcN (bg e) (sz - 12) + rp))] g1 _
  have hSm_g1 := hSm.fr fg1 (fun h => by have h9 : (mo + 2) = mo := h; omega)
  have hBg_g1 := hBg.fr fg1 (fun h => by have h9 : (mo + 3) = mo := h; omega)
  have hVl_g1 := hVl.fr fg1 (fun h => by have h9 : (mo + 6) = mo := h; omega)
  refine mn_istore_n (ls' := [(0, .ref mo), (1, .int (nI n)), (2, .int (nI i)), (3, .int (nI (pcN (bg e) (sz - 12) + rp)))]) dMo_byteOf_4 rfl (by decide) rfl ?_
  refine mn_iload_n 3 dMo_byteOf_5 rfl rfl ?_
  refine mn_bipush (v := (-3)) dMo_byteOf_6 (by decide) ?_
  refine mn_icmp_ne 14 dMo_byteOf_8 (by decide) (fun c2 => ?_) (fun c2 => ?_)
  · refine mn_iload_n 1 dMo_byteOf_14 rfl rfl ?_
    refine mn_iconst (v := 0) dMo_byteOf_15 (by decide) ?_
    refine mn_iload_n 3 dMo_byteOf_16 rfl rfl ?_
    refine mn_iconst (v := 1) dMo_byteOf_17 (by decide) ?_
    refine mn_isub (z := nI (pcN (bg e) (sz - 12) + rp - 1)) dMo_byteOf_18 (pk_sub (a := pcN (bg e) (sz - 12) + rp) (b := 1) (by omega)) ?_
    refine mn_cS (d' := 0) (w' := 0) (As := [.int (nI n), .int 0, .int (nI (pcN (bg e) (sz - 12) + rp - 1))]) (stk' := [.int 1]) okMo_in lMo_68 dMo_byteOf_19 rfl rfl (Nat.le_of_ble_eq_true rfl) (Nat.le_of_ble_eq_true rfl) (by decide) (c_M_in_y (nI_pos (by omega)) (ml_lt (a := n) (b := pcN (bg e) (sz - 12) + rp - 1) (by omega) (by omega) (by omega))) rfl ?_
    refine mn_if_eq 39 dMo_byteOf_22 (by decide) (fun c3 => ?_) (fun c3 => ?_)
    · exact absurd c3 (by decide)
    · refine mn_iload_n 2 dMo_byteOf_25 rfl rfl ?_
      refine mn_iconst (v := 0) dMo_byteOf_26 (by decide) ?_
      refine mn_aload_n 0 dMo_byteOf_27 rfl rfl ?_
      refine mn_get okMo 6 lMo_23 (by decide) hM_g1 rfl dMo_byteOf_28 ?_
      refine mn_iconst (v := 1) dMo_byteOf_31 (by decide) ?_
      refine mn_isub (z := nI (sz - 1)) dMo_byteOf_32 (pk_sub (a := sz) (b := 1) (by omega)) ?_
      refine mn_cS (d' := 0) (w' := 0) (As := [.int (nI i), .int 0, .int (nI (sz - 1))]) (stk' := [.int 1]) okMo_in lMo_68 dMo_byteOf_33 rfl rfl (Nat.le_of_ble_eq_true rfl) (Nat.le_of_ble_eq_true rfl) (by decide) (c_M_in_y (nI_pos (by omega)) (ml_lt (a := i) (b := sz - 1) (by omega) (by omega) (by omega))) rfl ?_
      refine mn_if_ne 41 dMo_byteOf_36 (by decide) (fun c4 => ?_) (fun c4 => ?_)
      · refine mn_aload_n 0 dMo_byteOf_41 rfl rfl ?_
        refine mn_iload_n 1 dMo_byteOf_42 rfl rfl ?_
        refine mn_callV (d' := 3) (w' := 75) (nc' := 0) (ns' := 0) (As := [.int (nI n)]) (st := []) okMo_make lMo_116 dMo_byteOf_43 hM_g1 rfl rfl rfl rfl (Nat.le_of_ble_eq_true rfl) (Nat.le_of_ble_eq_true rfl) (by decide) (c_M_make hM_g1 hSm_g1 hBg_g1 hVl_g1 he hsz hsz2 hlen hbl hsm hm60 hrp hst hvl (n := n) (by omega)) (fun v g5 hq => ?_)
        obtain ⟨rfl, fg5, vw, hVw_g5, hvw, hvwl⟩ := hq
        show mn_R E MMo_byteOf 4 98 _ _ 46 [(0, .ref mo), (1, .int (nI n)), (2, .int (nI i)), (3, .int (nI (pcN (bg e) (sz - 12) + rp)))] [] g5 _
        have hM_g5 := hM_g1.fr fg5 (fun h => by have h9 : mo = mo + 6 := h; omega)
        have hSm_g5 := hSm_g1.fr fg5 (fun h => by have h9 : (mo + 2) = mo + 6 := h; omega)
        have hBg_g5 := hBg_g1.fr fg5 (fun h => by have h9 : (mo + 3) = mo + 6 := h; omega)
        refine mn_aload_n 0 dMo_byteOf_46 rfl rfl ?_
        refine mn_get okMo 11 lMo_32 (by decide) hM_g5 rfl dMo_byteOf_47 ?_
        refine mn_iload_n 2 dMo_byteOf_50 rfl rfl ?_
        refine mn_ialdN (j := i) hVw_g5 rfl (by omega) (by omega) dMo_byteOf_51 ?_
        exact mn_iret rfl dMo_byteOf_52 (by rw [← hvw i hi]; exact ⟨rfl, ((mn_fr.rf.tr (fg1.mo (fun q h => by have h9 : q = mo := h; show q = mo ∨ q = mo + 6; omega))).tr (fg5.mo (fun q h => by have h9 : q = mo + 6 := h; show q = mo ∨ q = mo + 6; omega))), hM_g5, vw, hVw_g5, hvwl⟩)
      · exact absurd c4 (by decide)
  · exact absurd c2 (nI_nm3 (by omega))
set_option maxRecDepth 100000 in
theorem c_M_isT_0 {E : mn_En} {g : mn_H} {mo tl e sz rp st m r wd ag td om : Nat} {ir : Int32} {sl ss vl : Nat → Nat} (hM : mn_at g mo (.inr (11, [.int 0, .ref (mo + 1), .int (nI tl), .ref (mo + 2), .ref (mo + 3), .int (nI e), .int (nI sz), .int (nI rp), .int (nI st), .ref (mo + 4), .ref (mo + 5), .ref (mo + 6), .int ir, .int (nI m), .int (nI r), .int (nI wd), .int (nI ag), .ref (mo + 7), .ref (mo + 8), .ref (mo + 9), .ref (mo + 10), .int (nI td), .int (nI om), .ref (mo + 11), .ref (mo + 12), .ref (mo + 13), .ref (mo + 14), .ref (mo + 15), .ref (mo + 16)]))) (hSo : mn_at g (mo + 4) (.inl (0, 4800, .inl (fun j => nI (sl j))))) (hSs : mn_at g (mo + 5) (.inl (0, 60, .inl (fun j => nI (ss j))))) (hVl : mn_at g (mo + 6) (.inl (0, 80, .inl (fun j => nI (vl j))))) {s k : Nat} {Q : Option Value → mn_H → Prop} (hsz2 : sz ≤ 80) (hk80 : k ≤ 80) (hs60 : s < 60) (KK : mn_R E MMo_isThere 0 0 0 0 2 [(0, .ref mo), (1, .int (nI (s + 1)))] [] g Q) : mn_R E MMo_isThere 0 0 0 0 29 [(0, .ref mo), (1, .int (nI s)), (2, .int 0), (3, .int (nI k))] [] g (Q) := by
  refine mn_iload_n 3 dMo_isThere_29 rfl rfl ?_
  refine mn_aload_n 0 dMo_isThere_30 rfl rfl ?_
  refine mn_get okMo 6 lMo_23 (by decide) hM rfl dMo_isThere_31 ?_
  refine mn_icmp_ge 73 dMo_isThere_34 (by decide) (fun c1 => ?_) (fun c1 => ?_)
  · have c1 := (nI_leI (a := sz) (b := k) (by omega) (by omega)).mp c1
    refine mn_iload_n 2 dMo_isThere_73 rfl rfl ?_
    refine mn_if_eq 79 dMo_isThere_74 (by decide) (fun c2 => ?_) (fun c2 => ?_)
    · refine mn_iinc (v := nI (s + 1)) (ls' := [(0, .ref mo), (1, .int (nI (s + 1))), (2, .int 0), (3, .int (nI k))]) 1 dMo_isThere_79 rfl (nI_add s 1) (by decide) rfl ?_
      refine mn_goto 2 dMo_isThere_82 (by decide) ?_
      refine mn_R.sub [0, 1] (ls' := [(0, .ref mo), (1, .int (nI (s + 1)))]) rfl ?_
      exact KK
    · exact absurd c2 (by decide)
  · have c1 := mt (nI_leI (a := sz) (b := k) (by omega) (by omega)).mpr c1
    refine mn_iload_n 2 dMo_isThere_37 rfl rfl ?_
    refine mn_if_eq 73 dMo_isThere_38 (by decide) (fun c3 => ?_) (fun c3 => ?_)
    · refine mn_iload_n 2 dMo_isThere_73 rfl rfl ?_
      refine mn_if_eq 79 dMo_isThere_74 (by decide) (fun c4 => ?_) (fun c4 => ?_)
      · refine mn_iinc (v := nI (s + 1)) (ls' := [(0, .ref mo), (1, .int (nI (s + 1))), (2, .int 0), (3, .int (nI k))]) 1 dMo_isThere_79 rfl (nI_add s 1) (by decide) rfl ?_
        refine mn_goto 2 dMo_isThere_82 (by decide) ?_
        refine mn_R.sub [0, 1] (ls' := [(0, .ref mo), (1, .int (nI (s + 1)))]) rfl ?_
        exact KK
      · exact absurd c4 (by decide)
    · exact absurd c3 (by decide)
set_option maxRecDepth 100000 in
theorem c_M_isT_1 {E : mn_En} {g : mn_H} {mo tl e sz rp st m r wd ag td om : Nat} {ir : Int32} {sl ss vl : Nat → Nat} (hM : mn_at g mo (.inr (11, [.int 0, .ref (mo + 1), .int (nI tl), .ref (mo + 2), .ref (mo + 3), .int (nI e), .int (nI sz), .int (nI rp), .int (nI st), .ref (mo + 4), .ref (mo + 5), .ref (mo + 6), .int ir, .int (nI m), .int (nI r), .int (nI wd), .int (nI ag), .ref (mo + 7), .ref (mo + 8), .ref (mo + 9), .ref (mo + 10), .int (nI td), .int (nI om), .ref (mo + 11), .ref (mo + 12), .ref (mo + 13), .ref (mo + 14), .ref (mo + 15), .ref (mo + 16)]))) (hSo : mn_at g (mo + 4) (.inl (0, 4800, .inl (fun j => nI (sl j))))) (hSs : mn_at g (mo + 5) (.inl (0, 60, .inl (fun j => nI (ss j))))) (hVl : mn_at g (mo + 6) (.inl (0, 80, .inl (fun j => nI (vl j))))) {s : Nat} (hsz2 : sz ≤ 80) (hss : ∀ k, ss k ≤ 80) (hslb : ∀ j, sl j < 256) (hvl : ∀ j, vl j < 256) (hse : ss s = sz) (hs60 : s < 60) (KK : (∃ k, k < sz ∧ ¬ sl (80 * s + k) = vl k) → mn_R E MMo_isThere 0 0 0 0 2 [(0, .ref mo), (1, .int (nI (s + 1)))] [] g (mn_is (some (.int (@ite _ (hld ss (sbS sl) sz vl) (Classical.propDecidable _) 1 0))) g)) : ∀ (fu k : Nat), k ≤ sz → sz - k < fu → (∀ i, i < k → sl (80 * s + i) = vl i) → mn_R E MMo_isThere 0 0 0 0 29 [(0, .ref mo), (1, .int (nI s)), (2, .int 1), (3, .int (nI k))] [] g (mn_is (some (.int (@ite _ (hld ss (sbS sl) sz vl) (Classical.propDecidable _) 1 0))) g) := by
  intro fu
  induction fu with
  | zero => intro k h1 h2; exact absurd h2 (by omega)
  | succ fu ih =>
    intro k h1 h2 h3
    refine mn_iload_n 3 dMo_isThere_29 rfl rfl ?_
    refine mn_aload_n 0 dMo_isThere_30 rfl rfl ?_
    refine mn_get okMo 6 lMo_23 (by decide) hM rfl dMo_isThere_31 ?_
    refine mn_icmp_ge 73 dMo_isThere_34 (by decide) (fun c1 => ?_) (fun c1 => ?_)
    · have c1 := (nI_leI (a := sz) (b := k) (by omega) (by omega)).mp c1
      refine mn_iload_n 2 dMo_isThere_73 rfl rfl ?_
      refine mn_if_eq 79 dMo_isThere_74 (by decide) (fun c2 => ?_) (fun c2 => ?_)
      · exact absurd c2 (by decide)
      · refine mn_iconst (v := 1) dMo_isThere_77 (by decide) ?_
        exact mn_zret rfl rfl dMo_isThere_78 ⟨by rw [if_pos ⟨s, hs60, hse, fun i hi => h3 i (by omega)⟩], rfl⟩
    · have c1 := mt (nI_leI (a := sz) (b := k) (by omega) (by omega)).mpr c1
      refine mn_iload_n 2 dMo_isThere_37 rfl rfl ?_
      refine mn_if_eq 73 dMo_isThere_38 (by decide) (fun c3 => ?_) (fun c3 => ?_)
      · exact absurd c3 (by decide)
      · have hsk := hslb (80 * s + k)
        have hvk := hvl k
        refine mn_aload_n 0 dMo_isThere_41 rfl rfl ?_
        refine mn_get okMo 9 lMo_26 (by decide) hM rfl dMo_isThere_42 ?_
        refine mn_bipush (v := 80) dMo_isThere_45 (by decide) ?_
        refine mn_iload_n 1 dMo_isThere_47 rfl rfl ?_
        refine mn_imul (z := nI (80 * s)) dMo_isThere_48 (pk_mul 80 s) ?_
        refine mn_iload_n 3 dMo_isThere_49 rfl rfl ?_
        refine mn_iadd (z := nI (80 * s + k)) dMo_isThere_50 (nI_add (80 * s) k) ?_
        refine mn_ialdN (j := 80 * s + k) hSo rfl (by omega) (by omega) dMo_isThere_51 ?_
        refine mn_aload_n 0 dMo_isThere_52 rfl rfl ?_
        refine mn_get okMo 11 lMo_32 (by decide) hM rfl dMo_isThere_53 ?_
        refine mn_iload_n 3 dMo_isThere_56 rfl rfl ?_
        refine mn_ialdN (j := k) hVl rfl (by omega) (by omega) dMo_isThere_57 ?_
        refine mn_icmp_ne 65 dMo_isThere_58 (by decide) (fun c4 => ?_) (fun c4 => ?_)
        · have c4 := mt (nI_eq (a := (sl (80 * s + k))) (b := (vl k)) (by omega) (by omega)).mpr c4
          refine mn_iconst (v := 0) dMo_isThere_65 (by decide) ?_
          refine mn_istore_n (ls' := [(0, .ref mo), (1, .int (nI s)), (2, .int 0), (3, .int (nI k))]) dMo_isThere_66 rfl (by decide) rfl ?_
          refine mn_iinc (v := nI (k + 1)) (ls' := [(0, .ref mo), (1, .int (nI s)), (2, .int 0), (3, .int (nI (k + 1)))]) 3 dMo_isThere_67 rfl (nI_add k 1) (by decide) rfl ?_
          refine mn_goto 29 dMo_isThere_70 (by decide) ?_
          exact c_M_isT_0 hM hSo hSs hVl hsz2 (by omega) hs60 (KK ⟨k, by omega, c4⟩)
        · have c4 := (nI_eq (a := (sl (80 * s + k))) (b := (vl k)) (by omega) (by omega)).mp c4
          refine mn_iconst (v := 1) dMo_isThere_61 (by decide) ?_
          refine mn_goto 66 dMo_isThere_62 (by decide) ?_
          refine mn_istore_n (ls' := [(0, .ref mo), (1, .int (nI s)), (2, .int 1), (3, .int (nI k))]) dMo_isThere_66 rfl (by decide) rfl ?_
          refine mn_iinc (v := nI (k + 1)) (ls' := [(0, .ref mo), (1, .int (nI s)), (2, .int 1), (3, .int (nI (k + 1)))]) 3 dMo_isThere_67 rfl (nI_add k 1) (by decide) rfl ?_
          refine mn_goto 29 dMo_isThere_70 (by decide) ?_
          exact ih (k + 1) (by omega) (by omega) (fun i hi => by rcases Nat.lt_or_ge i k with q | q; exact h3 i q; rw [show i = k by omega]; exact c4)
set_option maxRecDepth 100000 in
theorem c_M_isT_l {E : mn_En} {g : mn_H} {mo tl e sz rp st m r wd ag td om : Nat} {ir : Int32} {sl ss vl : Nat → Nat} (hM : mn_at g mo (.inr (11, [.int 0, .ref (mo + 1), .int (nI tl), .ref (mo + 2), .ref (mo + 3), .int (nI e), .int (nI sz), .int (nI rp), .int (nI st), .ref (mo + 4), .ref (mo + 5), .ref (mo + 6), .int ir, .int (nI m), .int (nI r), .int (nI wd), .int (nI ag), .ref (mo + 7), .ref (mo + 8), .ref (mo + 9), .ref (mo + 10), .int (nI td), .int (nI om), .ref (mo + 11), .ref (mo + 12), .ref (mo + 13), .ref (mo + 14), .ref (mo + 15), .ref (mo + 16)]))) (hSo : mn_at g (mo + 4) (.inl (0, 4800, .inl (fun j => nI (sl j))))) (hSs : mn_at g (mo + 5) (.inl (0, 60, .inl (fun j => nI (ss j))))) (hVl : mn_at g (mo + 6) (.inl (0, 80, .inl (fun j => nI (vl j))))) (hsz2 : sz ≤ 80) (hss : ∀ k, ss k ≤ 80) (hslb : ∀ j, sl j < 256) (hvl : ∀ j, vl j < 256) : ∀ (fu s : Nat), s ≤ 60 → 60 - s < fu → (∀ s', s' < s → ¬ smN (ss s') sz (sbS sl s') vl) → mn_R E MMo_isThere 0 0 0 0 2 [(0, .ref mo), (1, .int (nI s))] [] g (mn_is (some (.int (@ite _ (hld ss (sbS sl) sz vl) (Classical.propDecidable _) 1 0))) g) := by
  intro fu
  induction fu with
  | zero => intro s h1 h2; exact absurd h2 (by omega)
  | succ fu ih =>
    intro s h1 h2 h3
    have hsss := hss s
    refine mn_iload_n 1 dMo_isThere_2 rfl rfl ?_
    refine mn_bipush (v := 60) dMo_isThere_3 (by decide) ?_
    refine mn_icmp_ge 85 dMo_isThere_5 (by decide) (fun c1 => ?_) (fun c1 => ?_)
    · have c1 := (nI_leI (a := 60) (b := s) (by omega) (by omega)).mp c1
      refine mn_iconst (v := 0) dMo_isThere_85 (by decide) ?_
      exact mn_zret rfl rfl dMo_isThere_86 ⟨by rw [if_neg (fun q => by obtain ⟨k, k1, k2⟩ := q; exact h3 k (by omega) k2)], rfl⟩
    · have c1 := mt (nI_leI (a := 60) (b := s) (by omega) (by omega)).mpr c1
      refine mn_aload_n 0 dMo_isThere_8 rfl rfl ?_
      refine mn_get okMo 10 lMo_29 (by decide) hM rfl dMo_isThere_9 ?_
      refine mn_iload_n 1 dMo_isThere_12 rfl rfl ?_
      refine mn_ialdN (j := s) hSs rfl (by omega) (by omega) dMo_isThere_13 ?_
      refine mn_aload_n 0 dMo_isThere_14 rfl rfl ?_
      refine mn_get okMo 6 lMo_23 (by decide) hM rfl dMo_isThere_15 ?_
      refine mn_icmp_ne 25 dMo_isThere_18 (by decide) (fun c2 => ?_) (fun c2 => ?_)
      · have c2 := mt (nI_eq (a := (ss s)) (b := sz) (by omega) (by omega)).mpr c2
        refine mn_iconst (v := 0) dMo_isThere_25 (by decide) ?_
        refine mn_istore_n (ls' := [(0, .ref mo), (1, .int (nI s)), (2, .int 0)]) dMo_isThere_26 rfl (by decide) rfl ?_
        refine mn_iconst (v := 0) dMo_isThere_27 (by decide) ?_
        refine mn_istore_n (ls' := [(0, .ref mo), (1, .int (nI s)), (2, .int 0), (3, .int 0)]) dMo_isThere_28 rfl (by decide) rfl ?_
        refine c_M_isT_0 hM hSo hSs hVl (k := 0) hsz2 (by omega) (by omega) ?_
        exact ih (s + 1) (by omega) (by omega) (fun s' hs' => by rcases Nat.lt_or_ge s' s with q | q; exact h3 s' q; rw [show s' = s by omega]; exact fun hm => c2 hm.1)
      · have c2 := (nI_eq (a := (ss s)) (b := sz) (by omega) (by omega)).mp c2
        refine mn_iconst (v := 1) dMo_isThere_21 (by decide) ?_
        refine mn_goto 26 dMo_isThere_22 (by decide) ?_
        refine mn_istore_n (ls' := [(0, .ref mo), (1, .int (nI s)), (2, .int 1)]) dMo_isThere_26 rfl (by decide) rfl ?_
        refine mn_iconst (v := 0) dMo_isThere_27 (by decide) ?_
        refine mn_istore_n (ls' := [(0, .ref mo), (1, .int (nI s)), (2, .int 1), (3, .int 0)]) dMo_isThere_28 rfl (by decide) rfl ?_
        refine c_M_isT_1 hM hSo hSs hVl hsz2 hss hslb hvl c2 (by omega) (fun hx => ?_) (sz + 1) 0 (by omega) (by omega) (fun i hi => absurd hi (by omega))
        obtain ⟨kx, kx1, kx2⟩ := hx
        exact ih (s + 1) (by omega) (by omega) (fun s' hs' => by rcases Nat.lt_or_ge s' s with q | q; exact h3 s' q; rw [show s' = s by omega]; exact fun hm => kx2 (hm.2 kx (by have := hm.1; omega)))
set_option maxRecDepth 100000 in
theorem c_M_isThere {E : mn_En} {g : mn_H} {mo tl e sz rp st m r wd ag td om : Nat} {ir : Int32} {sl ss vl : Nat → Nat} (hM : mn_at g mo (.inr (11, [.int 0, .ref (mo + 1), .int (nI tl), .ref (mo + 2), .ref (mo + 3), .int (nI e), .int (nI sz), .int (nI rp), .int (nI st), .ref (mo + 4), .ref (mo + 5), .ref (mo + 6), .int ir, .int (nI m), .int (nI r), .int (nI wd), .int (nI ag), .ref (mo + 7), .ref (mo + 8), .ref (mo + 9), .ref (mo + 10), .int (nI td), .int (nI om), .ref (mo + 11), .ref (mo + 12), .ref (mo + 13), .ref (mo + 14), .ref (mo + 15), .ref (mo + 16)]))) (hSo : mn_at g (mo + 4) (.inl (0, 4800, .inl (fun j => nI (sl j))))) (hSs : mn_at g (mo + 5) (.inl (0, 60, .inl (fun j => nI (ss j))))) (hVl : mn_at g (mo + 6) (.inl (0, 80, .inl (fun j => nI (vl j))))) (hsz2 : sz ≤ 80) (hss : ∀ k, ss k ≤ 80) (hslb : ∀ j, sl j < 256) (hvl : ∀ j, vl j < 256) : mn_R E MMo_isThere 0 0 0 0 0 [(0, .ref mo)] [] g (mn_is (some (.int (@ite _ (hld ss (sbS sl) sz vl) (Classical.propDecidable _) 1 0))) g) := by
  refine mn_iconst (v := 0) dMo_isThere_0 (by decide) ?_
  refine mn_istore_n (ls' := [(0, .ref mo), (1, .int 0)]) dMo_isThere_1 rfl (by decide) rfl ?_
  exact c_M_isT_l hM hSo hSs hVl hsz2 hss hslb hvl 61 0 (by omega) (by omega) (fun k hk => absurd hk (by omega))
set_option maxRecDepth 100000 in
theorem c_M_empty_l {E : mn_En} {g : mn_H} {mo tl e sz rp st m r wd ag td om : Nat} {ir : Int32} {ss : Nat → Nat} (hM : mn_at g mo (.inr (11, [.int 0, .ref (mo + 1), .int (nI tl), .ref (mo + 2), .ref (mo + 3), .int (nI e), .int (nI sz), .int (nI rp), .int (nI st), .ref (mo + 4), .ref (mo + 5), .ref (mo + 6), .int ir, .int (nI m), .int (nI r), .int (nI wd), .int (nI ag), .ref (mo + 7), .ref (mo + 8), .ref (mo + 9), .ref (mo + 10), .int (nI td), .int (nI om), .ref (mo + 11), .ref (mo + 12), .ref (mo + 13), .ref (mo + 14), .ref (mo + 15), .ref (mo + 16)]))) (hSs : mn_at g (mo + 5) (.inl (0, 60, .inl (fun j => nI (ss j))))) (hss : ∀ k, ss k ≤ 80) : ∀ (fu s : Nat), s ≤ 60 → 60 - s < fu → mn_R E MMo_emptySlots 0 0 0 0 4 [(0, .ref mo), (1, .int (nI (cnt (fun k => ss k = 0) s))), (2, .int (nI s))] [] g (mn_is (some (.int (nI (cnt (fun k => ss k = 0) 60)))) g) := by
  intro fu
  induction fu with
  | zero => intro s h1 h2; exact absurd h2 (by omega)
  | succ fu ih =>
    intro s h1 h2
    have hsss := hss s
    have hcn := cnt_le (fun k => ss k = 0) s
    refine mn_iload_n 2 dMo_emptySlots_4 rfl rfl ?_
    refine mn_bipush (v := 60) dMo_emptySlots_5 (by decide) ?_
    refine mn_icmp_ge 33 dMo_emptySlots_7 (by decide) (fun c1 => ?_) (fun c1 => ?_)
    · have c1 := (nI_leI (a := 60) (b := s) (by omega) (by omega)).mp c1
      refine mn_iload_n 1 dMo_emptySlots_33 rfl rfl ?_
      exact mn_iret rfl dMo_emptySlots_34 ⟨by rw [show s = 60 by omega], rfl⟩
    · have c1 := mt (nI_leI (a := 60) (b := s) (by omega) (by omega)).mpr c1
      refine mn_aload_n 0 dMo_emptySlots_10 rfl rfl ?_
      refine mn_get okMo 10 lMo_29 (by decide) hM rfl dMo_emptySlots_11 ?_
      refine mn_iload_n 2 dMo_emptySlots_14 rfl rfl ?_
      refine mn_ialdN (j := s) hSs rfl (by omega) (by omega) dMo_emptySlots_15 ?_
      refine mn_if_ne 25 dMo_emptySlots_16 (by decide) (fun c2 => ?_) (fun c2 => ?_)
      · have c2 := mt (nI_eq (a := (ss s)) (b := 0) (by omega) (by omega)).mpr c2
        refine mn_iload_n 1 dMo_emptySlots_25 rfl rfl ?_
        refine mn_istore_n (ls' := [(0, .ref mo), (1, .int (nI (cnt (fun k => ss k = 0) s))), (2, .int (nI s))]) dMo_emptySlots_26 rfl (by decide) rfl ?_
        refine mn_iinc (v := nI (s + 1)) (ls' := [(0, .ref mo), (1, .int (nI (cnt (fun k => ss k = 0) s))), (2, .int (nI (s + 1)))]) 2 dMo_emptySlots_27 rfl (nI_add s 1) (by decide) rfl ?_
        refine mn_goto 4 dMo_emptySlots_30 (by decide) ?_
        rw [← cnt_n (P := (fun k => ss k = 0)) (k := s) c2]
        exact ih (s + 1) (by omega) (by omega)
      · have c2 := (nI_eq (a := (ss s)) (b := 0) (by omega) (by omega)).mp c2
        refine mn_iload_n 1 dMo_emptySlots_19 rfl rfl ?_
        refine mn_iconst (v := 1) dMo_emptySlots_20 (by decide) ?_
        refine mn_iadd (z := nI (cnt (fun k => ss k = 0) s + 1)) dMo_emptySlots_21 (nI_add (cnt (fun k => ss k = 0) s) 1) ?_
        refine mn_goto 26 dMo_emptySlots_22 (by decide) ?_
        refine mn_istore_n (ls' := [(0, .ref mo), (1, .int (nI (cnt (fun k => ss k = 0) s + 1))), (2, .int (nI s))]) dMo_emptySlots_26 rfl (by decide) rfl ?_
        refine mn_iinc (v := nI (s + 1)) (ls' := [(0, .ref mo), (1, .int (nI (cnt (fun k => ss k = 0) s + 1))), (2, .int (nI (s + 1)))]) 2 dMo_emptySlots_27 rfl (nI_add s 1) (by decide) rfl ?_
        refine mn_goto 4 dMo_emptySlots_30 (by decide) ?_
        rw [← cnt_y (P := (fun k => ss k = 0)) (k := s) c2]
        exact ih (s + 1) (by omega) (by omega)
set_option maxRecDepth 100000 in
theorem c_M_empty {E : mn_En} {g : mn_H} {mo tl e sz rp st m r wd ag td om : Nat} {ir : Int32} {ss : Nat → Nat} (hM : mn_at g mo (.inr (11, [.int 0, .ref (mo + 1), .int (nI tl), .ref (mo + 2), .ref (mo + 3), .int (nI e), .int (nI sz), .int (nI rp), .int (nI st), .ref (mo + 4), .ref (mo + 5), .ref (mo + 6), .int ir, .int (nI m), .int (nI r), .int (nI wd), .int (nI ag), .ref (mo + 7), .ref (mo + 8), .ref (mo + 9), .ref (mo + 10), .int (nI td), .int (nI om), .ref (mo + 11), .ref (mo + 12), .ref (mo + 13), .ref (mo + 14), .ref (mo + 15), .ref (mo + 16)]))) (hSs : mn_at g (mo + 5) (.inl (0, 60, .inl (fun j => nI (ss j))))) (hss : ∀ k, ss k ≤ 80) : mn_R E MMo_emptySlots 0 0 0 0 0 [(0, .ref mo)] [] g (mn_is (some (.int (nI (cnt (fun k => ss k = 0) 60)))) g) := by
  refine mn_iconst (v := 0) dMo_emptySlots_0 (by decide) ?_
  refine mn_istore_n (ls' := [(0, .ref mo), (1, .int 0)]) dMo_emptySlots_1 rfl (by decide) rfl ?_
  refine mn_iconst (v := 0) dMo_emptySlots_2 (by decide) ?_
  refine mn_istore_n (ls' := [(0, .ref mo), (1, .int 0), (2, .int 0)]) dMo_emptySlots_3 rfl (by decide) rfl ?_
  exact c_M_empty_l hM hSs hss 61 0 (by omega) (by omega)
set_option maxRecDepth 100000 in
theorem c_M_lay_2 {E : mn_En} {g : mn_H} {mo tl e sz rp st m r wd ag td om : Nat} {ir : Int32} {sl ss vl : Nat → Nat} {s nn : Nat} (hs : s < 60) (hsz2 : sz ≤ 80) (hnn : nn ≤ 80) : ∀ (fu k : Nat) (g0 : mn_H), k ≤ sz → sz - k < fu → mn_fr (fun q => q = mo + 4 ∨ q = mo + 5) g g0 → mn_at g0 mo (.inr (11, [.int 0, .ref (mo + 1), .int (nI tl), .ref (mo + 2), .ref (mo + 3), .int (nI e), .int (nI sz), .int (nI rp), .int (nI st), .ref (mo + 4), .ref (mo + 5), .ref (mo + 6), .int ir, .int (nI m), .int (nI r), .int (nI wd), .int (nI ag), .ref (mo + 7), .ref (mo + 8), .ref (mo + 9), .ref (mo + 10), .int (nI td), .int (nI om), .ref (mo + 11), .ref (mo + 12), .ref (mo + 13), .ref (mo + 14), .ref (mo + 15), .ref (mo + 16)])) → mn_at g0 (mo + 4) (.inl (0, 4800, .inl (fun j => nI ((lyL sl vl s nn k) j)))) → mn_at g0 (mo + 5) (.inl (0, 60, .inl (fun j => nI ((va_up ss s sz) j)))) → mn_at g0 (mo + 6) (.inl (0, 80, .inl (fun j => nI (vl j)))) → mn_R E MMo_lay 0 0 0 0 29 [(0, .ref mo), (1, .int (nI nn)), (2, .int (nI s)), (3, .int (nI k))] [] g0 (fun x g' => x = none ∧ mn_fr (fun q => q = mo + 4 ∨ q = mo + 5) g g' ∧ mn_at g' (mo + 4) (.inl (0, 4800, .inl (fun j => nI (lyL sl vl s nn sz j)))) ∧ mn_at g' (mo + 5) (.inl (0, 60, .inl (fun j => nI (va_up ss s sz j))))) := by
  intro fu
  induction fu with
  | zero => intro k g0 h1 h2; exact absurd h2 (by omega)
  | succ fu ih =>
    intro k g0 h1 h2 hfr hM hSo hSs hVl
    refine mn_iload_n 3 dMo_lay_29 rfl rfl ?_
    refine mn_aload_n 0 dMo_lay_30 rfl rfl ?_
    refine mn_get okMo 6 lMo_23 (by decide) hM rfl dMo_lay_31 ?_
    refine mn_icmp_ge 69 dMo_lay_34 (by decide) (fun c1 => ?_) (fun c1 => ?_)
    · have c1 := (nI_leI (a := sz) (b := k) (by omega) (by omega)).mp c1
      exact mn_vret rfl dMo_lay_69 (by obtain rfl : k = sz := (by omega); exact ⟨rfl, hfr, hSo, hSs⟩)
    · have c1 := mt (nI_leI (a := sz) (b := k) (by omega) (by omega)).mpr c1
      refine mn_aload_n 0 dMo_lay_37 rfl rfl ?_
      refine mn_get okMo 9 lMo_26 (by decide) hM rfl dMo_lay_38 ?_
      refine mn_bipush (v := 80) dMo_lay_41 (by decide) ?_
      refine mn_iload_n 2 dMo_lay_43 rfl rfl ?_
      refine mn_imul (z := nI (80 * s)) dMo_lay_44 (pk_mul 80 s) ?_
      refine mn_iload_n 3 dMo_lay_45 rfl rfl ?_
      refine mn_iadd (z := nI (80 * s + k)) dMo_lay_46 (nI_add (80 * s) k) ?_
      refine mn_iload_n 3 dMo_lay_47 rfl rfl ?_
      refine mn_iload_n 1 dMo_lay_48 rfl rfl ?_
      refine mn_icmp_ge 61 dMo_lay_49 (by decide) (fun c2 => ?_) (fun c2 => ?_)
      · have c2 := (nI_leI (a := nn) (b := k) (by omega) (by omega)).mp c2
        refine mn_iconst (v := 0) dMo_lay_61 (by decide) ?_
        refine mn_iastN (j := 80 * s + k) hSo rfl (by omega) (by omega) dMo_lay_62 ?_
        obtain ⟨g3, eg3⟩ : ∃ gg_, gg_ = mn_set g0 (mo + 4) (.inl (0, 4800, .inl (upd (fun j => nI ((lyL sl vl s nn k) j)) (80 * s + k) 0))) := ⟨_, rfl⟩
        refine mn_R.toG eg3 ?_
        have hM_g3 : mn_at g3 mo (.inr (11, [.int 0, .ref (mo + 1), .int (nI tl), .ref (mo + 2), .ref (mo + 3), .int (nI e), .int (nI sz), .int (nI rp), .int (nI st), .ref (mo + 4), .ref (mo + 5), .ref (mo + 6), .int ir, .int (nI m), .int (nI r), .int (nI wd), .int (nI ag), .ref (mo + 7), .ref (mo + 8), .ref (mo + 9), .ref (mo + 10), .int (nI td), .int (nI om), .ref (mo + 11), .ref (mo + 12), .ref (mo + 13), .ref (mo + 14), .ref (mo + 15), .ref (mo + 16)])) := by rw [eg3]; exact hM.off (by omega)
        have hSo_g3 : mn_at g3 (mo + 4) (.inl (0, 4800, .inl (upd (fun j => nI ((lyL sl vl s nn k) j)) (80 * s + k) 0))) := by rw [eg3]; exact hSo.same
        have hSs_g3 : mn_at g3 (mo + 5) (.inl (0, 60, .inl (fun j => nI ((va_up ss s sz) j)))) := by rw [eg3]; exact hSs.off (by omega)
        have hVl_g3 : mn_at g3 (mo + 6) (.inl (0, 80, .inl (fun j => nI (vl j)))) := by rw [eg3]; exact hVl.off (by omega)
        refine mn_iinc (v := nI (k + 1)) (ls' := [(0, .ref mo), (1, .int (nI nn)), (2, .int (nI s)), (3, .int (nI (k + 1)))]) 3 dMo_lay_63 rfl (nI_add k 1) (by decide) rfl ?_
        refine mn_goto 29 dMo_lay_66 (by decide) ?_
        have h9 : mn_at g3 (mo + 4) (.inl (0, 4800, .inl (fun j => nI (lyL sl vl s nn (k + 1) j)))) := by rw [← lyL_n (s := s) (nn := nn) (k := k) _ _ (by omega), ← upd_nI]; exact hSo_g3
        exact ih (k + 1) g3 (by omega) (by omega) (hfr.set eg3 (by show (mo + 4) = mo + 4 ∨ (mo + 4) = mo + 5; omega)) hM_g3 h9 hSs_g3 hVl_g3
      · have c2 := mt (nI_leI (a := nn) (b := k) (by omega) (by omega)).mpr c2
        refine mn_aload_n 0 dMo_lay_52 rfl rfl ?_
        refine mn_get okMo 11 lMo_32 (by decide) hM rfl dMo_lay_53 ?_
        refine mn_iload_n 3 dMo_lay_56 rfl rfl ?_
        refine mn_ialdN (j := k) hVl rfl (by omega) (by omega) dMo_lay_57 ?_
        refine mn_goto 62 dMo_lay_58 (by decide) ?_
        refine mn_iastN (j := 80 * s + k) hSo rfl (by omega) (by omega) dMo_lay_62 ?_
        obtain ⟨g4, eg4⟩ : ∃ gg_, gg_ = mn_set g0 (mo + 4) (.inl (0, 4800, .inl (upd (fun j => nI ((lyL sl vl s nn k) j)) (80 * s + k) (nI (vl k))))) := ⟨_, rfl⟩
        refine mn_R.toG eg4 ?_
        have hM_g4 : mn_at g4 mo (.inr (11, [.int 0, .ref (mo + 1), .int (nI tl), .ref (mo + 2), .ref (mo + 3), .int (nI e), .int (nI sz), .int (nI rp), .int (nI st), .ref (mo + 4), .ref (mo + 5), .ref (mo + 6), .int ir, .int (nI m), .int (nI r), .int (nI wd), .int (nI ag), .ref (mo + 7), .ref (mo + 8), .ref (mo + 9), .ref (mo + 10), .int (nI td), .int (nI om), .ref (mo + 11), .ref (mo + 12), .ref (mo + 13), .ref (mo + 14), .ref (mo + 15), .ref (mo + 16)])) := by rw [eg4]; exact hM.off (by omega)
        have hSo_g4 : mn_at g4 (mo + 4) (.inl (0, 4800, .inl (upd (fun j => nI ((lyL sl vl s nn k) j)) (80 * s + k) (nI (vl k))))) := by rw [eg4]; exact hSo.same
        have hSs_g4 : mn_at g4 (mo + 5) (.inl (0, 60, .inl (fun j => nI ((va_up ss s sz) j)))) := by rw [eg4]; exact hSs.off (by omega)
        have hVl_g4 : mn_at g4 (mo + 6) (.inl (0, 80, .inl (fun j => nI (vl j)))) := by rw [eg4]; exact hVl.off (by omega)
        refine mn_iinc (v := nI (k + 1)) (ls' := [(0, .ref mo), (1, .int (nI nn)), (2, .int (nI s)), (3, .int (nI (k + 1)))]) 3 dMo_lay_63 rfl (nI_add k 1) (by decide) rfl ?_
        refine mn_goto 29 dMo_lay_66 (by decide) ?_
        have h9 : mn_at g4 (mo + 4) (.inl (0, 4800, .inl (fun j => nI (lyL sl vl s nn (k + 1) j)))) := by rw [← lyL_y (s := s) (nn := nn) (k := k) _ _ (by omega), ← upd_nI]; exact hSo_g4
        exact ih (k + 1) g4 (by omega) (by omega) (hfr.set eg4 (by show (mo + 4) = mo + 4 ∨ (mo + 4) = mo + 5; omega)) hM_g4 h9 hSs_g4 hVl_g4
set_option maxRecDepth 100000 in
theorem c_M_lay_l {E : mn_En} {g : mn_H} {mo tl e sz rp st m r wd ag td om : Nat} {ir : Int32} {sl ss vl : Nat → Nat} (hM : mn_at g mo (.inr (11, [.int 0, .ref (mo + 1), .int (nI tl), .ref (mo + 2), .ref (mo + 3), .int (nI e), .int (nI sz), .int (nI rp), .int (nI st), .ref (mo + 4), .ref (mo + 5), .ref (mo + 6), .int ir, .int (nI m), .int (nI r), .int (nI wd), .int (nI ag), .ref (mo + 7), .ref (mo + 8), .ref (mo + 9), .ref (mo + 10), .int (nI td), .int (nI om), .ref (mo + 11), .ref (mo + 12), .ref (mo + 13), .ref (mo + 14), .ref (mo + 15), .ref (mo + 16)]))) (hSo : mn_at g (mo + 4) (.inl (0, 4800, .inl (fun j => nI (sl j))))) (hSs : mn_at g (mo + 5) (.inl (0, 60, .inl (fun j => nI (ss j))))) (hVl : mn_at g (mo + 6) (.inl (0, 80, .inl (fun j => nI (vl j))))) {s nn : Nat} (hs : s < 60) (hsz2 : sz ≤ 80) (hnn : nn ≤ 80) (hss : ∀ k, ss k ≤ 80) (hs0 : ss s = 0) (hle : ∀ i, i < s → ¬ ss i = 0) : ∀ (fu i : Nat), i ≤ s → s - i < fu → mn_R E MMo_lay 0 0 0 0 2 [(0, .ref mo), (1, .int (nI nn)), (2, .int (nI i))] [] g (fun x g' => x = none ∧ mn_fr (fun q => q = mo + 4 ∨ q = mo + 5) g g' ∧ mn_at g' (mo + 4) (.inl (0, 4800, .inl (fun j => nI (lyL sl vl s nn sz j)))) ∧ mn_at g' (mo + 5) (.inl (0, 60, .inl (fun j => nI (va_up ss s sz j))))) := by
  intro fu
  induction fu with
  | zero => intro i h1 h2; exact absurd h2 (by omega)
  | succ fu ih =>
    intro i h1 h2
    have hssi := hss i
    refine mn_aload_n 0 dMo_lay_2 rfl rfl ?_
    refine mn_get okMo 10 lMo_29 (by decide) hM rfl dMo_lay_3 ?_
    refine mn_iload_n 2 dMo_lay_6 rfl rfl ?_
    refine mn_ialdN (j := i) hSs rfl (by omega) (by omega) dMo_lay_7 ?_
    refine mn_if_le 17 dMo_lay_8 (by decide) (fun c1 => ?_) (fun c1 => ?_)
    · have c1 := (nI_leI (a := (ss i)) (b := 0) (by omega) (by omega)).mp c1
      refine mn_aload_n 0 dMo_lay_17 rfl rfl ?_
      refine mn_get okMo 10 lMo_29 (by decide) hM rfl dMo_lay_18 ?_
      refine mn_iload_n 2 dMo_lay_21 rfl rfl ?_
      refine mn_aload_n 0 dMo_lay_22 rfl rfl ?_
      refine mn_get okMo 6 lMo_23 (by decide) hM rfl dMo_lay_23 ?_
      refine mn_iastN (j := i) hSs rfl (by omega) (by omega) dMo_lay_26 ?_
      obtain ⟨g2, eg2⟩ : ∃ gg_, gg_ = mn_set g (mo + 5) (.inl (0, 60, .inl (upd (fun j => nI (ss j)) i (nI sz)))) := ⟨_, rfl⟩
      refine mn_R.toG eg2 ?_
      have hM_g2 : mn_at g2 mo (.inr (11, [.int 0, .ref (mo + 1), .int (nI tl), .ref (mo + 2), .ref (mo + 3), .int (nI e), .int (nI sz), .int (nI rp), .int (nI st), .ref (mo + 4), .ref (mo + 5), .ref (mo + 6), .int ir, .int (nI m), .int (nI r), .int (nI wd), .int (nI ag), .ref (mo + 7), .ref (mo + 8), .ref (mo + 9), .ref (mo + 10), .int (nI td), .int (nI om), .ref (mo + 11), .ref (mo + 12), .ref (mo + 13), .ref (mo + 14), .ref (mo + 15), .ref (mo + 16)])) := by rw [eg2]; exact hM.off (by omega)
      have hSo_g2 : mn_at g2 (mo + 4) (.inl (0, 4800, .inl (fun j => nI (sl j)))) := by rw [eg2]; exact hSo.off (by omega)
      have hSs_g2 : mn_at g2 (mo + 5) (.inl (0, 60, .inl (upd (fun j => nI (ss j)) i (nI sz)))) := by rw [eg2]; exact hSs.same
      have hVl_g2 : mn_at g2 (mo + 6) (.inl (0, 80, .inl (fun j => nI (vl j)))) := by rw [eg2]; exact hVl.off (by omega)
      refine mn_iconst (v := 0) dMo_lay_27 (by decide) ?_
      refine mn_istore_n (ls' := [(0, .ref mo), (1, .int (nI nn)), (2, .int (nI i)), (3, .int 0)]) dMo_lay_28 rfl (by decide) rfl ?_
      obtain rfl : i = s := (by rcases Nat.lt_or_ge i s with q | q; exact absurd (hle i q) (by omega); omega)
      have h8 := hSs_g2
      rw [upd_nI] at h8
      have h9 : mn_at g2 (mo + 4) (.inl (0, 4800, .inl (fun j => nI (lyL sl vl i nn 0 j)))) := by rw [lyL_0]; exact hSo_g2
      exact c_M_lay_2 hs hsz2 hnn (sz + 1) 0 g2 (by omega) (by omega) (mn_fr.rf.set eg2 (by show (mo + 5) = mo + 4 ∨ (mo + 5) = mo + 5; omega)) hM_g2 h9 h8 hVl_g2
    · have c1 := mt (nI_leI (a := (ss i)) (b := 0) (by omega) (by omega)).mpr c1
      refine mn_iinc (v := nI (i + 1)) (ls' := [(0, .ref mo), (1, .int (nI nn)), (2, .int (nI (i + 1)))]) 2 dMo_lay_11 rfl (nI_add i 1) (by decide) rfl ?_
      refine mn_goto 2 dMo_lay_14 (by decide) ?_
      have his : i < s := by rcases Nat.lt_or_ge i s with q | q; exact q; exact absurd hs0 (by rw [show s = i by omega]; omega)
      exact ih (i + 1) (by omega) (by omega)
set_option maxRecDepth 100000 in
theorem c_M_lay {E : mn_En} {g : mn_H} {mo tl e sz rp st m r wd ag td om : Nat} {ir : Int32} {sl ss vl : Nat → Nat} (hM : mn_at g mo (.inr (11, [.int 0, .ref (mo + 1), .int (nI tl), .ref (mo + 2), .ref (mo + 3), .int (nI e), .int (nI sz), .int (nI rp), .int (nI st), .ref (mo + 4), .ref (mo + 5), .ref (mo + 6), .int ir, .int (nI m), .int (nI r), .int (nI wd), .int (nI ag), .ref (mo + 7), .ref (mo + 8), .ref (mo + 9), .ref (mo + 10), .int (nI td), .int (nI om), .ref (mo + 11), .ref (mo + 12), .ref (mo + 13), .ref (mo + 14), .ref (mo + 15), .ref (mo + 16)]))) (hSo : mn_at g (mo + 4) (.inl (0, 4800, .inl (fun j => nI (sl j))))) (hSs : mn_at g (mo + 5) (.inl (0, 60, .inl (fun j => nI (ss j))))) (hVl : mn_at g (mo + 6) (.inl (0, 80, .inl (fun j => nI (vl j))))) {s nn : Nat} (hs : s < 60) (hsz2 : sz ≤ 80) (hnn : nn ≤ 80) (hss : ∀ k, ss k ≤ 80) (hs0 : ss s = 0) (hle : ∀ i, i < s → ¬ ss i = 0) : mn_R E MMo_lay 0 0 0 0 0 [(0, .ref mo), (1, .int (nI nn))] [] g (fun x g' => x = none ∧ mn_fr (fun q => q = mo + 4 ∨ q = mo + 5) g g' ∧ mn_at g' (mo + 4) (.inl (0, 4800, .inl (fun j => nI (lyL sl vl s nn sz j)))) ∧ mn_at g' (mo + 5) (.inl (0, 60, .inl (fun j => nI (va_up ss s sz j))))) := by
  refine mn_iconst (v := 0) dMo_lay_0 (by decide) ?_
  refine mn_istore_n (ls' := [(0, .ref mo), (1, .int (nI nn)), (2, .int 0)]) dMo_lay_1 rfl (by decide) rfl ?_
  exact c_M_lay_l hM hSo hSs hVl hs hsz2 hnn hss hs0 hle (s + 1) 0 (by omega) (by omega)
