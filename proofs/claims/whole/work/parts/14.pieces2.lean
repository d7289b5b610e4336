theorem c_raisedN {E : mn_En} {g : mn_H} {x n : Nat} (hx : x < 256) (hn : n < 2 ^ 31) : mn_R E MBy_raised 1 21 0 0 0 [(0, .int (nI x)), (1, .int (nI n))] [] g (mn_is (some (.int (nI (twsN x n)))) g) := by
  rw [← (tws_nI hx n).1]
  exact c_raised hn
theorem c_P_partN {E : mn_En} {g : mn_H} {a nb m w : Nat} {pb ln sn : Nat → Nat} (ha : mn_at g a (.inr (2, [.ref (a + 3), .ref (a + 1), .ref (a + 2), .int (nI m), .int (nI w)]))) (hb : mn_at g (a + 3) (.inl (0, nb, .inl (fun j => nI (pb j))))) (hl : mn_at g (a + 1) (.inl (0, 60, .inl (fun j => nI (ln j))))) (hs : mn_at g (a + 2) (.inl (0, 60, .inl (fun j => nI (sn j))))) (hnb : nb < 5000) {n i : Nat} (hn : n < 60) (hi : i < 80) (hw : n * w + i < nb + 12) (hw0 : n * w < 5000) : mn_R E MPc_part 1 21 0 0 0 [(0, .ref a), (1, .int (nI n)), (2, .int (nI i))] [] g (mn_is (some (.int (nI (ptN pb ln sn w n i)))) g) := by
  rw [← pt_nI]
  exact c_P_part ha hb hl hs hnb hn hi hw hw0
set_option maxRecDepth 100000 in
theorem c_P_mixed_z {E : mn_En} {g : mn_H} {a nb m w : Nat} {pb ln sn : Nat → Nat} (ha : mn_at g a (.inr (2, [.ref (a + 3), .ref (a + 1), .ref (a + 2), .int (nI m), .int (nI w)]))) (hb : mn_at g (a + 3) (.inl (0, nb, .inl (fun j => nI (pb j))))) (hl : mn_at g (a + 1) (.inl (0, 60, .inl (fun j => nI (ln j))))) (hs : mn_at g (a + 2) (.inl (0, 60, .inl (fun j => nI (sn j))))) (hnb : nb < 5000) {j i : Nat} : mn_R E MPc_mixed 2 46 0 0 10 [(0, .ref a), (1, .int (nI j)), (2, .int (nI i)), (3, .int (nI (horN (fun n => ptN pb ln sn w n i) j m m))), (4, .int (-1))] [] g (mn_is (some (.int (nI (horN (fun n => ptN pb ln sn w n i) j m m)))) g) := by
  refine mn_iload 4 dPc_mixed_10 rfl ?_
  refine mn_if_lt 35 dPc_mixed_12 (by decide) (fun c1 => ?_) (fun c1 => ?_)
  · refine mn_iload_n 3 dPc_mixed_35 rfl rfl ?_
    exact mn_iret rfl dPc_mixed_36 ⟨rfl, rfl⟩
  · exact absurd c1 (by decide)
set_option maxRecDepth 100000 in
theorem c_P_mixed_l {E : mn_En} {g : mn_H} {a nb m w : Nat} {pb ln sn : Nat → Nat} (ha : mn_at g a (.inr (2, [.ref (a + 3), .ref (a + 1), .ref (a + 2), .int (nI m), .int (nI w)]))) (hb : mn_at g (a + 3) (.inl (0, nb, .inl (fun j => nI (pb j))))) (hl : mn_at g (a + 1) (.inl (0, 60, .inl (fun j => nI (ln j))))) (hs : mn_at g (a + 2) (.inl (0, 60, .inl (fun j => nI (sn j))))) (hnb : nb < 5000) {j i : Nat} (hj : j < 4) (hi : i < 80) (hm : m ≤ 60) (hw : ∀ n, n < m → n * w + i < nb + 12 ∧ n * w < 5000) (hpb : ∀ j, pb j < 256) (hln : ∀ j, ln j < 256) (hsn : ∀ j, sn j < 256) : ∀ (u : Nat), u ≤ m → mn_R E MPc_mixed 2 46 0 0 10 [(0, .ref a), (1, .int (nI j)), (2, .int (nI i)), (3, .int (nI (horN (fun n => ptN pb ln sn w n i) j m (m - u)))), (4, .int (nI u - 1))] [] g (mn_is (some (.int (nI (horN (fun n => ptN pb ln sn w n i) j m m)))) g) := by
  intro u
  induction u with
  | zero => intro _; exact c_P_mixed_z ha hb hl hs hnb
  | succ u ih =>
    intro hu
    rw [nI_pred]
    have hwu := hw u (by omega)
    have hwu1 := hwu.1
    have hwu2 := hwu.2
    have hlt : horN (fun n => ptN pb ln sn w n i) j m (m - (u + 1)) < 256 := (hor_nI (fun n => ptN_lt hpb hln hsn w n i) j m _).2
    refine mn_iload 4 dPc_mixed_10 rfl ?_
    refine mn_if_lt 35 dPc_mixed_12 (by decide) (fun c1 => ?_) (fun c1 => ?_)
    · exact absurd c1 (nI_pos (by omega))
    · refine mn_iload_n 3 dPc_mixed_15 rfl rfl ?_
      refine mn_iload_n 1 dPc_mixed_16 rfl rfl ?_
      refine mn_cS (As := [.int (nI (horN (fun n => ptN pb ln sn w n i) j m (m - (u + 1)))), .int (nI j)]) (stk' := [.int (nI (twsN (horN (fun n => ptN pb ln sn w n i) j m (m - (u + 1))) j))]) okBy_raised lPc_54 dPc_mixed_17 rfl rfl (Nat.le_of_ble_eq_true rfl) (Nat.le_of_ble_eq_true rfl) (by decide) (c_raisedN (x := horN (fun n => ptN pb ln sn w n i) j m (m - (u + 1))) (n := j) hlt (by omega)) rfl ?_
      refine mn_aload_n 0 dPc_mixed_20 rfl rfl ?_
      refine mn_iload 4 dPc_mixed_21 rfl ?_
      refine mn_iload_n 2 dPc_mixed_23 rfl rfl ?_
      refine mn_cV (As := [.int (nI u), .int (nI i)]) (stk' := [.int (nI (ptN pb ln sn w u i)), .int (nI (twsN (horN (fun n => ptN pb ln sn w n i) j m (m - (u + 1))) j))]) okPc_part lPc_57 dPc_mixed_24 ha rfl rfl rfl rfl (Nat.le_of_ble_eq_true rfl) (Nat.le_of_ble_eq_true rfl) (by decide) (c_P_partN ha hb hl hs (by omega) (n := u) (i := i) (by omega) (by omega) (by first | assumption | omega) (by first | assumption | omega)) rfl ?_
      refine mn_ixor (z := nI ((twsN (horN (fun n => ptN pb ln sn w n i) j m (m - (u + 1))) j) ^^^ (ptN pb ln sn w u i))) dPc_mixed_27 (nx_xor (twsN (horN (fun n => ptN pb ln sn w n i) j m (m - (u + 1))) j) (ptN pb ln sn w u i)) ?_
      refine mn_istore_n (ls' := [(0, .ref a), (1, .int (nI j)), (2, .int (nI i)), (3, .int (nI ((twsN (horN (fun n => ptN pb ln sn w n i) j m (m - (u + 1))) j) ^^^ (ptN pb ln sn w u i)))), (4, .int (nI u))]) dPc_mixed_28 rfl (by decide) rfl ?_
      refine mn_iinc (v := nI u - 1) (ls' := [(0, .ref a), (1, .int (nI j)), (2, .int (nI i)), (3, .int (nI ((twsN (horN (fun n => ptN pb ln sn w n i) j m (m - (u + 1))) j) ^^^ (ptN pb ln sn w u i)))), (4, .int (nI u - 1))]) 4 dPc_mixed_29 rfl (mn_dec1 _) (by decide) rfl ?_
      refine mn_goto 10 dPc_mixed_32 (by decide) ?_
      rw [show twsN (horN (fun n => ptN pb ln sn w n i) j m (m - (u + 1))) j ^^^ ptN pb ln sn w u i = horN (fun n => ptN pb ln sn w n i) j m (m - u) by rw [show m - u = (m - (u + 1)) + 1 by omega]; show _ = twsN (horN (fun n => ptN pb ln sn w n i) j m (m - (u + 1))) j ^^^ ptN pb ln sn w (m - 1 - (m - (u + 1))) i; rw [show m - 1 - (m - (u + 1)) = u by omega]]
      exact ih (by omega)
set_option maxRecDepth 100000 in
theorem c_P_mixedN {E : mn_En} {g : mn_H} {a nb m w : Nat} {pb ln sn : Nat → Nat} (ha : mn_at g a (.inr (2, [.ref (a + 3), .ref (a + 1), .ref (a + 2), .int (nI m), .int (nI w)]))) (hb : mn_at g (a + 3) (.inl (0, nb, .inl (fun j => nI (pb j))))) (hl : mn_at g (a + 1) (.inl (0, 60, .inl (fun j => nI (ln j))))) (hs : mn_at g (a + 2) (.inl (0, 60, .inl (fun j => nI (sn j))))) (hnb : nb < 5000) {j i : Nat} (hj : j < 4) (hi : i < 80) (hm : m ≤ 60) (hw : ∀ n, n < m → n * w + i < nb + 12 ∧ n * w < 5000) (hpb : ∀ j, pb j < 256) (hln : ∀ j, ln j < 256) (hsn : ∀ j, sn j < 256) (hm1 : 1 ≤ m) : mn_R E MPc_mixed 2 46 0 0 0 [(0, .ref a), (1, .int (nI j)), (2, .int (nI i))] [] g (mn_is (some (.int (nI (horN (fun n => ptN pb ln sn w n i) j m m)))) g) := by
  refine mn_iconst (v := 0) dPc_mixed_0 (by decide) ?_
  refine mn_istore_n (ls' := [(0, .ref a), (1, .int (nI j)), (2, .int (nI i)), (3, .int 0)]) dPc_mixed_1 rfl (by decide) rfl ?_
  refine mn_aload_n 0 dPc_mixed_2 rfl rfl ?_
  refine mn_get okPc 3 lPc_33 (by decide) ha rfl dPc_mixed_3 ?_
  refine mn_iconst (v := 1) dPc_mixed_6 (by decide) ?_
  refine mn_isub (z := nI m - 1) dPc_mixed_7 rfl ?_
  refine mn_istore (ls' := [(0, .ref a), (1, .int (nI j)), (2, .int (nI i)), (3, .int 0), (4, .int (nI m - 1))]) dPc_mixed_8 (by decide) rfl ?_
  have h0 := c_P_mixed_l ha hb hl hs hnb hj hi hm hw hpb hln hsn (E := E) m (Nat.le_refl m)
  rw [Nat.sub_self] at h0
  exact h0
set_option maxRecDepth 100000 in
theorem c_P_isKnown {E : mn_En} {g : mn_H} {a nb m w : Nat} {pb ln sn : Nat → Nat} (ha : mn_at g a (.inr (2, [.ref (a + 3), .ref (a + 1), .ref (a + 2), .int (nI m), .int (nI w)]))) (hb : mn_at g (a + 3) (.inl (0, nb, .inl (fun j => nI (pb j))))) (hl : mn_at g (a + 1) (.inl (0, 60, .inl (fun j => nI (ln j))))) (hs : mn_at g (a + 2) (.inl (0, 60, .inl (fun j => nI (sn j))))) (hnb : nb < 5000) (hw0 : 0 < w) (hmw : m * w ≤ nb) (hm : m ≤ 60) {p : Nat} (hp : p < 100000) (hln : ∀ j, ln j < 256) : mn_R E MPc_isKnown 2 44 0 0 0 [(0, .ref a), (1, .int (nI p))] [] g (mn_is (some (.int (kV ln m w p))) g) := by
  refine mn_iload_n 1 dPc_isKnown_0 rfl rfl ?_
  refine mn_if_lt 12 dPc_isKnown_1 (by decide) (fun c1 => ?_) (fun c1 => ?_)
  · exact absurd c1 (nI_pos (by omega))
  · refine mn_iload_n 1 dPc_isKnown_4 rfl rfl ?_
    refine mn_aload_n 0 dPc_isKnown_5 rfl rfl ?_
    refine mn_cV (As := []) (stk' := [.int (nI (m * w)), .int (nI p)]) okPc_room lPc_60 dPc_isKnown_6 ha rfl rfl rfl rfl (Nat.le_of_ble_eq_true rfl) (Nat.le_of_ble_eq_true rfl) (by decide) (c_P_room ha hb hl hs (by omega)) rfl ?_
    refine mn_icmp_lt 14 dPc_isKnown_9 (by decide) (fun c2 => ?_) (fun c2 => ?_)
    · have c2 := (nI_ltI (a := p) (b := (m * w)) (by omega) (by omega)).mp c2
      have hq : p / w < m := by rw [Nat.div_lt_iff_lt_mul hw0]; omega
      have hq2 : p / w * w ≤ p := Nat.div_mul_le_self p w
      have hq3 : p / w * w + 6 < nb + 12 := by omega
      have hq4 : p / w * w < 5000 := by omega
      have hw9 : w ≤ m * w := Nat.le_mul_of_pos_left w (Nat.lt_of_le_of_lt (Nat.zero_le _) hq)
      have hln9 := hln (p / w)
      refine mn_iload_n 1 dPc_isKnown_14 rfl rfl ?_
      refine mn_aload_n 0 dPc_isKnown_15 rfl rfl ?_
      refine mn_get okPc 4 lPc_37 (by decide) ha rfl dPc_isKnown_16 ?_
      refine mn_cS (As := [.int (nI p), .int (nI w)]) (stk' := [.int (nI (p / w))]) okBy_quotient lPc_64 dPc_isKnown_19 rfl rfl (Nat.le_of_ble_eq_true rfl) (Nat.le_of_ble_eq_true rfl) (by decide) (c_quotient (x := p) (y := w) (by omega) (by omega)) rfl ?_
      refine mn_istore_n (ls' := [(0, .ref a), (1, .int (nI p)), (2, .int (nI (p / w)))]) dPc_isKnown_22 rfl (by decide) rfl ?_
      refine mn_iload_n 1 dPc_isKnown_23 rfl rfl ?_
      refine mn_iload_n 2 dPc_isKnown_24 rfl rfl ?_
      refine mn_aload_n 0 dPc_isKnown_25 rfl rfl ?_
      refine mn_get okPc 4 lPc_37 (by decide) ha rfl dPc_isKnown_26 ?_
      refine mn_imul (z := nI ((p / w) * w)) dPc_isKnown_29 (pk_mul (p / w) w) ?_
      refine mn_isub (z := nI (p - ((p / w) * w))) dPc_isKnown_30 (pk_sub (a := p) (b := (p / w) * w) (by omega)) ?_
      refine mn_aload_n 0 dPc_isKnown_31 rfl rfl ?_
      refine mn_iload_n 2 dPc_isKnown_32 rfl rfl ?_
      refine mn_bipush (v := 6) dPc_isKnown_33 (by decide) ?_
      refine mn_cV (As := [.int (nI (p / w)), .int 6]) (stk' := [.int (nI (ln (p / w))), .int (nI (p - ((p / w) * w)))]) okPc_part lPc_57 dPc_isKnown_35 ha rfl rfl rfl rfl (Nat.le_of_ble_eq_true rfl) (Nat.le_of_ble_eq_true rfl) (by decide) (c_P_partN ha hb hl hs (by omega) (n := p / w) (i := 6) (by omega) (by omega) (by first | assumption | omega) (by first | assumption | omega)) rfl ?_
      refine mn_icmp_ge 45 dPc_isKnown_38 (by decide) (fun c3 => ?_) (fun c3 => ?_)
      · have c3 := (nI_leI (a := (ln (p / w))) (b := (p - ((p / w) * w))) (by omega) (by omega)).mp c3
        refine mn_iconst (v := 0) dPc_isKnown_45 (by decide) ?_
        exact mn_zret rfl rfl dPc_isKnown_46 ⟨by rw [kV_neg (fun h => absurd h.2 (by omega))], rfl⟩
      · have c3 := mt (nI_leI (a := (ln (p / w))) (b := (p - ((p / w) * w))) (by omega) (by omega)).mpr c3
        refine mn_iconst (v := 1) dPc_isKnown_41 (by decide) ?_
        refine mn_goto 46 dPc_isKnown_42 (by decide) ?_
        exact mn_zret rfl rfl dPc_isKnown_46 ⟨by rw [kV_pos ⟨by omega, by omega⟩], rfl⟩
    · have c2 := mt (nI_ltI (a := p) (b := (m * w)) (by omega) (by omega)).mpr c2
      refine mn_iconst (v := 0) dPc_isKnown_12 (by decide) ?_
      exact mn_zret rfl rfl dPc_isKnown_13 ⟨by rw [kV_neg (fun h => absurd h.1 (by omega))], rfl⟩
