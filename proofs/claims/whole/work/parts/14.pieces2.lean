theorem c_raisedN {E : mn_En} {g : mn_H} {x n : Nat} (hx : x < 256) (hn : n < 2 ^ 31) : mn_R E MBy_raised 1 21 0 0 0 [(0, .int (nI x)), (1, .int (nI n))] [] g (mn_is (some (.int (nI (twsN x n)))) g) := by
  rw [← (tws_nI hx n).1]
  exact c_raised hn
theorem c_P_partN {E : mn_En} {g : mn_H} {a nb m w : Nat} {pb ln sn : Nat → Nat} (ha : mn_at g a (.inr (2, [.ref (a + 3), .ref (a + 1), .ref (a + 2), .int (nI m), .int (nI w)]))) (hb : mn_at g (a + 3) (.inl (0, nb, .inl (fun j => nI (pb j))))) (hl : mn_at g (a + 1) (.inl (0, 60, .inl (fun j => nI (ln j))))) (hs : mn_at g (a + 2) (.inl (0, 60, .inl (fun j => nI (sn j))))) (hnb : nb < 5000) {n i : Nat} (hn : n < 60) (hi : i < 80) (hw : n * w + i < nb + 12) (hw0 : n * w < 5000) : mn_R E MPc_part 1 21 0 0 0 [(0, .ref a), (1, .int (nI n)), (2, .int (nI i))] [] g (mn_is (some (.int (nI (ptN pb ln sn w n i)))) g) := by
  rw [← pt_nI]
  exact c_P_part ha hb hl hs hnb hn hi hw hw0
set_option maxRecDepth 100000 in
theorem c_P_mixed_z {E : mn_En} {g : mn_H} {a nb m w : Nat} {pb ln sn : Nat → Nat} (ha : mn_at g a (.inr (2, [.ref (a + 3), .ref (a + 1), .ref (a + 2), .int (nI m), .int (nI w)]))) (hb : mn_at g (a + 3) (.inl (0, nb, .inl (fun j => nI (pb j))))) (hl : mn_at g (a + 1) (.inl (0, 60, .inl (fun j => nI (ln j))))) (hs : mn_at g (a + 2) (.inl (0, 60, .inl (fun j => nI (sn j))))) (hnb : nb < 5000) {j i : Nat} : mn_R E MPc_mixed 2 46 0 0 10 [(0, .ref a), (1, .int (nI j)), (2, .int (nI i)), (3, .int (nI (horN (fun n => ptN pb ln sn w n i) j m m))), (4, .int (-1))] [] g (mn_is (some (.int (nI (horN (fun n => ptN pb ln sn w n i) j m m)))) g) := by
  refine mn_iload 4 dPc_mixed_10 rfl ?_
  refine mn_if_lt 35 dPc_mixed_12 (by decide) (fun c1 => ?_) (fun c1 => ?_)
  · refine mn_iload_n 3 dPc_mixed_35 rfl rfl ?_
    exact mn_iret rfl dPc_mixed_36 ⟨rfl, rfl⟩
  · exact absurd c1 (by decide)
set_option maxRecDepth 100000 in
theorem c_P_mixed_l {E : mn_En} {g : mn_H} {a nb m w : Nat} {pb ln sn : Nat → Nat} (ha : mn_at g a (.inr (2, [.ref (a + 3), .ref (a + 1), .ref (a + 2), .int (nI m), .int (nI w)]))) (hb : mn_at g (a + 3) (.inl (0, nb, .inl (fun j => nI (pb j))))) (hl : mn_at g (a + 1) (.inl (0, 60, .inl (fun j => nI (ln j))))) (hs : mn_at g (a + 2) (.inl (0, 60, .inl (fun j => nI (sn j))))) (hnb : nb < 5000) {j i : Nat} (hj : j < 4) (hi : i < 80) (hm : m ≤ 60) (hw : ∀ n, n < m → n * w + i < nb + 12 ∧ n * w < 5000) (hpb : ∀ j, pb j < 256) (hln : ∀ j, ln j < 256) (hsn : ∀ j, sn j < 256) : ∀ (u : Nat), u ≤ m → mn_R E MPc_mixed 2 46 0 0 10 [(0, .ref a), (1, .int (nI j)), (2, .int (nI i)), (3, .int (nI (horN (fun n => ptN pb ln sn w n i) j m (m - u)))), (4, .int (nI u - 1))] [] g (mn_is (some (.int (nI (horN (fun n => ptN pb ln sn w n i) j m m)))) g) := by
  intro u
  induction u with
  | zero => intro _; exact c_P_mixed_z ha hb hl hs hnb
  | succ u ih =>
    intro hu
    rw [nI_pred]
    have hwu := hw u (by omega)
    have hwu1 := hwu.1
    have hwu2 := hwu.2
    have hlt : horN (fun n => ptN pb ln sn w n i) j m (m - (u + 1)) < 256 := (hor_nI (fun n => ptN_lt hpb hln hsn w n i) j m _).2
    refine mn_iload 4 dPc_mixed_10 rfl ?_
    refine mn_if_lt 35 dPc_mixed_12 (by decide) (fun c1 => ?_) (fun c1 => ?_)
    · exact absurd c1 (nI_pos (by omega))
    · refine mn_iload_n 3 dPc_mixed_15 rfl rfl ?_
      refine mn_iload_n 1 dPc_mixed_16 rfl rfl ?_
      refine mn_cS (d' := 1) (w' := 21) (As := [.int (nI (horN (fun n => ptN pb ln sn w n i) j m (m - (u + 1)))), .int (nI j)]) (stk' := [.int (nI (twsN (horN (fun n => ptN pb ln sn w n i) j m (m - (u + 1))) j))]) okBy_raised lPc_54 dPc_mixed_17 rfl rfl (Nat.le_of_ble_eq_true rfl) (Nat.le_of_ble_eq_true rfl) (by decide) (c_raisedN (x := horN (fun n => ptN pb ln sn w n i) j m (m - (u + 1))) (n := j) hlt (by omega)) rfl ?_
      refine mn_aload_n 0 dPc_mixed_20 rfl rfl ?_
      refine mn_iload 4 dPc_mixed_21 rfl ?_
      refine mn_iload_n 2 dPc_mixed_23 rfl rfl ?_
      refine mn_cV (d' := 1) (w' := 21) (As := [.int (nI u), .int (nI i)]) (stk' := [.int (nI (ptN pb ln sn w u i)), .int (nI (twsN (horN (fun n => ptN pb ln sn w n i) j m (m - (u + 1))) j))]) okPc_part lPc_57 dPc_mixed_24 ha rfl rfl rfl rfl (Nat.le_of_ble_eq_true rfl) (Nat.le_of_ble_eq_true rfl) (by decide) (c_P_partN ha hb hl hs (by omega) (n := u) (i := i) (by omega) (by omega) (by first | assumption | omega) (by first | assumption | omega)) rfl ?_
      refine mn_ixor (z := nI ((twsN (horN (fun n => ptN pb ln sn w n i) j m (m - (u + 1))) j) ^^^ (ptN pb ln sn w u i))) dPc_mixed_27 (nx_xor (twsN (horN (fun n => ptN pb ln sn w n i) j m (m - (u + 1))) j) (ptN pb ln sn w u i)) ?_
      refine mn_istore_n (ls' := [(0, .ref a), (1, .int (nI j)), (2, .int (nI i)), (3, .int (nI ((twsN (horN (fun n => ptN pb ln sn w n i) j m (m - (u + 1))) j) ^^^ (ptN pb ln sn w u i)))), (4, .int (nI u))]) dPc_mixed_28 rfl (by decide) rfl ?_
      refine mn_iinc (v := nI u - 1) (ls' := [(0, .ref a), (1, .int (nI j)), (2, .int (nI i)), (3, .int (nI ((twsN (horN (fun n => ptN pb ln sn w n i) j m (m - (u + 1))) j) ^^^ (ptN pb ln sn w u i)))), (4, .int (nI u - 1))]) 4 dPc_mixed_29 rfl (mn_dec1 _) (by decide) rfl ?_
      refine mn_goto 10 dPc_mixed_32 (by decide) ?_
      rw [show twsN (horN (fun n => ptN pb ln sn w n i) j m (m - (u + 1))) j ^^^ ptN pb ln sn w u i = horN (fun n => ptN pb ln sn w n i) j m (m - u) by rw [show m - u = (m - (u + 1)) + 1 by omega]; show _ = twsN (horN (fun n => ptN pb ln sn w n i) j m (m - (u + 1))) j ^^^ ptN pb ln sn w (m - 1 - (m - (u + 1))) i; rw [show m - 1 - (m - (u + 1)) = u by omega]]
      exact ih (by omega)
set_option maxRecDepth 100000 in
theorem c_P_mixedN {E : mn_En} {g : mn_H} {a nb m w : Nat} {pb ln sn : Nat → Nat} (ha : mn_at g a (.inr (2, [.ref (a + 3), .ref (a + 1), .ref (a + 2), .int (nI m), .int (nI w)]))) (hb : mn_at g (a + 3) (.inl (0, nb, .inl (fun j => nI (pb j))))) (hl : mn_at g (a + 1) (.inl (0, 60, .inl (fun j => nI (ln j))))) (hs : mn_at g (a + 2) (.inl (0, 60, .inl (fun j => nI (sn j))))) (hnb : nb < 5000) {j i : Nat} (hj : j < 4) (hi : i < 80) (hm : m ≤ 60) (hw : ∀ n, n < m → n * w + i < nb + 12 ∧ n * w < 5000) (hpb : ∀ j, pb j < 256) (hln : ∀ j, ln j < 256) (hsn : ∀ j, sn j < 256) (hm1 : 1 ≤ m) : mn_R E MPc_mixed 2 46 0 0 0 [(0, .ref a), (1, .int (nI j)), (2, .int (nI i))] [] g (mn_is (some (.int (nI (horN (fun n => ptN pb ln sn w n i) j m m)))) g) := by
  refine mn_iconst (v := 0) dPc_mixed_0 (by decide) ?_
  refine mn_istore_n (ls' := [(0, .ref a), (1, .int (nI j)), (2, .int (nI i)), (3, .int 0)]) dPc_mixed_1 rfl (by decide) rfl ?_
  refine mn_aload_n 0 dPc_mixed_2 rfl rfl ?_
  refine mn_get okPc 3 lPc_33 (by decide) ha rfl dPc_mixed_3 ?_
  refine mn_iconst (v := 1) dPc_mixed_6 (by decide) ?_
  refine mn_isub (z := nI m - 1) dPc_mixed_7 rfl ?_
  refine mn_istore (ls' := [(0, .ref a), (1, .int (nI j)), (2, .int (nI i)), (3, .int 0), (4, .int (nI m - 1))]) dPc_mixed_8 (by decide) rfl ?_
  have h0 := c_P_mixed_l ha hb hl hs hnb hj hi hm hw hpb hln hsn (E := E) m (Nat.le_refl m)
  rw [Nat.sub_self] at h0
  exact h0
set_option maxRecDepth 100000 in
theorem c_P_isKnown {E : mn_En} {g : mn_H} {a nb m w : Nat} {pb ln sn : Nat → Nat} (ha : mn_at g a (.inr (2, [.ref (a + 3), .ref (a + 1), .ref (a + 2), .int (nI m), .int (nI w)]))) (hb : mn_at g (a + 3) (.inl (0, nb, .inl (fun j => nI (pb j))))) (hl : mn_at g (a + 1) (.inl (0, 60, .inl (fun j => nI (ln j))))) (hs : mn_at g (a + 2) (.inl (0, 60, .inl (fun j => nI (sn j))))) (hnb : nb < 5000) (hw0 : 0 < w) (hmw : m * w ≤ nb) (hm : m ≤ 60) {p : Nat} (hp : p < 100000) (hln : ∀ j, ln j < 256) : mn_R E MPc_isKnown 2 44 0 0 0 [(0, .ref a), (1, .int (nI p))] [] g (mn_is (some (.int (kV ln m w p))) g) := by
  refine mn_iload_n 1 dPc_isKnown_0 rfl rfl ?_
  refine mn_if_lt 12 dPc_isKnown_1 (by decide) (fun c1 => ?_) (fun c1 => ?_)
  · exact absurd c1 (nI_pos (by omega))
  · refine mn_iload_n 1 dPc_isKnown_4 rfl rfl ?_
    refine mn_aload_n 0 dPc_isKnown_5 rfl rfl ?_
    refine mn_cV (d' := 0) (w' := 0) (As := []) (stk' := [.int (nI (m * w)), .int (nI p)]) okPc_room lPc_60 dPc_isKnown_6 ha rfl rfl rfl rfl (Nat.le_of_ble_eq_true rfl) (Nat.le_of_ble_eq_true rfl) (by decide) (c_P_room ha hb hl hs (by omega)) rfl ?_
    refine mn_icmp_lt 14 dPc_isKnown_9 (by decide) (fun c2 => ?_) (fun c2 => ?_)
    · have c2 := (nI_ltI (a := p) (b := (m * w)) (by omega) (by omega)).mp c2
      have hq : p / w < m := by rw [Nat.div_lt_iff_lt_mul hw0]; omega
      have hq2 : p / w * w ≤ p := Nat.div_mul_le_self p w
      have hq3 : p / w * w + 6 < nb + 12 := by omega
      have hq4 : p / w * w < 5000 := by omega
      have hw9 : w ≤ m * w := Nat.le_mul_of_pos_left w (Nat.lt_of_le_of_lt (Nat.zero_le _) hq)
      have hln9 := hln (p / w)
      refine mn_iload_n 1 dPc_isKnown_14 rfl rfl ?_
      refine mn_aload_n 0 dPc_isKnown_15 rfl rfl ?_
      refine mn_get okPc 4 lPc_37 (by decide) ha rfl dPc_isKnown_16 ?_
      refine mn_cS (d' := 0) (w' := 0) (As := [.int (nI p), .int (nI w)]) (stk' := [.int (nI (p / w))]) okBy_quotient lPc_64 dPc_isKnown_19 rfl rfl (Nat.le_of_ble_eq_true rfl) (Nat.le_of_ble_eq_true rfl) (by decide) (c_quotient (x := p) (y := w) (by omega) (by omega)) rfl ?_
      refine mn_istore_n (ls' := [(0, .ref a), (1, .int (nI p)), (2, .int (nI (p / w)))]) dPc_isKnown_22 rfl (by decide) rfl ?_
      refine mn_iload_n 1 dPc_isKnown_23 rfl rfl ?_
      refine mn_iload_n 2 dPc_isKnown_24 rfl rfl ?_
      refine mn_aload_n 0 dPc_isKnown_25 rfl rfl ?_
      refine mn_get okPc 4 lPc_37 (by decide) ha rfl dPc_isKnown_26 ?_
      refine mn_imul (z := nI ((p / w) * w)) dPc_isKnown_29 (pk_mul (p / w) w) ?_
      refine mn_isub (z := nI (p - ((p / w) * w))) dPc_isKnown_30 (pk_sub (a := p) (b := (p / w) * w) (by omega)) ?_
      refine mn_aload_n 0 dPc_isKnown_31 rfl rfl ?_
      refine mn_iload_n 2 dPc_isKnown_32 rfl rfl ?_
      refine mn_bipush (v := 6) dPc_isKnown_33 (by decide) ?_
      refine mn_cV (d' := 1) (w' := 21) (As := [.int (nI (p / w)), .int 6]) (stk' := [.int (nI (ln (p / w))), .int (nI (p - ((p / w) * w)))]) okPc_part lPc_57 dPc_isKnown_35 ha rfl rfl rfl rfl (Nat.le_of_ble_eq_true rfl) (Nat.le_of_ble_eq_true rfl) (by decide) (c_P_partN ha hb hl hs (by omega) (n := p / w) (i := 6) (by omega) (by omega) (by first | assumption | omega) (by first | assumption | omega)) rfl ?_
      refine mn_icmp_ge 45 dPc_isKnown_38 (by decide) (fun c3 => ?_) (fun c3 => ?_)
      · have c3 := (nI_leI (a := (ln (p / w))) (b := (p - ((p / w) * w))) (by omega) (by omega)).mp c3
        refine mn_iconst (v := 0) dPc_isKnown_45 (by decide) ?_
        exact mn_zret rfl rfl dPc_isKnown_46 ⟨by rw [kV_neg (fun h => absurd h.2 (by omega))], rfl⟩
      · have c3 := mt (nI_leI (a := (ln (p / w))) (b := (p - ((p / w) * w))) (by omega) (by omega)).mpr c3
        refine mn_iconst (v := 1) dPc_isKnown_41 (by decide) ?_
        refine mn_goto 46 dPc_isKnown_42 (by decide) ?_
        exact mn_zret rfl rfl dPc_isKnown_46 ⟨by rw [kV_pos ⟨by omega, by omega⟩], rfl⟩
    · have c2 := mt (nI_ltI (a := p) (b := (m * w)) (by omega) (by omega)).mpr c2
      refine mn_iconst (v := 0) dPc_isKnown_12 (by decide) ?_
      exact mn_zret rfl rfl dPc_isKnown_13 ⟨by rw [kV_neg (fun h => absurd h.1 (by omega))], rfl⟩
set_option maxRecDepth 100000 in
theorem c_P_areKnown_l {E : mn_En} {g : mn_H} {a nb m w : Nat} {pb ln sn : Nat → Nat} (ha : mn_at g a (.inr (2, [.ref (a + 3), .ref (a + 1), .ref (a + 2), .int (nI m), .int (nI w)]))) (hb : mn_at g (a + 3) (.inl (0, nb, .inl (fun j => nI (pb j))))) (hl : mn_at g (a + 1) (.inl (0, 60, .inl (fun j => nI (ln j))))) (hs : mn_at g (a + 2) (.inl (0, 60, .inl (fun j => nI (sn j))))) (hnb : nb < 5000) (hw0 : 0 < w) (hmw : m * w ≤ nb) (hm : m ≤ 60) (hln : ∀ j, ln j < 256) {i j : Nat} (hj : j < 100000) : ∀ (fl p : Nat), i ≤ p → j - p < fl → (∀ q, i ≤ q → q < p → q < j → kN ln m w q) → p ≤ 100000 → mn_R E MPc_areKnown 3 66 0 0 2 [(0, .ref a), (1, .int (nI i)), (2, .int (nI j)), (3, .int (nI p))] [] g (mn_is (some (.int (akV ln m w i j))) g) := by
  intro fl
  induction fl with
  | zero => intro p h1 h2 h3 h4; exact absurd h2 (by omega)
  | succ fl ih =>
    intro p h1 h2 h3 h4
    refine mn_iload_n 3 dPc_areKnown_2 rfl rfl ?_
    refine mn_iload_n 2 dPc_areKnown_3 rfl rfl ?_
    refine mn_icmp_ge 23 dPc_areKnown_4 (by decide) (fun c1 => ?_) (fun c1 => ?_)
    · have c1 := (nI_leI (a := j) (b := p) (by omega) (by omega)).mp c1
      refine mn_iconst (v := 1) dPc_areKnown_23 (by decide) ?_
      exact mn_zret rfl rfl dPc_areKnown_24 ⟨by rw [akV_pos (fun q q1 q2 => h3 q q1 (by omega) q2)], rfl⟩
    · have c1 := mt (nI_leI (a := j) (b := p) (by omega) (by omega)).mpr c1
      refine mn_aload_n 0 dPc_areKnown_7 rfl rfl ?_
      refine mn_iload_n 3 dPc_areKnown_8 rfl rfl ?_
      refine mn_cV (d' := 2) (w' := 44) (As := [.int (nI p)]) (stk' := [.int (kV ln m w p)]) okPc_isKnown lPc_67 dPc_areKnown_9 ha rfl rfl rfl rfl (Nat.le_of_ble_eq_true rfl) (Nat.le_of_ble_eq_true rfl) (by decide) (c_P_isKnown ha hb hl hs (by omega) hw0 hmw hm (p := p) (by omega) hln) rfl ?_
      refine mn_if_ne 17 dPc_areKnown_12 (by decide) (fun c2 => ?_) (fun c2 => ?_)
      · refine mn_iinc (v := nI (p + 1)) (ls' := [(0, .ref a), (1, .int (nI i)), (2, .int (nI j)), (3, .int (nI (p + 1)))]) 3 dPc_areKnown_17 rfl (nI_add p 1) (by decide) rfl ?_
        refine mn_goto 2 dPc_areKnown_20 (by decide) ?_
        exact ih (p + 1) (by omega) (by omega) (fun q q1 q2 q3 => by rcases Nat.lt_or_ge q p with h | h; exact h3 q q1 h q3; rw [show q = p by omega]; exact kV_of c2) (by omega)
      · refine mn_iconst (v := 0) dPc_areKnown_15 (by decide) ?_
        exact mn_zret rfl rfl dPc_areKnown_16 ⟨by rw [akV_neg (fun h => kV_no c2 (h p h1 (by omega)))], rfl⟩
set_option maxRecDepth 100000 in
theorem c_P_areKnown {E : mn_En} {g : mn_H} {a nb m w : Nat} {pb ln sn : Nat → Nat} (ha : mn_at g a (.inr (2, [.ref (a + 3), .ref (a + 1), .ref (a + 2), .int (nI m), .int (nI w)]))) (hb : mn_at g (a + 3) (.inl (0, nb, .inl (fun j => nI (pb j))))) (hl : mn_at g (a + 1) (.inl (0, 60, .inl (fun j => nI (ln j))))) (hs : mn_at g (a + 2) (.inl (0, 60, .inl (fun j => nI (sn j))))) (hnb : nb < 5000) (hw0 : 0 < w) (hmw : m * w ≤ nb) (hm : m ≤ 60) (hln : ∀ j, ln j < 256) {i j : Nat} (hj : j < 100000) (hi : i < 100000) : mn_R E MPc_areKnown 3 66 0 0 0 [(0, .ref a), (1, .int (nI i)), (2, .int (nI j))] [] g (mn_is (some (.int (akV ln m w i j))) g) := by
  refine mn_iload_n 1 dPc_areKnown_0 rfl rfl ?_
  refine mn_istore_n (ls' := [(0, .ref a), (1, .int (nI i)), (2, .int (nI j)), (3, .int (nI i))]) dPc_areKnown_1 rfl (by decide) rfl ?_
  exact c_P_areKnown_l ha hb hl hs hnb hw0 hmw hm hln hj (j - i + 1) i (by omega) (by omega) (fun q q1 q2 q3 => absurd q2 (by omega)) (by omega)
set_option maxRecDepth 100000 in
theorem c_P_sb_l {E : mn_En} {g : mn_H} {a nb m w : Nat} {pb ln sn : Nat → Nat} (ha : mn_at g a (.inr (2, [.ref (a + 3), .ref (a + 1), .ref (a + 2), .int (nI m), .int (nI w)]))) (hb : mn_at g (a + 3) (.inl (0, nb, .inl (fun j => nI (pb j))))) (hl : mn_at g (a + 1) (.inl (0, 60, .inl (fun j => nI (ln j))))) (hs : mn_at g (a + 2) (.inl (0, 60, .inl (fun j => nI (sn j))))) (hnb : nb < 5000) (hw0 : 0 < w) (hmw : m * w ≤ nb) (hm : m ≤ 60) (hln : ∀ j, ln j < 256) (hsn : ∀ j, sn j < 256) (hw68 : w ≤ 68) {n0 p0 : Nat} : ∀ (fl n : Nat), n < 200000 → m - n < fl → mn_R E MPc_startBehind 2 44 0 0 11 [(0, .ref a), (1, .int (nI p0)), (2, .int (nI n))] [] g (mn_is (some (.int (onI ((sbK ln sn m (m - n)).map (fun n => n * w + sn n))))) g) := by
  intro fl
  induction fl with
  | zero => intro n h1 h2; exact absurd h2 (by omega)
  | succ fl ih =>
    intro n h1 h2
    refine mn_iload_n 2 dPc_startBehind_11 rfl rfl ?_
    refine mn_aload_n 0 dPc_startBehind_12 rfl rfl ?_
    refine mn_get okPc 3 lPc_33 (by decide) ha rfl dPc_startBehind_13 ?_
    refine mn_icmp_ge 53 dPc_startBehind_16 (by decide) (fun c1 => ?_) (fun c1 => ?_)
    · have c1 := (nI_leI (a := m) (b := n) (by omega) (by omega)).mp c1
      refine mn_bipush (v := (-2)) dPc_startBehind_53 (by decide) ?_
      exact mn_iret rfl dPc_startBehind_55 ⟨by rw [show m - n = 0 by omega]; rfl, rfl⟩
    · have c1 := mt (nI_leI (a := m) (b := n) (by omega) (by omega)).mpr c1
      have hl9 := hln n
      have hs9 := hsn n
      have hnw : n * w + w ≤ m * w := by have := Nat.mul_le_mul_right w (show n + 1 ≤ m by omega); rw [Nat.succ_mul] at this; exact this
      refine mn_aload_n 0 dPc_startBehind_19 rfl rfl ?_
      refine mn_iload_n 2 dPc_startBehind_20 rfl rfl ?_
      refine mn_bipush (v := 7) dPc_startBehind_21 (by decide) ?_
      refine mn_cV (d' := 1) (w' := 21) (As := [.int (nI n), .int 7]) (stk' := [.int (nI (sn n))]) okPc_part lPc_57 dPc_startBehind_23 ha rfl rfl rfl rfl (Nat.le_of_ble_eq_true rfl) (Nat.le_of_ble_eq_true rfl) (by decide) (c_P_partN ha hb hl hs (by omega) (n := n) (i := 7) (by omega) (by omega) (by first | assumption | omega) (by first | assumption | omega)) rfl ?_
      refine mn_istore_n (ls' := [(0, .ref a), (1, .int (nI p0)), (2, .int (nI n)), (3, .int (nI (sn n)))]) dPc_startBehind_26 rfl (by decide) rfl ?_
      refine mn_iload_n 3 dPc_startBehind_27 rfl rfl ?_
      refine mn_aload_n 0 dPc_startBehind_28 rfl rfl ?_
      refine mn_iload_n 2 dPc_startBehind_29 rfl rfl ?_
      refine mn_bipush (v := 6) dPc_startBehind_30 (by decide) ?_
      refine mn_cV (d' := 1) (w' := 21) (As := [.int (nI n), .int 6]) (stk' := [.int (nI (ln n)), .int (nI (sn n))]) okPc_part lPc_57 dPc_startBehind_32 ha rfl rfl rfl rfl (Nat.le_of_ble_eq_true rfl) (Nat.le_of_ble_eq_true rfl) (by decide) (c_P_partN ha hb hl hs (by omega) (n := n) (i := 6) (by omega) (by omega) (by first | assumption | omega) (by first | assumption | omega)) rfl ?_
      refine mn_icmp_ge 47 dPc_startBehind_35 (by decide) (fun c2 => ?_) (fun c2 => ?_)
      · have c2 := (nI_leI (a := (ln n)) (b := (sn n)) (by omega) (by omega)).mp c2
        refine mn_iinc (v := nI (n + 1)) (ls' := [(0, .ref a), (1, .int (nI p0)), (2, .int (nI (n + 1))), (3, .int (nI (sn n)))]) 2 dPc_startBehind_47 rfl (nI_add n 1) (by decide) rfl ?_
        refine mn_goto 11 dPc_startBehind_50 (by decide) ?_
        refine mn_R.sub [0, 1, 2] (ls' := [(0, .ref a), (1, .int (nI p0)), (2, .int (nI (n + 1)))]) rfl ?_
        refine mn_R.post (Q' := mn_is (some (.int (onI ((sbK ln sn m (m - (n + 1))).map (fun n => n * w + sn n))))) g) (ih (n + 1) (by omega) (by omega)) (fun v g' hq => ⟨?_, hq.2⟩)
        rw [hq.1, show m - n = (m - (n + 1)) + 1 by omega, sbK, show m - (m - (n + 1) + 1) = n by omega, if_neg (by omega)]
      · have c2 := mt (nI_leI (a := (ln n)) (b := (sn n)) (by omega) (by omega)).mpr c2
        refine mn_iload_n 2 dPc_startBehind_38 rfl rfl ?_
        refine mn_aload_n 0 dPc_startBehind_39 rfl rfl ?_
        refine mn_get okPc 4 lPc_37 (by decide) ha rfl dPc_startBehind_40 ?_
        refine mn_imul (z := nI (n * w)) dPc_startBehind_43 (pk_mul n w) ?_
        refine mn_iload_n 3 dPc_startBehind_44 rfl rfl ?_
        refine mn_iadd (z := nI (n * w + (sn n))) dPc_startBehind_45 (nI_add (n * w) (sn n)) ?_
        exact mn_iret rfl dPc_startBehind_46 ⟨by rw [show m - n = (m - n - 1) + 1 by omega]; unfold sbK; rw [show m - (m - n - 1 + 1) = n by omega, if_pos (by omega)]; rfl, rfl⟩
set_option maxRecDepth 100000 in
theorem c_P_startBehind {E : mn_En} {g : mn_H} {a nb m w : Nat} {pb ln sn : Nat → Nat} (ha : mn_at g a (.inr (2, [.ref (a + 3), .ref (a + 1), .ref (a + 2), .int (nI m), .int (nI w)]))) (hb : mn_at g (a + 3) (.inl (0, nb, .inl (fun j => nI (pb j))))) (hl : mn_at g (a + 1) (.inl (0, 60, .inl (fun j => nI (ln j))))) (hs : mn_at g (a + 2) (.inl (0, 60, .inl (fun j => nI (sn j))))) (hnb : nb < 5000) (hw0 : 0 < w) (hmw : m * w ≤ nb) (hm : m ≤ 60) (hln : ∀ j, ln j < 256) (hsn : ∀ j, sn j < 256) (hw68 : w ≤ 68) {p : Nat} (hp : p < 100000) : mn_R E MPc_startBehind 2 44 0 0 0 [(0, .ref a), (1, .int (nI p))] [] g (mn_is (some (.int (onI ((sbK ln sn m (m - (p / w + 1))).map (fun n => n * w + sn n))))) g) := by
  have hpw : p / w ≤ p := Nat.div_le_self p w
  have hw9 : w < 2 ^ 31 := by omega
  refine mn_iload_n 1 dPc_startBehind_0 rfl rfl ?_
  refine mn_aload_n 0 dPc_startBehind_1 rfl rfl ?_
  refine mn_get okPc 4 lPc_37 (by decide) ha rfl dPc_startBehind_2 ?_
  refine mn_cS (d' := 0) (w' := 0) (As := [.int (nI p), .int (nI w)]) (stk' := [.int (nI (p / w))]) okBy_quotient lPc_64 dPc_startBehind_5 rfl rfl (Nat.le_of_ble_eq_true rfl) (Nat.le_of_ble_eq_true rfl) (by decide) (c_quotient (x := p) (y := w) (by omega) (by omega)) rfl ?_
  refine mn_iconst (v := 1) dPc_startBehind_8 (by decide) ?_
  refine mn_iadd (z := nI (p / w + 1)) dPc_startBehind_9 (nI_add (p / w) 1) ?_
  refine mn_istore_n (ls' := [(0, .ref a), (1, .int (nI p)), (2, .int (nI (p / w + 1)))]) dPc_startBehind_10 rfl (by decide) rfl ?_
  exact c_P_sb_l (n0 := 0) ha hb hl hs hnb hw0 hmw hm hln hsn hw68 (m + 1) (p / w + 1) (by generalize p / w = z at *; omega) (by generalize p / w = z at *; omega)
set_option maxRecDepth 100000 in
theorem c_P_nk_z {E : mn_En} {g : mn_H} {a nb m w : Nat} {pb ln sn : Nat → Nat} (ha : mn_at g a (.inr (2, [.ref (a + 3), .ref (a + 1), .ref (a + 2), .int (nI m), .int (nI w)]))) (hb : mn_at g (a + 3) (.inl (0, nb, .inl (fun j => nI (pb j))))) (hl : mn_at g (a + 1) (.inl (0, 60, .inl (fun j => nI (ln j))))) (hs : mn_at g (a + 2) (.inl (0, 60, .inl (fun j => nI (sn j))))) (hnb : nb < 5000) (hw0 : 0 < w) (hmw : m * w ≤ nb) (hm : m ≤ 60) (hln : ∀ j, ln j < 256) (hsn : ∀ j, sn j < 256) (hw68 : w ≤ 68) {x y : Int32} : mn_R E MPc_nextKnown 4 90 0 0 4 [(0, .ref a), (1, .int x), (2, .int y), (3, .int 61)] [] g (mn_is (some (.int (-2))) g) := by
  refine mn_iload_n 3 dPc_nextKnown_4 rfl rfl ?_
  refine mn_bipush (v := 60) dPc_nextKnown_5 (by decide) ?_
  refine mn_icmp_gt 36 dPc_nextKnown_7 (by decide) (fun c1 => ?_) (fun c1 => ?_)
  · refine mn_bipush (v := (-2)) dPc_nextKnown_36 (by decide) ?_
    exact mn_iret rfl dPc_nextKnown_38 ⟨rfl, rfl⟩
  · exact absurd c1 (by decide)
set_option maxRecDepth 100000 in
theorem c_P_nk_neg {E : mn_En} {g : mn_H} {a nb m w : Nat} {pb ln sn : Nat → Nat} (ha : mn_at g a (.inr (2, [.ref (a + 3), .ref (a + 1), .ref (a + 2), .int (nI m), .int (nI w)]))) (hb : mn_at g (a + 3) (.inl (0, nb, .inl (fun j => nI (pb j))))) (hl : mn_at g (a + 1) (.inl (0, 60, .inl (fun j => nI (ln j))))) (hs : mn_at g (a + 2) (.inl (0, 60, .inl (fun j => nI (sn j))))) (hnb : nb < 5000) (hw0 : 0 < w) (hmw : m * w ≤ nb) (hm : m ≤ 60) (hln : ∀ j, ln j < 256) (hsn : ∀ j, sn j < 256) (hw68 : w ≤ 68) {x : Int32} {j : Nat} (hj : j < 100) : mn_R E MPc_nextKnown 4 90 0 0 4 [(0, .ref a), (1, .int x), (2, .int (-2)), (3, .int (nI j))] [] g (mn_is (some (.int (-2))) g) := by
  refine mn_iload_n 3 dPc_nextKnown_4 rfl rfl ?_
  refine mn_bipush (v := 60) dPc_nextKnown_5 (by decide) ?_
  refine mn_icmp_gt 36 dPc_nextKnown_7 (by decide) (fun c1 => ?_) (fun c1 => ?_)
  · have c1 := (nI_ltI (a := 60) (b := j) (by omega) (by omega)).mp c1
    refine mn_bipush (v := (-2)) dPc_nextKnown_36 (by decide) ?_
    exact mn_iret rfl dPc_nextKnown_38 ⟨rfl, rfl⟩
  · have c1 := mt (nI_ltI (a := 60) (b := j) (by omega) (by omega)).mpr c1
    refine mn_iload_n 2 dPc_nextKnown_10 rfl rfl ?_
    refine mn_if_lt 36 dPc_nextKnown_11 (by decide) (fun c2 => ?_) (fun c2 => ?_)
    · refine mn_bipush (v := (-2)) dPc_nextKnown_36 (by decide) ?_
      exact mn_iret rfl dPc_nextKnown_38 ⟨rfl, rfl⟩
    · exact absurd c2 (by decide)
set_option maxRecDepth 100000 in
theorem c_P_nk_l {E : mn_En} {g : mn_H} {a nb m w : Nat} {pb ln sn : Nat → Nat} (ha : mn_at g a (.inr (2, [.ref (a + 3), .ref (a + 1), .ref (a + 2), .int (nI m), .int (nI w)]))) (hb : mn_at g (a + 3) (.inl (0, nb, .inl (fun j => nI (pb j))))) (hl : mn_at g (a + 1) (.inl (0, 60, .inl (fun j => nI (ln j))))) (hs : mn_at g (a + 2) (.inl (0, 60, .inl (fun j => nI (sn j))))) (hnb : nb < 5000) (hw0 : 0 < w) (hmw : m * w ≤ nb) (hm : m ≤ 60) (hln : ∀ j, ln j < 256) (hsn : ∀ j, sn j < 256) (hw68 : w ≤ 68) {x : Int32} : ∀ (f j p : Nat), j + f = 61 → p < 100000 → mn_R E MPc_nextKnown 4 90 0 0 4 [(0, .ref a), (1, .int x), (2, .int (nI p)), (3, .int (nI j))] [] g (mn_is (some (.int (onI (nk ln sn m w f p)))) g) := by
  intro f
  induction f with
  | zero => intro j p h1 h2; rw [show j = 61 by omega]; exact c_P_nk_z ha hb hl hs hnb hw0 hmw hm hln hsn hw68
  | succ f ih =>
    intro j p h1 h2
    refine mn_iload_n 3 dPc_nextKnown_4 rfl rfl ?_
    refine mn_bipush (v := 60) dPc_nextKnown_5 (by decide) ?_
    refine mn_icmp_gt 36 dPc_nextKnown_7 (by decide) (fun c1 => ?_) (fun c1 => ?_)
    · have c1 := (nI_ltI (a := 60) (b := j) (by omega) (by omega)).mp c1
      refine mn_bipush (v := (-2)) dPc_nextKnown_36 (by decide) ?_
      exact mn_iret rfl dPc_nextKnown_38 ⟨by first | rw [nk_none (kV_no c3) hsb]; rfl | exact absurd c1 (by omega), rfl⟩
    · have c1 := mt (nI_ltI (a := 60) (b := j) (by omega) (by omega)).mpr c1
      refine mn_iload_n 2 dPc_nextKnown_10 rfl rfl ?_
      refine mn_if_lt 36 dPc_nextKnown_11 (by decide) (fun c2 => ?_) (fun c2 => ?_)
      · exact absurd c2 (nI_pos (by omega))
      · refine mn_aload_n 0 dPc_nextKnown_14 rfl rfl ?_
        refine mn_iload_n 2 dPc_nextKnown_15 rfl rfl ?_
        refine mn_cV (d' := 2) (w' := 44) (As := [.int (nI p)]) (stk' := [.int (kV ln m w p)]) okPc_isKnown lPc_67 dPc_nextKnown_16 ha rfl rfl rfl rfl (Nat.le_of_ble_eq_true rfl) (Nat.le_of_ble_eq_true rfl) (by decide) (c_P_isKnown ha hb hl hs (by omega) hw0 hmw hm (p := p) (by omega) hln) rfl ?_
        refine mn_if_eq 24 dPc_nextKnown_19 (by decide) (fun c3 => ?_) (fun c3 => ?_)
        · rcases hsb : sbK ln sn m (m - (p / w + 1)) with _ | n
          · have hx9 : True := trivial
            refine mn_aload_n 0 dPc_nextKnown_24 rfl rfl ?_
            refine mn_iload_n 2 dPc_nextKnown_25 rfl rfl ?_
            refine mn_cV (d' := 2) (w' := 44) (As := [.int (nI p)]) (stk' := [.int (-2)]) okPc_startBehind lPc_71 dPc_nextKnown_26 ha rfl rfl rfl rfl (Nat.le_of_ble_eq_true rfl) (Nat.le_of_ble_eq_true rfl) (by decide) (by have h0 := c_P_startBehind (E := E) ha hb hl hs (by omega) hw0 hmw hm hln hsn hw68 (p := p) (by omega); rw [hsb] at h0; exact h0) rfl ?_
            refine mn_istore_n (ls' := [(0, .ref a), (1, .int x), (2, .int (-2)), (3, .int (nI j))]) dPc_nextKnown_29 rfl (by decide) rfl ?_
            refine mn_iinc (v := nI (j + 1)) (ls' := [(0, .ref a), (1, .int x), (2, .int (-2)), (3, .int (nI (j + 1)))]) 3 dPc_nextKnown_30 rfl (nI_add j 1) (by decide) rfl ?_
            refine mn_goto 4 dPc_nextKnown_33 (by decide) ?_
            rw [nk_none (kV_no c3) hsb]
            exact c_P_nk_neg ha hb hl hs hnb hw0 hmw hm hln hsn hw68 (by omega)
          · obtain ⟨hn1, hn2, hn3⟩ := sbK_some (Nat.sub_le _ _) hsb
            have hs9 := hsn n
            have hnw : n * w ≤ m * w := Nat.mul_le_mul_right w (by omega)
            refine mn_aload_n 0 dPc_nextKnown_24 rfl rfl ?_
            refine mn_iload_n 2 dPc_nextKnown_25 rfl rfl ?_
            refine mn_cV (d' := 2) (w' := 44) (As := [.int (nI p)]) (stk' := [.int (nI (n * w + sn n))]) okPc_startBehind lPc_71 dPc_nextKnown_26 ha rfl rfl rfl rfl (Nat.le_of_ble_eq_true rfl) (Nat.le_of_ble_eq_true rfl) (by decide) (by have h0 := c_P_startBehind (E := E) ha hb hl hs (by omega) hw0 hmw hm hln hsn hw68 (p := p) (by omega); rw [hsb] at h0; exact h0) rfl ?_
            refine mn_istore_n (ls' := [(0, .ref a), (1, .int x), (2, .int (nI (n * w + sn n))), (3, .int (nI j))]) dPc_nextKnown_29 rfl (by decide) rfl ?_
            refine mn_iinc (v := nI (j + 1)) (ls' := [(0, .ref a), (1, .int x), (2, .int (nI (n * w + sn n))), (3, .int (nI (j + 1)))]) 3 dPc_nextKnown_30 rfl (nI_add j 1) (by decide) rfl ?_
            refine mn_goto 4 dPc_nextKnown_33 (by decide) ?_
            rw [nk_some (kV_no c3) hsb]
            exact ih (j + 1) (n * w + sn n) (by omega) (by omega)
        · refine mn_iload_n 2 dPc_nextKnown_22 rfl rfl ?_
          exact mn_iret rfl dPc_nextKnown_23 ⟨by rw [nk_yes (kV_of c3)]; rfl, rfl⟩
set_option maxRecDepth 100000 in
theorem c_P_nextKnown {E : mn_En} {g : mn_H} {a nb m w : Nat} {pb ln sn : Nat → Nat} (ha : mn_at g a (.inr (2, [.ref (a + 3), .ref (a + 1), .ref (a + 2), .int (nI m), .int (nI w)]))) (hb : mn_at g (a + 3) (.inl (0, nb, .inl (fun j => nI (pb j))))) (hl : mn_at g (a + 1) (.inl (0, 60, .inl (fun j => nI (ln j))))) (hs : mn_at g (a + 2) (.inl (0, 60, .inl (fun j => nI (sn j))))) (hnb : nb < 5000) (hw0 : 0 < w) (hmw : m * w ≤ nb) (hm : m ≤ 60) (hln : ∀ j, ln j < 256) (hsn : ∀ j, sn j < 256) (hw68 : w ≤ 68) {p : Nat} (hp : p < 100000) : mn_R E MPc_nextKnown 4 90 0 0 0 [(0, .ref a), (1, .int (nI p))] [] g (mn_is (some (.int (onI (nk ln sn m w 61 p)))) g) := by
  refine mn_iload_n 1 dPc_nextKnown_0 rfl rfl ?_
  refine mn_istore_n (ls' := [(0, .ref a), (1, .int (nI p)), (2, .int (nI p))]) dPc_nextKnown_1 rfl (by decide) rfl ?_
  refine mn_iconst (v := 0) dPc_nextKnown_2 (by decide) ?_
  refine mn_istore_n (ls' := [(0, .ref a), (1, .int (nI p)), (2, .int (nI p)), (3, .int 0)]) dPc_nextKnown_3 rfl (by decide) rfl ?_
  exact c_P_nk_l ha hb hl hs hnb hw0 hmw hm hln hsn hw68 61 0 p (by omega) hp
