set_option maxRecDepth 100000 in
theorem c_Sl_at {E : mn_En} {g : mn_H} {z : Nat} {pi ss : Nat → Nat} {sb : Nat → Nat → Nat} (hSl : SlP g z pi ss sb) {i : Nat} (hi : i < 60) : mn_R E MSl_at 0 0 0 0 0 [(0, .ref z), (1, .int (nI i))] [] g (mn_is (some (.ref (z + 2 + 2 * pi i))) g) := by
  obtain ⟨hz, hzr, hv, hpi, hpj, hss, hsb⟩ := hSl
  refine mn_iload_n 1 dSl_at_0 rfl rfl ?_
  refine mn_if_lt 10 dSl_at_1 (by decide) (fun c1 => ?_) (fun c1 => ?_)
  · exact absurd c1 (nI_pos (by omega))
  · refine mn_iload_n 1 dSl_at_4 rfl rfl ?_
    refine mn_bipush (v := 60) dSl_at_5 (by decide) ?_
    refine mn_icmp_lt 14 dSl_at_7 (by decide) (fun c2 => ?_) (fun c2 => ?_)
    · have c2 := (nI_ltI (a := i) (b := 60) (by omega) (by omega)).mp c2
      refine mn_aload_n 0 dSl_at_14 rfl rfl ?_
      refine mn_get okSl 0 lSl_11 (by decide) hz rfl dSl_at_15 ?_
      refine mn_iload_n 1 dSl_at_18 rfl rfl ?_
      refine mn_aaldN (j := i) hzr rfl rfl (by omega) (by omega) (show sl_q z pi i = some (z + 2 + 2 * pi i) from if_pos (by omega)) dSl_at_19 ?_
      exact mn_aret rfl (Or.inl ⟨_, rfl⟩) dSl_at_20 ⟨rfl, rfl⟩
    · have c2 := mt (nI_ltI (a := i) (b := 60) (by omega) (by omega)).mpr c2
      refine mn_null dSl_at_10 ?_
      refine mn_goto 20 dSl_at_11 (by decide) ?_
      exact mn_nret rfl (Or.inl ⟨_, rfl⟩) dSl_at_20 (absurd hi (by omega))
set_option maxRecDepth 100000 in
theorem c_Sl_at_bad {E : mn_En} {g : mn_H} {z : Nat} {pi ss : Nat → Nat} {sb : Nat → Nat → Nat} (hSl : SlP g z pi ss sb) {x : Int32} (hx : x < 0 ∨ 60 ≤ x) : mn_R E MSl_at 0 0 0 0 0 [(0, .ref z), (1, .int x)] [] g (mn_is (some .null) g) := by
  obtain ⟨hz, hzr, hv, hpi, hpj, hss, hsb⟩ := hSl
  refine mn_iload_n 1 dSl_at_0 rfl rfl ?_
  refine mn_if_lt 10 dSl_at_1 (by decide) (fun c1 => ?_) (fun c1 => ?_)
  · refine mn_null dSl_at_10 ?_
    refine mn_goto 20 dSl_at_11 (by decide) ?_
    exact mn_nret rfl (Or.inl ⟨_, rfl⟩) dSl_at_20 ⟨rfl, rfl⟩
  · refine mn_iload_n 1 dSl_at_4 rfl rfl ?_
    refine mn_bipush (v := 60) dSl_at_5 (by decide) ?_
    refine mn_icmp_lt 14 dSl_at_7 (by decide) (fun c2 => ?_) (fun c2 => ?_)
    · exact absurd hx (fun q => q.elim c1 (Int32.not_le.mpr c2))
    · refine mn_null dSl_at_10 ?_
      refine mn_goto 20 dSl_at_11 (by decide) ?_
      exact mn_nret rfl (Or.inl ⟨_, rfl⟩) dSl_at_20 ⟨rfl, rfl⟩
set_option maxRecDepth 100000 in
theorem c_Sl_filled_l {E : mn_En} {g : mn_H} {z : Nat} {pi ss : Nat → Nat} {sb : Nat → Nat → Nat} (hSl : SlP g z pi ss sb) : ∀ (f i : Nat), i ≤ 60 → 60 - i < f → mn_R E MSl_filled 0 0 0 0 4 [(0, .ref z), (1, .int (nI (cnt (fun k => ss k ≠ 0) i))), (2, .int (nI i))] [] g (mn_is (some (.int (nI (cnt (fun k => ss k ≠ 0) 60)))) g) := by
  obtain ⟨hz, hzr, hv, hpi, hpj, hss, hsb⟩ := hSl
  intro f
  induction f with
  | zero => intro i h1 h2; exact absurd h2 (by omega)
  | succ f ih =>
    intro i h1 h2
    have hcn := cnt_le (fun k => ss k ≠ 0) i
    refine mn_iload_n 2 dSl_filled_4 rfl rfl ?_
    refine mn_bipush (v := 60) dSl_filled_5 (by decide) ?_
    refine mn_icmp_ge 31 dSl_filled_7 (by decide) (fun c1 => ?_) (fun c1 => ?_)
    · have c1 := (nI_leI (a := 60) (b := i) (by omega) (by omega)).mp c1
      refine mn_iload_n 1 dSl_filled_31 rfl rfl ?_
      exact mn_iret rfl dSl_filled_32 ⟨by rw [show i = 60 by omega], rfl⟩
    · have c1 := mt (nI_leI (a := 60) (b := i) (by omega) (by omega)).mpr c1
      have ho := (hv i (by omega)).1
      have hr := (hv i (by omega)).2
      have hssi := hss i
      have hpii := hpi i (by omega)
      refine mn_aload_n 0 dSl_filled_10 rfl rfl ?_
      refine mn_get okSl 0 lSl_11 (by decide) hz rfl dSl_filled_11 ?_
      refine mn_iload_n 2 dSl_filled_14 rfl rfl ?_
      refine mn_aaldN (j := i) hzr rfl rfl (by omega) (by omega) (show sl_q z pi i = some (z + 2 + 2 * pi i) from if_pos (by omega)) dSl_filled_15 ?_
      refine mn_get okVo 1 lSl_22 (by decide) ho rfl dSl_filled_16 ?_
      refine mn_if_eq 25 dSl_filled_19 (by decide) (fun c2 => ?_) (fun c2 => ?_)
      · have c2 := (nI_eq (a := (ss i)) (b := 0) (by omega) (by omega)).mp c2
        refine mn_iinc (v := nI (i + 1)) (ls' := [(0, .ref z), (1, .int (nI (cnt (fun k => ss k ≠ 0) i))), (2, .int (nI (i + 1)))]) 2 dSl_filled_25 rfl (nI_add i 1) (by decide) rfl ?_
        refine mn_goto 4 dSl_filled_28 (by decide) ?_
        rw [← cnt_n (P := fun k => ss k ≠ 0) (k := i) (fun q => q c2)]
        exact ih (i + 1) (by omega) (by omega)
      · have c2 := mt (nI_eq (a := (ss i)) (b := 0) (by omega) (by omega)).mpr c2
        refine mn_iinc (v := nI (cnt (fun k => ss k ≠ 0) i + 1)) (ls' := [(0, .ref z), (1, .int (nI (cnt (fun k => ss k ≠ 0) i + 1))), (2, .int (nI i))]) 1 dSl_filled_22 rfl (nI_add (cnt (fun k => ss k ≠ 0) i) 1) (by decide) rfl ?_
        refine mn_iinc (v := nI (i + 1)) (ls' := [(0, .ref z), (1, .int (nI (cnt (fun k => ss k ≠ 0) i + 1))), (2, .int (nI (i + 1)))]) 2 dSl_filled_25 rfl (nI_add i 1) (by decide) rfl ?_
        refine mn_goto 4 dSl_filled_28 (by decide) ?_
        rw [← cnt_y (P := fun k => ss k ≠ 0) (k := i) c2]
        exact ih (i + 1) (by omega) (by omega)
set_option maxRecDepth 100000 in
theorem c_Sl_filled {E : mn_En} {g : mn_H} {z : Nat} {pi ss : Nat → Nat} {sb : Nat → Nat → Nat} (hSl : SlP g z pi ss sb) : mn_R E MSl_filled 0 0 0 0 0 [(0, .ref z)] [] g (mn_is (some (.int (nI (cnt (fun k => ss k ≠ 0) 60)))) g) := by
  refine mn_iconst (v := 0) dSl_filled_0 (by decide) ?_
  refine mn_istore_n (ls' := [(0, .ref z), (1, .int 0)]) dSl_filled_1 rfl (by decide) rfl ?_
  refine mn_iconst (v := 0) dSl_filled_2 (by decide) ?_
  refine mn_istore_n (ls' := [(0, .ref z), (1, .int 0), (2, .int 0)]) dSl_filled_3 rfl (by decide) rfl ?_
  exact c_Sl_filled_l hSl 61 0 (by omega) (by omega)
set_option maxRecDepth 100000 in
theorem c_Sl_inState_l {E : mn_En} {g : mn_H} {z : Nat} {pi ss : Nat → Nat} {sb : Nat → Nat → Nat} (hSl : SlP g z pi ss sb) {x : Nat} (hx : x < 10) : ∀ (f i : Nat), i ≤ 60 → 60 - i < f → mn_R E MSl_inState 4 88 0 0 4 [(0, .ref z), (1, .int (nI x)), (2, .int (nI (cnt (fun k => stN (sb k) (ss k) = x) i))), (3, .int (nI i))] [] g (mn_is (some (.int (nI (cnt (fun k => stN (sb k) (ss k) = x) 60)))) g) := by
  obtain ⟨hz, hzr, hv, hpi, hpj, hss, hsb⟩ := hSl
  intro f
  induction f with
  | zero => intro i h1 h2; exact absurd h2 (by omega)
  | succ f ih =>
    intro i h1 h2
    have hcn := cnt_le (fun k => stN (sb k) (ss k) = x) i
    have hst := stN_lt (sb i) (ss i)
    refine mn_iload_n 3 dSl_inState_4 rfl rfl ?_
    refine mn_bipush (v := 60) dSl_inState_5 (by decide) ?_
    refine mn_icmp_ge 32 dSl_inState_7 (by decide) (fun c1 => ?_) (fun c1 => ?_)
    · have c1 := (nI_leI (a := 60) (b := i) (by omega) (by omega)).mp c1
      refine mn_iload_n 2 dSl_inState_32 rfl rfl ?_
      exact mn_iret rfl dSl_inState_33 ⟨by rw [show i = 60 by omega], rfl⟩
    · have c1 := mt (nI_leI (a := 60) (b := i) (by omega) (by omega)).mpr c1
      have ho := (hv i (by omega)).1
      have hr := (hv i (by omega)).2
      have hssi := hss i
      have hpii := hpi i (by omega)
      refine mn_aload_n 0 dSl_inState_10 rfl rfl ?_
      refine mn_get okSl 0 lSl_11 (by decide) hz rfl dSl_inState_11 ?_
      refine mn_iload_n 3 dSl_inState_14 rfl rfl ?_
      refine mn_aaldN (j := i) hzr rfl rfl (by omega) (by omega) (show sl_q z pi i = some (z + 2 + 2 * pi i) from if_pos (by omega)) dSl_inState_15 ?_
      refine mn_cV (d' := 3) (w' := 68) (As := []) (stk' := [.int (nI (stN (sb i) (ss i)))]) okVo_state lSl_26 dSl_inState_16 ho rfl rfl rfl rfl (Nat.le_of_ble_eq_true rfl) (Nat.le_of_ble_eq_true rfl) (by decide) (by have h0 := c_V_state (E := E) ho hr (by omega); rw [stV_nI (hsb i)] at h0; exact h0) rfl ?_
      refine mn_iload_n 1 dSl_inState_19 rfl rfl ?_
      refine mn_icmp_ne 26 dSl_inState_20 (by decide) (fun c2 => ?_) (fun c2 => ?_)
      · have c2 := mt (nI_eq (a := (stN (sb i) (ss i))) (b := x) (by omega) (by omega)).mpr c2
        refine mn_iinc (v := nI (i + 1)) (ls' := [(0, .ref z), (1, .int (nI x)), (2, .int (nI (cnt (fun k => stN (sb k) (ss k) = x) i))), (3, .int (nI (i + 1)))]) 3 dSl_inState_26 rfl (nI_add i 1) (by decide) rfl ?_
        refine mn_goto 4 dSl_inState_29 (by decide) ?_
        rw [← cnt_n (P := (fun k => stN (sb k) (ss k) = x)) (k := i) c2]
        exact ih (i + 1) (by omega) (by omega)
      · have c2 := (nI_eq (a := (stN (sb i) (ss i))) (b := x) (by omega) (by omega)).mp c2
        refine mn_iinc (v := nI (cnt (fun k => stN (sb k) (ss k) = x) i + 1)) (ls' := [(0, .ref z), (1, .int (nI x)), (2, .int (nI (cnt (fun k => stN (sb k) (ss k) = x) i + 1))), (3, .int (nI i))]) 2 dSl_inState_23 rfl (nI_add (cnt (fun k => stN (sb k) (ss k) = x) i) 1) (by decide) rfl ?_
        refine mn_iinc (v := nI (i + 1)) (ls' := [(0, .ref z), (1, .int (nI x)), (2, .int (nI (cnt (fun k => stN (sb k) (ss k) = x) i + 1))), (3, .int (nI (i + 1)))]) 3 dSl_inState_26 rfl (nI_add i 1) (by decide) rfl ?_
        refine mn_goto 4 dSl_inState_29 (by decide) ?_
        rw [← cnt_y (P := (fun k => stN (sb k) (ss k) = x)) (k := i) c2]
        exact ih (i + 1) (by omega) (by omega)
set_option maxRecDepth 100000 in
theorem c_Sl_inState {E : mn_En} {g : mn_H} {z : Nat} {pi ss : Nat → Nat} {sb : Nat → Nat → Nat} (hSl : SlP g z pi ss sb) {x : Nat} (hx : x < 10) : mn_R E MSl_inState 4 88 0 0 0 [(0, .ref z), (1, .int (nI x))] [] g (mn_is (some (.int (nI (cnt (fun k => stN (sb k) (ss k) = x) 60)))) g) := by
  refine mn_iconst (v := 0) dSl_inState_0 (by decide) ?_
  refine mn_istore_n (ls' := [(0, .ref z), (1, .int (nI x)), (2, .int 0)]) dSl_inState_1 rfl (by decide) rfl ?_
  refine mn_iconst (v := 0) dSl_inState_2 (by decide) ?_
  refine mn_istore_n (ls' := [(0, .ref z), (1, .int (nI x)), (2, .int 0), (3, .int 0)]) dSl_inState_3 rfl (by decide) rfl ?_
  exact c_Sl_inState_l hSl hx 61 0 (by omega) (by omega)
set_option maxRecDepth 100000 in
theorem c_Sl_fg_l {E : mn_En} {g : mn_H} {z : Nat} {pi ss : Nat → Nat} {sb : Nat → Nat → Nat} (hSl : SlP g z pi ss sb) {x : Nat} (hx : x < 256) : ∀ (f i : Nat), i ≤ 60 → 60 - i < f → mn_R E MSl_firstGood 5 112 0 0 2 [(0, .ref z), (1, .int (nI x)), (2, .int (nI i))] [] g (mn_is (match fst' (fun k => sb k 2 = x ∧ stN (sb k) (ss k) = 1) 60 (60 - i) with | none => some Value.null | some k => some (Value.ref (z + 2 + 2 * pi k))) g) := by
  obtain ⟨hz, hzr, hv, hpi, hpj, hss, hsb⟩ := hSl
  intro f
  induction f with
  | zero => intro i h1 h2; exact absurd h2 (by omega)
  | succ f ih =>
    intro i h1 h2
    refine mn_iload_n 2 dSl_firstGood_2 rfl rfl ?_
    refine mn_bipush (v := 60) dSl_firstGood_3 (by decide) ?_
    refine mn_icmp_ge 34 dSl_firstGood_5 (by decide) (fun c1 => ?_) (fun c1 => ?_)
    · have c1 := (nI_leI (a := 60) (b := i) (by omega) (by omega)).mp c1
      refine mn_null dSl_firstGood_34 ?_
      exact mn_nret rfl (Or.inl ⟨_, rfl⟩) dSl_firstGood_35 ⟨by rw [show 60 - i = 0 by omega]; rfl, rfl⟩
    · have c1 := mt (nI_leI (a := 60) (b := i) (by omega) (by omega)).mpr c1
      have ho := (hv i (by omega)).1
      have hr := (hv i (by omega)).2
      have hssi := hss i
      have hpii := hpi i (by omega)
      refine mn_aload_n 0 dSl_firstGood_8 rfl rfl ?_
      refine mn_get okSl 0 lSl_11 (by decide) hz rfl dSl_firstGood_9 ?_
      refine mn_iload_n 2 dSl_firstGood_12 rfl rfl ?_
      refine mn_aaldN (j := i) hzr rfl rfl (by omega) (by omega) (show sl_q z pi i = some (z + 2 + 2 * pi i) from if_pos (by omega)) dSl_firstGood_13 ?_
      refine mn_iload_n 1 dSl_firstGood_14 rfl rfl ?_
      refine mn_cV (d' := 4) (w' := 91) (As := [.int (nI x)]) (stk' := [.int (gdV (fun j => nI (sb i j)) (ss i) (nI x))]) okVo_isGoodOf lSl_30 dSl_firstGood_15 ho rfl rfl rfl rfl (Nat.le_of_ble_eq_true rfl) (Nat.le_of_ble_eq_true rfl) (by decide) (c_V_isGoodOf ho hr (by omega)) rfl ?_
      refine mn_if_eq 28 dSl_firstGood_18 (by decide) (fun c2 => ?_) (fun c2 => ?_)
      · refine mn_iinc (v := nI (i + 1)) (ls' := [(0, .ref z), (1, .int (nI x)), (2, .int (nI (i + 1)))]) 2 dSl_firstGood_28 rfl (nI_add i 1) (by decide) rfl ?_
        refine mn_goto 2 dSl_firstGood_31 (by decide) ?_
        rw [fst_n (by omega) ((gd_nI (hsb i) (ss i) hx).mp c2)]
        exact ih (i + 1) (by omega) (by omega)
      · refine mn_aload_n 0 dSl_firstGood_21 rfl rfl ?_
        refine mn_get okSl 0 lSl_11 (by decide) hz rfl dSl_firstGood_22 ?_
        refine mn_iload_n 2 dSl_firstGood_25 rfl rfl ?_
        refine mn_aaldN (j := i) hzr rfl rfl (by omega) (by omega) (show sl_q z pi i = some (z + 2 + 2 * pi i) from if_pos (by omega)) dSl_firstGood_26 ?_
        exact mn_aret rfl (Or.inl ⟨_, rfl⟩) dSl_firstGood_27 ⟨by rw [fst_y (by omega) (Classical.byContradiction fun q => c2 ((gd_nI (hsb i) (ss i) hx).mpr q))], rfl⟩
set_option maxRecDepth 100000 in
theorem c_Sl_firstGood {E : mn_En} {g : mn_H} {z : Nat} {pi ss : Nat → Nat} {sb : Nat → Nat → Nat} (hSl : SlP g z pi ss sb) {x : Nat} (hx : x < 256) : mn_R E MSl_firstGood 5 112 0 0 0 [(0, .ref z), (1, .int (nI x))] [] g (mn_is (match fst' (fun k => sb k 2 = x ∧ stN (sb k) (ss k) = 1) 60 60 with | none => some Value.null | some k => some (Value.ref (z + 2 + 2 * pi k))) g) := by
  refine mn_iconst (v := 0) dSl_firstGood_0 (by decide) ?_
  refine mn_istore_n (ls' := [(0, .ref z), (1, .int (nI x)), (2, .int 0)]) dSl_firstGood_1 rfl (by decide) rfl ?_
  exact c_Sl_fg_l hSl hx 61 0 (by omega) (by omega)
set_option maxRecDepth 100000 in
theorem c_Sl_hold_l {E : mn_En} {g : mn_H} {z : Nat} {pi ss : Nat → Nat} {sb : Nat → Nat → Nat} (hSl : SlP g z pi ss sb) {v t : Nat} {c : Nat → Nat} (hv0 : mn_at g v (.inr (8, [.ref (v + 1), .int (nI t)]))) (hv1 : mn_at g (v + 1) (.inl (0, 80, .inl (fun j => nI (c j))))) (ht : t ≤ 80) (hc : ∀ j, c j < 256) : ∀ (f i : Nat), i ≤ 60 → 60 - i < f → (∀ k, k < i → ¬ smN (ss k) t (sb k) c) → mn_R E MSl_hold 2 43 0 0 2 [(0, .ref z), (1, .ref v), (2, .int (nI i))] [] g (mn_is (some (.int (@ite _ (∃ k, k < 60 ∧ smN (ss k) t (sb k) c) (Classical.propDecidable _) 1 0))) g) := by
  obtain ⟨hz, hzr, hv, hpi, hpj, hss, hsb⟩ := hSl
  intro f
  induction f with
  | zero => intro i h1 h2; exact absurd h2 (by omega)
  | succ f ih =>
    intro i h1 h2 h3
    refine mn_iload_n 2 dSl_hold_2 rfl rfl ?_
    refine mn_bipush (v := 60) dSl_hold_3 (by decide) ?_
    refine mn_icmp_ge 29 dSl_hold_5 (by decide) (fun c1 => ?_) (fun c1 => ?_)
    · have c1 := (nI_leI (a := 60) (b := i) (by omega) (by omega)).mp c1
      refine mn_iconst (v := 0) dSl_hold_29 (by decide) ?_
      exact mn_zret rfl rfl dSl_hold_30 ⟨by rw [if_neg (fun q => by obtain ⟨k, k1, k2⟩ := q; exact h3 k (by omega) k2)], rfl⟩
    · have c1 := mt (nI_leI (a := 60) (b := i) (by omega) (by omega)).mpr c1
      have ho := (hv i (by omega)).1
      have hr := (hv i (by omega)).2
      have hssi := hss i
      have hpii := hpi i (by omega)
      refine mn_aload_n 0 dSl_hold_8 rfl rfl ?_
      refine mn_get okSl 0 lSl_11 (by decide) hz rfl dSl_hold_9 ?_
      refine mn_iload_n 2 dSl_hold_12 rfl rfl ?_
      refine mn_aaldN (j := i) hzr rfl rfl (by omega) (by omega) (show sl_q z pi i = some (z + 2 + 2 * pi i) from if_pos (by omega)) dSl_hold_13 ?_
      refine mn_aload_n 1 dSl_hold_14 rfl rfl ?_
      refine mn_cV (d' := 1) (w' := 21) (As := [.ref v]) (stk' := [.int (sameB (ss i) t (fun j => nI (sb i j)) (fun j => nI (c j)))]) okVo_hasJustTheBytesOf lSl_34 dSl_hold_15 ho rfl rfl rfl rfl (Nat.le_of_ble_eq_true rfl) (Nat.le_of_ble_eq_true rfl) (by decide) (c_V_same ho hr hv0 hv1 (by omega) ht) rfl ?_
      refine mn_if_eq 23 dSl_hold_18 (by decide) (fun c2 => ?_) (fun c2 => ?_)
      · refine mn_iinc (v := nI (i + 1)) (ls' := [(0, .ref z), (1, .ref v), (2, .int (nI (i + 1)))]) 2 dSl_hold_23 rfl (nI_add i 1) (by decide) rfl ?_
        refine mn_goto 2 dSl_hold_26 (by decide) ?_
        exact ih (i + 1) (by omega) (by omega) (fun k hk => by rcases Nat.lt_or_ge k i with h | h; exact h3 k h; rw [show k = i by omega]; exact (same_nI (hsb i) hc).mp c2)
      · refine mn_iconst (v := 1) dSl_hold_21 (by decide) ?_
        exact mn_zret rfl rfl dSl_hold_22 ⟨by rw [if_pos ⟨i, by omega, Classical.byContradiction fun q => c2 ((same_nI (hsb i) hc).mpr q)⟩], rfl⟩
set_option maxRecDepth 100000 in
theorem c_Sl_hold {E : mn_En} {g : mn_H} {z : Nat} {pi ss : Nat → Nat} {sb : Nat → Nat → Nat} (hSl : SlP g z pi ss sb) {v t : Nat} {c : Nat → Nat} (hv0 : mn_at g v (.inr (8, [.ref (v + 1), .int (nI t)]))) (hv1 : mn_at g (v + 1) (.inl (0, 80, .inl (fun j => nI (c j))))) (ht : t ≤ 80) (hc : ∀ j, c j < 256) : mn_R E MSl_hold 2 43 0 0 0 [(0, .ref z), (1, .ref v)] [] g (mn_is (some (.int (@ite _ (∃ k, k < 60 ∧ smN (ss k) t (sb k) c) (Classical.propDecidable _) 1 0))) g) := by
  refine mn_iconst (v := 0) dSl_hold_0 (by decide) ?_
  refine mn_istore_n (ls' := [(0, .ref z), (1, .ref v), (2, .int 0)]) dSl_hold_1 rfl (by decide) rfl ?_
  exact c_Sl_hold_l hSl hv0 hv1 ht hc 61 0 (by omega) (by omega) (fun k hk => absurd hk (by omega))
set_option maxRecDepth 100000 in
theorem c_Sl_exchange {E : mn_En} {g : mn_H} {z : Nat} {pi ss : Nat → Nat} {sb : Nat → Nat → Nat} (hSl : SlP g z pi ss sb) {a b : Nat} (hha : a < 60) (hhb : b < 60) : mn_R E MSl_exchange 1 21 0 0 0 [(0, .ref z), (1, .int (nI a)), (2, .int (nI b))] [] g (fun v g' => v = none ∧ mn_fr (fun q => q = z + 1) g g' ∧ SlP g' z (swp pi a b) (swp ss a b) (swp sb a b)) := by
  have hSl0 := hSl
  obtain ⟨hz, hzr, hv, hpi, hpj, hss, hsb⟩ := hSl
  refine mn_aload_n 0 dSl_exchange_0 rfl rfl ?_
  refine mn_iload_n 1 dSl_exchange_1 rfl rfl ?_
  refine mn_cV (d' := 0) (w' := 0) (As := [.int (nI a)]) (stk' := [.ref (z + 2 + 2 * pi a)]) okSl_at lSl_18 dSl_exchange_2 hz rfl rfl rfl rfl (Nat.le_of_ble_eq_true rfl) (Nat.le_of_ble_eq_true rfl) (by decide) (c_Sl_at hSl0 (i := a) (by omega)) rfl ?_
  refine mn_astore_n (ls' := [(0, .ref z), (1, .int (nI a)), (2, .int (nI b)), (3, .ref (z + 2 + 2 * pi a))]) dSl_exchange_5 rfl (by decide) rfl ?_
  refine mn_aload_n 0 dSl_exchange_6 rfl rfl ?_
  refine mn_iload_n 2 dSl_exchange_7 rfl rfl ?_
  refine mn_cV (d' := 0) (w' := 0) (As := [.int (nI b)]) (stk' := [.ref (z + 2 + 2 * pi b)]) okSl_at lSl_18 dSl_exchange_8 hz rfl rfl rfl rfl (Nat.le_of_ble_eq_true rfl) (Nat.le_of_ble_eq_true rfl) (by decide) (c_Sl_at hSl0 (i := b) (by omega)) rfl ?_
  refine mn_astore (ls' := [(0, .ref z), (1, .int (nI a)), (2, .int (nI b)), (3, .ref (z + 2 + 2 * pi a)), (4, .ref (z + 2 + 2 * pi b))]) dSl_exchange_11 (by decide) rfl ?_
  have hoA := (hv a (by omega)).1
  have hrA := (hv a (by omega)).2
  have hssAi := hss a
  have hpiAi := hpi a (by omega)
  have hoB := (hv b (by omega)).1
  have hrB := (hv b (by omega)).2
  have hssBi := hss b
  have hpiBi := hpi b (by omega)
  refine mn_aload_n 3 dSl_exchange_13 rfl rfl ?_
  refine mn_ifnull dSl_exchange_14 ?_
  refine mn_aload 4 dSl_exchange_17 rfl ?_
  refine mn_ifnull dSl_exchange_19 ?_
  refine mn_aload_n 0 dSl_exchange_22 rfl rfl ?_
  refine mn_get okSl 0 lSl_11 (by decide) hz rfl dSl_exchange_23 ?_
  refine mn_iload_n 1 dSl_exchange_26 rfl rfl ?_
  refine mn_aload 4 dSl_exchange_27 rfl ?_
  refine mn_aastN (j := a) (ci := 8) hzr rfl rfl hoB (by omega) (by omega) dSl_exchange_29 ?_
  obtain ⟨g1, eg1⟩ : ∃ gg_, gg_ = mn_set g (z + 1) (.inl (1, 60, .inr (.inr (.inr (.inr (va_up (sl_q z pi) a (some (z + 2 + 2 * pi b)))))))) := ⟨_, rfl⟩
  refine mn_R.toG eg1 ?_
  have hz_g1 : mn_at g1 z (.inr (5, [.ref (z + 1)])) := by rw [eg1]; exact hz.off (by omega)
  have hzr_g1 : mn_at g1 (z + 1) (.inl (1, 60, .inr (.inr (.inr (.inr (va_up (sl_q z pi) a (some (z + 2 + 2 * pi b)))))))) := by rw [eg1]; exact hzr.same
  have hoA_g1 : mn_at g1 (z + 2 + 2 * pi a) (.inr (8, [.ref (z + 2 + 2 * pi a + 1), .int (nI (ss a))])) := by rw [eg1]; exact hoA.off (by omega)
  have hrA_g1 : mn_at g1 (z + 2 + 2 * pi a + 1) (.inl (0, 80, .inl (fun j => nI (sb a j)))) := by rw [eg1]; exact hrA.off (by omega)
  have hoB_g1 : mn_at g1 (z + 2 + 2 * pi b) (.inr (8, [.ref (z + 2 + 2 * pi b + 1), .int (nI (ss b))])) := by rw [eg1]; exact hoB.off (by omega)
  have hrB_g1 : mn_at g1 (z + 2 + 2 * pi b + 1) (.inl (0, 80, .inl (fun j => nI (sb b j)))) := by rw [eg1]; exact hrB.off (by omega)
  refine mn_aload_n 0 dSl_exchange_30 rfl rfl ?_
  refine mn_get okSl 0 lSl_11 (by decide) hz_g1 rfl dSl_exchange_31 ?_
  refine mn_iload_n 2 dSl_exchange_34 rfl rfl ?_
  refine mn_aload_n 3 dSl_exchange_35 rfl rfl ?_
  refine mn_aastN (j := b) (ci := 8) hzr_g1 rfl rfl hoA_g1 (by omega) (by omega) dSl_exchange_36 ?_
  obtain ⟨g2, eg2⟩ : ∃ gg_, gg_ = mn_set g1 (z + 1) (.inl (1, 60, .inr (.inr (.inr (.inr (va_up (va_up (sl_q z pi) a (some (z + 2 + 2 * pi b))) b (some (z + 2 + 2 * pi a)))))))) := ⟨_, rfl⟩
  refine mn_R.toG eg2 ?_
  have hz_g2 : mn_at g2 z (.inr (5, [.ref (z + 1)])) := by rw [eg2]; exact hz_g1.off (by omega)
  have hzr_g2 : mn_at g2 (z + 1) (.inl (1, 60, .inr (.inr (.inr (.inr (va_up (va_up (sl_q z pi) a (some (z + 2 + 2 * pi b))) b (some (z + 2 + 2 * pi a)))))))) := by rw [eg2]; exact hzr_g1.same
  have hoA_g2 : mn_at g2 (z + 2 + 2 * pi a) (.inr (8, [.ref (z + 2 + 2 * pi a + 1), .int (nI (ss a))])) := by rw [eg2]; exact hoA_g1.off (by omega)
  have hrA_g2 : mn_at g2 (z + 2 + 2 * pi a + 1) (.inl (0, 80, .inl (fun j => nI (sb a j)))) := by rw [eg2]; exact hrA_g1.off (by omega)
  have hoB_g2 : mn_at g2 (z + 2 + 2 * pi b) (.inr (8, [.ref (z + 2 + 2 * pi b + 1), .int (nI (ss b))])) := by rw [eg2]; exact hoB_g1.off (by omega)
  have hrB_g2 : mn_at g2 (z + 2 + 2 * pi b + 1) (.inl (0, 80, .inl (fun j => nI (sb b j)))) := by rw [eg2]; exact hrB_g1.off (by omega)
  exact mn_vret rfl dSl_exchange_37 ⟨rfl, ((mn_fr.rf.set eg1 (by show (z + 1) = z + 1; omega)).set eg2 (by show (z + 1) = z + 1; omega)), SlP_swp hSl0 hha hhb ((mn_fr.rf.set eg1 (by show (z + 1) = z + 1; omega)).set eg2 (by show (z + 1) = z + 1; omega)) hzr_g2⟩
set_option maxRecDepth 100000 in
theorem c_Sl_put_l {E : mn_En} {g : mn_H} {z : Nat} {pi ss : Nat → Nat} {sb : Nat → Nat → Nat} (hSl : SlP g z pi ss sb) {v t : Nat} {c : Nat → Nat} (hv0 : mn_at g v (.inr (8, [.ref (v + 1), .int (nI t)]))) (hv1 : mn_at g (v + 1) (.inl (0, 80, .inl (fun j => nI (c j))))) (ht : t ≤ 80) (hc : ∀ j, c j < 256) (hvz : v + 1 < z ∨ z + 121 < v) {k : Nat} (hk : k < 60) (hk0 : ss k = 0) (hkm : ∀ i, i < k → ss i ≠ 0) : ∀ (f i : Nat), i ≤ k → k - i < f → mn_R E MSl_putIntoLeastEmpty 2 47 0 0 2 [(0, .ref z), (1, .ref v), (2, .int (nI i))] [] g (fun x g' => x = none ∧ mn_fr (fun q => q = z + 2 + 2 * pi k ∨ q = z + 2 + 2 * pi k + 1) g g' ∧ SlP g' z pi (va_up ss k t) (va_up sb k (cpN c (sb k)))) := by
  have hSl0 := hSl
  obtain ⟨hz, hzr, hv, hpi, hpj, hss, hsb⟩ := hSl
  intro f
  induction f with
  | zero => intro i h1 h2; exact absurd h2 (by omega)
  | succ f ih =>
    intro i h1 h2
    refine mn_iload_n 2 dSl_putIntoLeastEmpty_2 rfl rfl ?_
    refine mn_bipush (v := 60) dSl_putIntoLeastEmpty_3 (by decide) ?_
    refine mn_icmp_ge 37 dSl_putIntoLeastEmpty_5 (by decide) (fun c1 => ?_) (fun c1 => ?_)
    · have c1 := (nI_leI (a := 60) (b := i) (by omega) (by omega)).mp c1
      exact mn_vret rfl dSl_putIntoLeastEmpty_37 (absurd hk (by omega))
    · have c1 := mt (nI_leI (a := 60) (b := i) (by omega) (by omega)).mpr c1
      have ho := (hv i (by omega)).1
      have hr := (hv i (by omega)).2
      have hssi := hss i
      have hpii := hpi i (by omega)
      refine mn_aload_n 0 dSl_putIntoLeastEmpty_8 rfl rfl ?_
      refine mn_get okSl 0 lSl_11 (by decide) hz rfl dSl_putIntoLeastEmpty_9 ?_
      refine mn_iload_n 2 dSl_putIntoLeastEmpty_12 rfl rfl ?_
      refine mn_aaldN (j := i) hzr rfl rfl (by omega) (by omega) (show sl_q z pi i = some (z + 2 + 2 * pi i) from if_pos (by omega)) dSl_putIntoLeastEmpty_13 ?_
      refine mn_get okVo 1 lSl_22 (by decide) ho rfl dSl_putIntoLeastEmpty_14 ?_
      refine mn_if_ne 31 dSl_putIntoLeastEmpty_17 (by decide) (fun c2 => ?_) (fun c2 => ?_)
      · have c2 := mt (nI_eq (a := (ss i)) (b := 0) (by omega) (by omega)).mpr c2
        refine mn_iinc (v := nI (i + 1)) (ls' := [(0, .ref z), (1, .ref v), (2, .int (nI (i + 1)))]) 2 dSl_putIntoLeastEmpty_31 rfl (nI_add i 1) (by decide) rfl ?_
        refine mn_goto 2 dSl_putIntoLeastEmpty_34 (by decide) ?_
        have hik : i < k := by rcases Nat.lt_or_ge i k with h | h; exact h; exact absurd hk0 (by rw [show k = i by omega]; exact c2)
        exact ih (i + 1) (by omega) (by omega)
      · have c2 := (nI_eq (a := (ss i)) (b := 0) (by omega) (by omega)).mp c2
        refine mn_aload_n 0 dSl_putIntoLeastEmpty_20 rfl rfl ?_
        refine mn_get okSl 0 lSl_11 (by decide) hz rfl dSl_putIntoLeastEmpty_21 ?_
        refine mn_iload_n 2 dSl_putIntoLeastEmpty_24 rfl rfl ?_
        refine mn_aaldN (j := i) hzr rfl rfl (by omega) (by omega) (show sl_q z pi i = some (z + 2 + 2 * pi i) from if_pos (by omega)) dSl_putIntoLeastEmpty_25 ?_
        refine mn_aload_n 1 dSl_putIntoLeastEmpty_26 rfl rfl ?_
        refine mn_cV (d' := 1) (w' := 26) (As := [.ref v]) (stk' := []) okVo_become lSl_38 dSl_putIntoLeastEmpty_27 ho rfl rfl rfl rfl (Nat.le_of_ble_eq_true rfl) (Nat.le_of_ble_eq_true rfl) (by decide) (c_V_become ho hr hv0 hv1 (by omega) (by omega)) rfl ?_
        obtain ⟨g3, eg3⟩ : ∃ gg_, gg_ = mn_set g (z + 2 + 2 * pi i + 1) (.inl (0, 80, .inl (va_cpy (fun j => nI (c j)) (fun j => nI (sb i j)) 0 0 80))) := ⟨_, rfl⟩
        have hz_g3 : mn_at g3 z (.inr (5, [.ref (z + 1)])) := by rw [eg3]; exact hz.off (by omega)
        have hzr_g3 : mn_at g3 (z + 1) (.inl (1, 60, .inr (.inr (.inr (.inr (sl_q z pi)))))) := by rw [eg3]; exact hzr.off (by omega)
        have hv0_g3 : mn_at g3 v (.inr (8, [.ref (v + 1), .int (nI t)])) := by rw [eg3]; exact hv0.off (by omega)
        have hv1_g3 : mn_at g3 (v + 1) (.inl (0, 80, .inl (fun j => nI (c j)))) := by rw [eg3]; exact hv1.off (by omega)
        have ho_g3 : mn_at g3 (z + 2 + 2 * pi i) (.inr (8, [.ref (z + 2 + 2 * pi i + 1), .int (nI (ss i))])) := by rw [eg3]; exact ho.off (by omega)
        have hr_g3 : mn_at g3 (z + 2 + 2 * pi i + 1) (.inl (0, 80, .inl (va_cpy (fun j => nI (c j)) (fun j => nI (sb i j)) 0 0 80))) := by rw [eg3]; exact hr.same
        obtain ⟨g4, eg4⟩ : ∃ gg_, gg_ = mn_set g3 (z + 2 + 2 * pi i) (.inr (8, [.ref (z + 2 + 2 * pi i + 1), .int (nI t)])) := ⟨_, rfl⟩
        refine mn_R.toG (eg4.trans (by rw [eg3])) ?_
        have hz_g4 : mn_at g4 z (.inr (5, [.ref (z + 1)])) := by rw [eg4]; exact hz_g3.off (by omega)
        have hzr_g4 : mn_at g4 (z + 1) (.inl (1, 60, .inr (.inr (.inr (.inr (sl_q z pi)))))) := by rw [eg4]; exact hzr_g3.off (by omega)
        have hv0_g4 : mn_at g4 v (.inr (8, [.ref (v + 1), .int (nI t)])) := by rw [eg4]; exact hv0_g3.off (by omega)
        have hv1_g4 : mn_at g4 (v + 1) (.inl (0, 80, .inl (fun j => nI (c j)))) := by rw [eg4]; exact hv1_g3.off (by omega)
        have ho_g4 : mn_at g4 (z + 2 + 2 * pi i) (.inr (8, [.ref (z + 2 + 2 * pi i + 1), .int (nI t)])) := by rw [eg4]; exact ho_g3.same
        have hr_g4 : mn_at g4 (z + 2 + 2 * pi i + 1) (.inl (0, 80, .inl (va_cpy (fun j => nI (c j)) (fun j => nI (sb i j)) 0 0 80))) := by rw [eg4]; exact hr_g3.off (by omega)
        rw [cpy_nI] at hr_g4
        exact mn_vret rfl dSl_putIntoLeastEmpty_30 (by obtain rfl : i = k := (Classical.byContradiction fun q => hkm i (by omega) c2); exact ⟨rfl, ((mn_fr.rf.set eg3 (by show (z + 2 + 2 * pi i + 1) = z + 2 + 2 * pi i ∨ (z + 2 + 2 * pi i + 1) = z + 2 + 2 * pi i + 1; omega)).set eg4 (by show (z + 2 + 2 * pi i) = z + 2 + 2 * pi i ∨ (z + 2 + 2 * pi i) = z + 2 + 2 * pi i + 1; omega)), SlP_put hSl0 hk ht (cpN_lt hc (hsb i)) ((mn_fr.rf.set eg3 (by show (z + 2 + 2 * pi i + 1) = z + 2 + 2 * pi i ∨ (z + 2 + 2 * pi i + 1) = z + 2 + 2 * pi i + 1; omega)).set eg4 (by show (z + 2 + 2 * pi i) = z + 2 + 2 * pi i ∨ (z + 2 + 2 * pi i) = z + 2 + 2 * pi i + 1; omega)) ho_g4 hr_g4⟩)
set_option maxRecDepth 100000 in
theorem c_Sl_put {E : mn_En} {g : mn_H} {z : Nat} {pi ss : Nat → Nat} {sb : Nat → Nat → Nat} (hSl : SlP g z pi ss sb) {v t : Nat} {c : Nat → Nat} (hv0 : mn_at g v (.inr (8, [.ref (v + 1), .int (nI t)]))) (hv1 : mn_at g (v + 1) (.inl (0, 80, .inl (fun j => nI (c j))))) (ht : t ≤ 80) (hc : ∀ j, c j < 256) (hvz : v + 1 < z ∨ z + 121 < v) {k : Nat} (hk : k < 60) (hk0 : ss k = 0) (hkm : ∀ i, i < k → ss i ≠ 0) : mn_R E MSl_putIntoLeastEmpty 2 47 0 0 0 [(0, .ref z), (1, .ref v)] [] g (fun x g' => x = none ∧ mn_fr (fun q => q = z + 2 + 2 * pi k ∨ q = z + 2 + 2 * pi k + 1) g g' ∧ SlP g' z pi (va_up ss k t) (va_up sb k (cpN c (sb k)))) := by
  refine mn_iconst (v := 0) dSl_putIntoLeastEmpty_0 (by decide) ?_
  refine mn_istore_n (ls' := [(0, .ref z), (1, .ref v), (2, .int 0)]) dSl_putIntoLeastEmpty_1 rfl (by decide) rfl ?_
  exact c_Sl_put_l hSl hv0 hv1 ht hc hvz hk hk0 hkm (k + 1) 0 (by omega) (by omega)
