theorem va_up_id {α : Type} (f : Nat → α) (k : Nat) : va_up f k (f k) = f := by
  funext j
  by_cases h : j = k
  · rw [h, va_up_s]
  · rw [va_up_n _ _ h]
theorem va_up_twice {α : Type} (f : Nat → α) (k : Nat) (x y : α) : va_up (va_up f k x) k y = va_up f k y := by
  funext j
  by_cases h : j = k
  · rw [h, va_up_s, va_up_s]
  · rw [va_up_n _ _ h, va_up_n _ _ h, va_up_n _ _ h]
set_option maxRecDepth 100000 in
theorem c_VS_lose_bad {E : mn_En} {g : mn_H} {vs t s u y z rd op : Nat} (hL : Lay vs t s u y z rd op) (hV : mn_at g vs (.inr (10, [.ref t, .ref s, .ref u, .ref y, .ref z, .ref rd, .ref op]))) {pi ss : Nat → Nat} {sb : Nat → Nat → Nat} (hSl : SlP g z pi ss sb) {x : Int32} (hx : x < 0 ∨ 60 ≤ x) : mn_R E MVS_lose 1 21 0 0 0 [(0, .ref vs), (1, .int x)] [] g (mn_is (some (.int (-1))) g) := by
  obtain ⟨l1, l2, l3, l4, l5, l6, l7⟩ := hL
  have hSl0 := hSl
  obtain ⟨hz, hzr, hv, hpi, hpj, hss, hsb⟩ := id hSl
  refine mn_aload_n 0 dVS_lose_0 rfl rfl ?_
  refine mn_get okVS 4 lVS_40 (by decide) hV rfl dVS_lose_1 ?_
  refine mn_iload_n 1 dVS_lose_4 rfl rfl ?_
  refine mn_cV (d' := 0) (w' := 0) (As := [.int x]) (stk' := [.null]) okSl_at lVS_133 dVS_lose_5 hz rfl rfl rfl rfl (Nat.le_of_ble_eq_true rfl) (Nat.le_of_ble_eq_true rfl) (by decide) (c_Sl_at_bad hSl0 hx) rfl ?_
  refine mn_astore_nN (ls' := [(0, .ref vs), (1, .int x), (2, .null)]) dVS_lose_8 rfl (by decide) rfl ?_
  refine mn_aload_nN 2 dVS_lose_9 rfl rfl ?_
  refine mn_ifnullN 20 dVS_lose_10 (by decide) ?_
  refine mn_iconst (v := -1) dVS_lose_20 (by decide) ?_
  exact mn_iret rfl dVS_lose_21 ⟨rfl, rfl⟩
set_option maxRecDepth 100000 in
theorem c_VS_lose_empty {E : mn_En} {g : mn_H} {vs t s u y z rd op : Nat} (hL : Lay vs t s u y z rd op) (hV : mn_at g vs (.inr (10, [.ref t, .ref s, .ref u, .ref y, .ref z, .ref rd, .ref op]))) {pi ss : Nat → Nat} {sb : Nat → Nat → Nat} (hSl : SlP g z pi ss sb) {k : Nat} (hk : k < 60) (h0 : ss k = 0) : mn_R E MVS_lose 1 21 0 0 0 [(0, .ref vs), (1, .int (nI k))] [] g (mn_is (some (.int (-1))) g) := by
  obtain ⟨l1, l2, l3, l4, l5, l6, l7⟩ := hL
  have hSl0 := hSl
  obtain ⟨hz, hzr, hv, hpi, hpj, hss, hsb⟩ := id hSl
  refine mn_aload_n 0 dVS_lose_0 rfl rfl ?_
  refine mn_get okVS 4 lVS_40 (by decide) hV rfl dVS_lose_1 ?_
  refine mn_iload_n 1 dVS_lose_4 rfl rfl ?_
  refine mn_cV (d' := 0) (w' := 0) (As := [.int (nI k)]) (stk' := [.ref (z + 2 + 2 * pi k)]) okSl_at lVS_133 dVS_lose_5 hz rfl rfl rfl rfl (Nat.le_of_ble_eq_true rfl) (Nat.le_of_ble_eq_true rfl) (by decide) (c_Sl_at hSl0 (i := k) (by omega)) rfl ?_
  have hoK := (hv k (by omega)).1
  have hrK := (hv k (by omega)).2
  have hssKi := hss k
  have hpiKi := hpi k (by omega)
  refine mn_astore_n (ls' := [(0, .ref vs), (1, .int (nI k)), (2, .ref (z + 2 + 2 * pi k))]) dVS_lose_8 rfl (by decide) rfl ?_
  refine mn_aload_n 2 dVS_lose_9 rfl rfl ?_
  refine mn_ifnull dVS_lose_10 ?_
  refine mn_aload_n 2 dVS_lose_13 rfl rfl ?_
  refine mn_get okVo 1 lVS_137 (by decide) hoK rfl dVS_lose_14 ?_
  refine mn_if_ne 22 dVS_lose_17 (by decide) (fun c1 => ?_) (fun c1 => ?_)
  · have c1 := mt (nI_eq (a := (ss k)) (b := 0) (by omega) (by omega)).mpr c1
    exact absurd h0 c1
  · have c1 := (nI_eq (a := (ss k)) (b := 0) (by omega) (by omega)).mp c1
    refine mn_iconst (v := -1) dVS_lose_20 (by decide) ?_
    exact mn_iret rfl dVS_lose_21 ⟨rfl, rfl⟩
set_option maxRecDepth 100000 in
theorem c_VS_lose {E : mn_En} {g : mn_H} {vs t s u y z rd op : Nat} (hL : Lay vs t s u y z rd op) (hV : mn_at g vs (.inr (10, [.ref t, .ref s, .ref u, .ref y, .ref z, .ref rd, .ref op]))) {pi ss : Nat → Nat} {sb : Nat → Nat → Nat} (hSl : SlP g z pi ss sb) {k : Nat} (hk : k < 60) (h0 : ¬ ss k = 0) : mn_R E MVS_lose 1 21 0 0 0 [(0, .ref vs), (1, .int (nI k))] [] g (fun x g' => x = some (.int (nI (ss k))) ∧ mn_fr (fun q => z + 2 ≤ q ∧ q < z + 122) g g' ∧ SlP g' z pi (va_up ss k 0) sb) := by
  obtain ⟨l1, l2, l3, l4, l5, l6, l7⟩ := hL
  have hSl0 := hSl
  obtain ⟨hz, hzr, hv, hpi, hpj, hss, hsb⟩ := id hSl
  refine mn_aload_n 0 dVS_lose_0 rfl rfl ?_
  refine mn_get okVS 4 lVS_40 (by decide) hV rfl dVS_lose_1 ?_
  refine mn_iload_n 1 dVS_lose_4 rfl rfl ?_
  refine mn_cV (d' := 0) (w' := 0) (As := [.int (nI k)]) (stk' := [.ref (z + 2 + 2 * pi k)]) okSl_at lVS_133 dVS_lose_5 hz rfl rfl rfl rfl (Nat.le_of_ble_eq_true rfl) (Nat.le_of_ble_eq_true rfl) (by decide) (c_Sl_at hSl0 (i := k) (by omega)) rfl ?_
  have hoK := (hv k (by omega)).1
  have hrK := (hv k (by omega)).2
  have hssKi := hss k
  have hpiKi := hpi k (by omega)
  refine mn_astore_n (ls' := [(0, .ref vs), (1, .int (nI k)), (2, .ref (z + 2 + 2 * pi k))]) dVS_lose_8 rfl (by decide) rfl ?_
  refine mn_aload_n 2 dVS_lose_9 rfl rfl ?_
  refine mn_ifnull dVS_lose_10 ?_
  refine mn_aload_n 2 dVS_lose_13 rfl rfl ?_
  refine mn_get okVo 1 lVS_137 (by decide) hoK rfl dVS_lose_14 ?_
  refine mn_if_ne 22 dVS_lose_17 (by decide) (fun c1 => ?_) (fun c1 => ?_)
  · have c1 := mt (nI_eq (a := (ss k)) (b := 0) (by omega) (by omega)).mpr c1
    refine mn_aload_n 2 dVS_lose_22 rfl rfl ?_
    refine mn_get okVo 1 lVS_137 (by decide) hoK rfl dVS_lose_23 ?_
    refine mn_istore_n (ls' := [(0, .ref vs), (1, .int (nI k)), (2, .ref (z + 2 + 2 * pi k)), (3, .int (nI (ss k)))]) dVS_lose_26 rfl (by decide) rfl ?_
    refine mn_aload_n 2 dVS_lose_27 rfl rfl ?_
    refine mn_iconst (v := 0) dVS_lose_28 (by decide) ?_
    refine mn_putf okVo 1 lVS_137 (by decide) rfl hoK rfl rfl (Nat.le_of_ble_eq_true rfl) dVS_lose_29 ?_
    obtain ⟨g2, eg2⟩ : ∃ gg_, gg_ = mn_set g (z + 2 + 2 * pi k) (.inr (8, [.ref (z + 2 + 2 * pi k + 1), .int 0])) := ⟨_, rfl⟩
    refine mn_R.toG eg2 ?_
    have hV_g2 : mn_at g2 vs (.inr (10, [.ref t, .ref s, .ref u, .ref y, .ref z, .ref rd, .ref op])) := by rw [eg2]; exact hV.off (by omega)
    have hz_g2 : mn_at g2 z (.inr (5, [.ref (z + 1)])) := by rw [eg2]; exact hz.off (by omega)
    have hoK_g2 : mn_at g2 (z + 2 + 2 * pi k) (.inr (8, [.ref (z + 2 + 2 * pi k + 1), .int 0])) := by rw [eg2]; exact hoK.same
    have hrK_g2 : mn_at g2 (z + 2 + 2 * pi k + 1) (.inl (0, 80, .inl (fun j => nI (sb k j)))) := by rw [eg2]; exact hrK.off (by omega)
    refine mn_iload_n 3 dVS_lose_32 rfl rfl ?_
    exact mn_iret rfl dVS_lose_33 ⟨rfl, (mn_fr.rf.set eg2 (by show z + 2 ≤ (z + 2 + 2 * pi k) ∧ (z + 2 + 2 * pi k) < z + 122; omega)), by have h9 := SlP_put (t := 0) hSl0 hk (by omega) (hsb k) (mn_fr.rf.set eg2 (by show (z + 2 + 2 * pi k) = z + 2 + 2 * pi k ∨ (z + 2 + 2 * pi k) = z + 2 + 2 * pi k + 1; omega)) hoK_g2 hrK_g2; rw [show va_up sb k (fun j => sb k j) = sb from va_up_id sb k] at h9; exact h9⟩
  · have c1 := (nI_eq (a := (ss k)) (b := 0) (by omega) (by omega)).mp c1
    refine mn_iconst (v := -1) dVS_lose_20 (by decide) ?_
    exact mn_iret rfl dVS_lose_21 (absurd c1 h0)
set_option maxRecDepth 100000 in
theorem c_VS_poke_bad {E : mn_En} {g : mn_H} {vs t s u y z rd op : Nat} (hL : Lay vs t s u y z rd op) (hV : mn_at g vs (.inr (10, [.ref t, .ref s, .ref u, .ref y, .ref z, .ref rd, .ref op]))) {pi ss : Nat → Nat} {sb : Nat → Nat → Nat} (hSl : SlP g z pi ss sb) {x x2 x3 : Int32} (hx : x < 0 ∨ 60 ≤ x) : mn_R E MVS_poke 1 22 0 0 0 [(0, .ref vs), (1, .int x), (2, .int x2), (3, .int x3)] [] g (mn_is (some (.int (-1))) g) := by
  obtain ⟨l1, l2, l3, l4, l5, l6, l7⟩ := hL
  have hSl0 := hSl
  obtain ⟨hz, hzr, hv, hpi, hpj, hss, hsb⟩ := id hSl
  refine mn_aload_n 0 dVS_poke_0 rfl rfl ?_
  refine mn_get okVS 4 lVS_40 (by decide) hV rfl dVS_poke_1 ?_
  refine mn_iload_n 1 dVS_poke_4 rfl rfl ?_
  refine mn_cV (d' := 0) (w' := 0) (As := [.int x]) (stk' := [.null]) okSl_at lVS_133 dVS_poke_5 hz rfl rfl rfl rfl (Nat.le_of_ble_eq_true rfl) (Nat.le_of_ble_eq_true rfl) (by decide) (c_Sl_at_bad hSl0 hx) rfl ?_
  refine mn_astoreN (ls' := [(0, .ref vs), (1, .int x), (2, .int x2), (3, .int x3), (4, .null)]) dVS_poke_8 (by decide) rfl ?_
  refine mn_aloadN 4 dVS_poke_10 rfl ?_
  refine mn_ifnullN 40 dVS_poke_12 (by decide) ?_
  refine mn_iconst (v := -1) dVS_poke_40 (by decide) ?_
  exact mn_iret rfl dVS_poke_41 ⟨rfl, rfl⟩
set_option maxRecDepth 100000 in
theorem c_VS_poke_args {E : mn_En} {g : mn_H} {vs t s u y z rd op : Nat} (hL : Lay vs t s u y z rd op) (hV : mn_at g vs (.inr (10, [.ref t, .ref s, .ref u, .ref y, .ref z, .ref rd, .ref op]))) {pi ss : Nat → Nat} {sb : Nat → Nat → Nat} (hSl : SlP g z pi ss sb) {k : Nat} (hk : k < 60) {x2 x3 : Int32} (hx : x2 < 0 ∨ nI (ss k) ≤ x2 ∨ x3 < 1 ∨ 255 < x3) : mn_R E MVS_poke 1 22 0 0 0 [(0, .ref vs), (1, .int (nI k)), (2, .int x2), (3, .int x3)] [] g (mn_is (some (.int (-1))) g) := by
  obtain ⟨l1, l2, l3, l4, l5, l6, l7⟩ := hL
  have hSl0 := hSl
  obtain ⟨hz, hzr, hv, hpi, hpj, hss, hsb⟩ := id hSl
  refine mn_aload_n 0 dVS_poke_0 rfl rfl ?_
  refine mn_get okVS 4 lVS_40 (by decide) hV rfl dVS_poke_1 ?_
  refine mn_iload_n 1 dVS_poke_4 rfl rfl ?_
  refine mn_cV (d' := 0) (w' := 0) (As := [.int (nI k)]) (stk' := [.ref (z + 2 + 2 * pi k)]) okSl_at lVS_133 dVS_poke_5 hz rfl rfl rfl rfl (Nat.le_of_ble_eq_true rfl) (Nat.le_of_ble_eq_true rfl) (by decide) (c_Sl_at hSl0 (i := k) (by omega)) rfl ?_
  have hoK := (hv k (by omega)).1
  have hrK := (hv k (by omega)).2
  have hssKi := hss k
  have hpiKi := hpi k (by omega)
  refine mn_astore (ls' := [(0, .ref vs), (1, .int (nI k)), (2, .int x2), (3, .int x3), (4, .ref (z + 2 + 2 * pi k))]) dVS_poke_8 (by decide) rfl ?_
  refine mn_aload 4 dVS_poke_10 rfl ?_
  refine mn_ifnull dVS_poke_12 ?_
  refine mn_iload_n 2 dVS_poke_15 rfl rfl ?_
  refine mn_if_lt 40 dVS_poke_16 (by decide) (fun c1 => ?_) (fun c1 => ?_)
  · refine mn_iconst (v := -1) dVS_poke_40 (by decide) ?_
    exact mn_iret rfl dVS_poke_41 ⟨rfl, rfl⟩
  · refine mn_iload_n 2 dVS_poke_19 rfl rfl ?_
    refine mn_aload 4 dVS_poke_20 rfl ?_
    refine mn_get okVo 1 lVS_137 (by decide) hoK rfl dVS_poke_22 ?_
    refine mn_icmp_ge 40 dVS_poke_25 (by decide) (fun c2 => ?_) (fun c2 => ?_)
    · refine mn_iconst (v := -1) dVS_poke_40 (by decide) ?_
      exact mn_iret rfl dVS_poke_41 ⟨rfl, rfl⟩
    · refine mn_iload_n 3 dVS_poke_28 rfl rfl ?_
      refine mn_iconst (v := 1) dVS_poke_29 (by decide) ?_
      refine mn_icmp_lt 40 dVS_poke_30 (by decide) (fun c3 => ?_) (fun c3 => ?_)
      · refine mn_iconst (v := -1) dVS_poke_40 (by decide) ?_
        exact mn_iret rfl dVS_poke_41 ⟨rfl, rfl⟩
      · refine mn_iload_n 3 dVS_poke_33 rfl rfl ?_
        refine mn_sipush (v := 255) dVS_poke_34 (by decide) ?_
        refine mn_icmp_le 42 dVS_poke_37 (by decide) (fun c4 => ?_) (fun c4 => ?_)
        · exact absurd hx (fun q => q.elim c1 (fun q => q.elim c2 (fun q => q.elim c3 (Int32.not_lt.mpr c4))))
        · refine mn_iconst (v := -1) dVS_poke_40 (by decide) ?_
          exact mn_iret rfl dVS_poke_41 ⟨rfl, rfl⟩
set_option maxRecDepth 100000 in
theorem c_VS_poke {E : mn_En} {g : mn_H} {vs t s u y z rd op : Nat} (hL : Lay vs t s u y z rd op) (hV : mn_at g vs (.inr (10, [.ref t, .ref s, .ref u, .ref y, .ref z, .ref rd, .ref op]))) {pi ss : Nat → Nat} {sb : Nat → Nat → Nat} (hSl : SlP g z pi ss sb) {k i mk : Nat} (hk : k < 60) (hi : i < ss k) (hmk : 1 ≤ mk) (hmk2 : mk < 256) : mn_R E MVS_poke 1 22 0 0 0 [(0, .ref vs), (1, .int (nI k)), (2, .int (nI i)), (3, .int (nI mk))] [] g (fun x g' => x = some (.int (nI (sb k i ^^^ mk))) ∧ mn_fr (fun q => z + 2 ≤ q ∧ q < z + 122) g g' ∧ SlP g' z pi ss (va_up sb k (va_up (sb k) i (sb k i ^^^ mk)))) := by
  obtain ⟨l1, l2, l3, l4, l5, l6, l7⟩ := hL
  have hSl0 := hSl
  obtain ⟨hz, hzr, hv, hpi, hpj, hss, hsb⟩ := id hSl
  refine mn_aload_n 0 dVS_poke_0 rfl rfl ?_
  refine mn_get okVS 4 lVS_40 (by decide) hV rfl dVS_poke_1 ?_
  refine mn_iload_n 1 dVS_poke_4 rfl rfl ?_
  refine mn_cV (d' := 0) (w' := 0) (As := [.int (nI k)]) (stk' := [.ref (z + 2 + 2 * pi k)]) okSl_at lVS_133 dVS_poke_5 hz rfl rfl rfl rfl (Nat.le_of_ble_eq_true rfl) (Nat.le_of_ble_eq_true rfl) (by decide) (c_Sl_at hSl0 (i := k) (by omega)) rfl ?_
  have hoK := (hv k (by omega)).1
  have hrK := (hv k (by omega)).2
  have hssKi := hss k
  have hpiKi := hpi k (by omega)
  refine mn_astore (ls' := [(0, .ref vs), (1, .int (nI k)), (2, .int (nI i)), (3, .int (nI mk)), (4, .ref (z + 2 + 2 * pi k))]) dVS_poke_8 (by decide) rfl ?_
  refine mn_aload 4 dVS_poke_10 rfl ?_
  refine mn_ifnull dVS_poke_12 ?_
  refine mn_iload_n 2 dVS_poke_15 rfl rfl ?_
  refine mn_if_lt 40 dVS_poke_16 (by decide) (fun c1 => ?_) (fun c1 => ?_)
  · exact absurd c1 (nI_pos (by omega))
  · refine mn_iload_n 2 dVS_poke_19 rfl rfl ?_
    refine mn_aload 4 dVS_poke_20 rfl ?_
    refine mn_get okVo 1 lVS_137 (by decide) hoK rfl dVS_poke_22 ?_
    refine mn_icmp_ge 40 dVS_poke_25 (by decide) (fun c2 => ?_) (fun c2 => ?_)
    · have c2 := (nI_leI (a := (ss k)) (b := i) (by omega) (by omega)).mp c2
      refine mn_iconst (v := -1) dVS_poke_40 (by decide) ?_
      exact mn_iret rfl dVS_poke_41 (absurd hi (by omega))
    · have c2 := mt (nI_leI (a := (ss k)) (b := i) (by omega) (by omega)).mpr c2
      refine mn_iload_n 3 dVS_poke_28 rfl rfl ?_
      refine mn_iconst (v := 1) dVS_poke_29 (by decide) ?_
      refine mn_icmp_lt 40 dVS_poke_30 (by decide) (fun c3 => ?_) (fun c3 => ?_)
      · have c3 := (nI_ltI (a := mk) (b := 1) (by omega) (by omega)).mp c3
        refine mn_iconst (v := -1) dVS_poke_40 (by decide) ?_
        exact mn_iret rfl dVS_poke_41 (absurd hi (by omega))
      · have c3 := mt (nI_ltI (a := mk) (b := 1) (by omega) (by omega)).mpr c3
        refine mn_iload_n 3 dVS_poke_33 rfl rfl ?_
        refine mn_sipush (v := 255) dVS_poke_34 (by decide) ?_
        refine mn_icmp_le 42 dVS_poke_37 (by decide) (fun c4 => ?_) (fun c4 => ?_)
        · have c4 := (nI_leI (a := mk) (b := 255) (by omega) (by omega)).mp c4
          refine mn_aload 4 dVS_poke_42 rfl ?_
          refine mn_iload_n 2 dVS_poke_44 rfl rfl ?_
          refine mn_aload 4 dVS_poke_45 rfl ?_
          refine mn_iload_n 2 dVS_poke_47 rfl rfl ?_
          refine mn_cV (d' := 0) (w' := 0) (As := [.int (nI i)]) (stk' := [.int (nI (sb k i)), .int (nI i), .ref (z + 2 + 2 * pi k)]) okVo_byteAt lVS_112 dVS_poke_48 hoK rfl rfl rfl rfl (Nat.le_of_ble_eq_true rfl) (Nat.le_of_ble_eq_true rfl) (by decide) (c_V_byteAt hoK hrK (j := i) (by omega)) rfl ?_
          refine mn_iload_n 3 dVS_poke_51 rfl rfl ?_
          refine mn_ixor (z := nI ((sb k i) ^^^ mk)) dVS_poke_52 (nx_xor (sb k i) mk) ?_
          refine mn_cV (d' := 0) (w' := 0) (As := [.int (nI i), .int (nI ((sb k i) ^^^ mk))]) (stk' := []) okVo_put lVS_138 dVS_poke_53 hoK rfl rfl rfl rfl (Nat.le_of_ble_eq_true rfl) (Nat.le_of_ble_eq_true rfl) (by decide) (c_V_putN hoK hrK (j := i) (v := (sb k i) ^^^ mk) (by omega)) rfl ?_
          obtain ⟨g5, eg5⟩ : ∃ gg_, gg_ = mn_set g (z + 2 + 2 * pi k + 1) (.inl (0, 80, .inl (fun j => nI ((va_up (sb k) i ((sb k i) ^^^ mk)) j)))) := ⟨_, rfl⟩
          refine mn_R.toG eg5 ?_
          have hV_g5 : mn_at g5 vs (.inr (10, [.ref t, .ref s, .ref u, .ref y, .ref z, .ref rd, .ref op])) := by rw [eg5]; exact hV.off (by omega)
          have hz_g5 : mn_at g5 z (.inr (5, [.ref (z + 1)])) := by rw [eg5]; exact hz.off (by omega)
          have hoK_g5 : mn_at g5 (z + 2 + 2 * pi k) (.inr (8, [.ref (z + 2 + 2 * pi k + 1), .int (nI (ss k))])) := by rw [eg5]; exact hoK.off (by omega)
          have hrK_g5 : mn_at g5 (z + 2 + 2 * pi k + 1) (.inl (0, 80, .inl (fun j => nI ((va_up (sb k) i ((sb k i) ^^^ mk)) j)))) := by rw [eg5]; exact hrK.same
          refine mn_aload 4 dVS_poke_56 rfl ?_
          refine mn_iload_n 2 dVS_poke_58 rfl rfl ?_
          refine mn_cV (d' := 0) (w' := 0) (As := [.int (nI i)]) (stk' := [.int (nI ((va_up (sb k) i ((sb k i) ^^^ mk)) i))]) okVo_byteAt lVS_112 dVS_poke_59 hoK_g5 rfl rfl rfl rfl (Nat.le_of_ble_eq_true rfl) (Nat.le_of_ble_eq_true rfl) (by decide) (c_V_byteAt hoK_g5 hrK_g5 (j := i) (by omega)) rfl ?_
          exact mn_iret rfl dVS_poke_62 (by have e9 : va_up (sb k) i (sb k i ^^^ mk) i = sb k i ^^^ mk := va_up_s _ _ _; rw [e9]; exact ⟨rfl, (mn_fr.rf.set eg5 (by show z + 2 ≤ (z + 2 + 2 * pi k + 1) ∧ (z + 2 + 2 * pi k + 1) < z + 122; omega)), by have h9 := SlP_put hSl0 hk (hss k) (va_up_lt (hsb k) (xor_lt8 (hsb k i) hmk2)) (mn_fr.rf.set eg5 (by show (z + 2 + 2 * pi k + 1) = z + 2 + 2 * pi k ∨ (z + 2 + 2 * pi k + 1) = z + 2 + 2 * pi k + 1; omega)) hoK_g5 hrK_g5; rw [va_up_id] at h9; exact h9⟩)
        · have c4 := mt (nI_leI (a := mk) (b := 255) (by omega) (by omega)).mpr c4
          refine mn_iconst (v := -1) dVS_poke_40 (by decide) ?_
          exact mn_iret rfl dVS_poke_41 (absurd hi (by omega))
set_option maxRecDepth 100000 in
theorem c_VS_swap_bad1 {E : mn_En} {g : mn_H} {vs t s u y z rd op : Nat} (hL : Lay vs t s u y z rd op) (hV : mn_at g vs (.inr (10, [.ref t, .ref s, .ref u, .ref y, .ref z, .ref rd, .ref op]))) {pi ss : Nat → Nat} {sb : Nat → Nat → Nat} (hSl : SlP g z pi ss sb) {x x2 : Int32} (hx : x < 0 ∨ 60 ≤ x) : mn_R E MVS_swap 2 45 0 0 0 [(0, .ref vs), (1, .int x), (2, .int x2)] [] g (mn_is (some (.int (-1))) g) := by
  obtain ⟨l1, l2, l3, l4, l5, l6, l7⟩ := hL
  have hSl0 := hSl
  obtain ⟨hz, hzr, hv, hpi, hpj, hss, hsb⟩ := id hSl
  refine mn_aload_n 0 dVS_swap_0 rfl rfl ?_
  refine mn_get okVS 4 lVS_40 (by decide) hV rfl dVS_swap_1 ?_
  refine mn_iload_n 1 dVS_swap_4 rfl rfl ?_
  refine mn_cV (d' := 0) (w' := 0) (As := [.int x]) (stk' := [.null]) okSl_at lVS_133 dVS_swap_5 hz rfl rfl rfl rfl (Nat.le_of_ble_eq_true rfl) (Nat.le_of_ble_eq_true rfl) (by decide) (c_Sl_at_bad hSl0 hx) rfl ?_
  refine mn_ifnullN 22 dVS_swap_8 (by decide) ?_
  refine mn_iconst (v := -1) dVS_swap_22 (by decide) ?_
  exact mn_iret rfl dVS_swap_23 ⟨rfl, rfl⟩
set_option maxRecDepth 100000 in
theorem c_VS_swap_bad2 {E : mn_En} {g : mn_H} {vs t s u y z rd op : Nat} (hL : Lay vs t s u y z rd op) (hV : mn_at g vs (.inr (10, [.ref t, .ref s, .ref u, .ref y, .ref z, .ref rd, .ref op]))) {pi ss : Nat → Nat} {sb : Nat → Nat → Nat} (hSl : SlP g z pi ss sb) {k : Nat} (hk : k < 60) {x : Int32} (hx : x < 0 ∨ 60 ≤ x) : mn_R E MVS_swap 2 45 0 0 0 [(0, .ref vs), (1, .int (nI k)), (2, .int x)] [] g (mn_is (some (.int (-1))) g) := by
  obtain ⟨l1, l2, l3, l4, l5, l6, l7⟩ := hL
  have hSl0 := hSl
  obtain ⟨hz, hzr, hv, hpi, hpj, hss, hsb⟩ := id hSl
  refine mn_aload_n 0 dVS_swap_0 rfl rfl ?_
  refine mn_get okVS 4 lVS_40 (by decide) hV rfl dVS_swap_1 ?_
  refine mn_iload_n 1 dVS_swap_4 rfl rfl ?_
  refine mn_cV (d' := 0) (w' := 0) (As := [.int (nI k)]) (stk' := [.ref (z + 2 + 2 * pi k)]) okSl_at lVS_133 dVS_swap_5 hz rfl rfl rfl rfl (Nat.le_of_ble_eq_true rfl) (Nat.le_of_ble_eq_true rfl) (by decide) (c_Sl_at hSl0 (i := k) (by omega)) rfl ?_
  have hoK := (hv k (by omega)).1
  have hrK := (hv k (by omega)).2
  have hssKi := hss k
  have hpiKi := hpi k (by omega)
  refine mn_ifnull dVS_swap_8 ?_
  refine mn_aload_n 0 dVS_swap_11 rfl rfl ?_
  refine mn_get okVS 4 lVS_40 (by decide) hV rfl dVS_swap_12 ?_
  refine mn_iload_n 2 dVS_swap_15 rfl rfl ?_
  refine mn_cV (d' := 0) (w' := 0) (As := [.int x]) (stk' := [.null]) okSl_at lVS_133 dVS_swap_16 hz rfl rfl rfl rfl (Nat.le_of_ble_eq_true rfl) (Nat.le_of_ble_eq_true rfl) (by decide) (c_Sl_at_bad hSl0 hx) rfl ?_
  refine mn_ifnonnullN dVS_swap_19 ?_
  refine mn_iconst (v := -1) dVS_swap_22 (by decide) ?_
  exact mn_iret rfl dVS_swap_23 ⟨rfl, rfl⟩
set_option maxRecDepth 100000 in
theorem c_VS_swap {E : mn_En} {g : mn_H} {vs t s u y z rd op : Nat} (hL : Lay vs t s u y z rd op) (hV : mn_at g vs (.inr (10, [.ref t, .ref s, .ref u, .ref y, .ref z, .ref rd, .ref op]))) {pi ss : Nat → Nat} {sb : Nat → Nat → Nat} (hSl : SlP g z pi ss sb) {a b : Nat} (ha : a < 60) (hb : b < 60) : mn_R E MVS_swap 2 45 0 0 0 [(0, .ref vs), (1, .int (nI a)), (2, .int (nI b))] [] g (fun x g' => x = some (.int 1) ∧ mn_fr (fun q => q = z + 1) g g' ∧ SlP g' z (swp pi a b) (swp ss a b) (swp sb a b)) := by
  obtain ⟨l1, l2, l3, l4, l5, l6, l7⟩ := hL
  have hSl0 := hSl
  obtain ⟨hz, hzr, hv, hpi, hpj, hss, hsb⟩ := id hSl
  refine mn_aload_n 0 dVS_swap_0 rfl rfl ?_
  refine mn_get okVS 4 lVS_40 (by decide) hV rfl dVS_swap_1 ?_
  refine mn_iload_n 1 dVS_swap_4 rfl rfl ?_
  refine mn_cV (d' := 0) (w' := 0) (As := [.int (nI a)]) (stk' := [.ref (z + 2 + 2 * pi a)]) okSl_at lVS_133 dVS_swap_5 hz rfl rfl rfl rfl (Nat.le_of_ble_eq_true rfl) (Nat.le_of_ble_eq_true rfl) (by decide) (c_Sl_at hSl0 (i := a) (by omega)) rfl ?_
  have hoA := (hv a (by omega)).1
  have hrA := (hv a (by omega)).2
  have hssAi := hss a
  have hpiAi := hpi a (by omega)
  refine mn_ifnull dVS_swap_8 ?_
  refine mn_aload_n 0 dVS_swap_11 rfl rfl ?_
  refine mn_get okVS 4 lVS_40 (by decide) hV rfl dVS_swap_12 ?_
  refine mn_iload_n 2 dVS_swap_15 rfl rfl ?_
  refine mn_cV (d' := 0) (w' := 0) (As := [.int (nI b)]) (stk' := [.ref (z + 2 + 2 * pi b)]) okSl_at lVS_133 dVS_swap_16 hz rfl rfl rfl rfl (Nat.le_of_ble_eq_true rfl) (Nat.le_of_ble_eq_true rfl) (by decide) (c_Sl_at hSl0 (i := b) (by omega)) rfl ?_
  have hoB := (hv b (by omega)).1
  have hrB := (hv b (by omega)).2
  have hssBi := hss b
  have hpiBi := hpi b (by omega)
  refine mn_ifnonnull 24 dVS_swap_19 (by decide) ?_
  refine mn_aload_n 0 dVS_swap_24 rfl rfl ?_
  refine mn_get okVS 4 lVS_40 (by decide) hV rfl dVS_swap_25 ?_
  refine mn_iload_n 1 dVS_swap_28 rfl rfl ?_
  refine mn_iload_n 2 dVS_swap_29 rfl rfl ?_
  refine mn_callV (d' := 1) (w' := 21) (nc' := 0) (ns' := 0) (As := [.int (nI a), .int (nI b)]) (st := []) okSl_exchange lVS_142 dVS_swap_30 hz rfl rfl rfl rfl (Nat.le_of_ble_eq_true rfl) (Nat.le_of_ble_eq_true rfl) (by decide) (c_Sl_exchange hSl0 ha hb) (fun v g1 hq => ?_)
  obtain ⟨rfl, fq, hq⟩ := hq
  show mn_R E MVS_swap 2 45 _ _ 33 [(0, .ref vs), (1, .int (nI a)), (2, .int (nI b))] [] g1 _
  refine mn_iconst (v := 1) dVS_swap_33 (by decide) ?_
  exact mn_iret rfl dVS_swap_34 ⟨rfl, fq, hq⟩
set_option maxRecDepth 100000 in
theorem c_VS_copy_bad1 {E : mn_En} {g : mn_H} {vs t s u y z rd op : Nat} (hL : Lay vs t s u y z rd op) (hV : mn_at g vs (.inr (10, [.ref t, .ref s, .ref u, .ref y, .ref z, .ref rd, .ref op]))) {pi ss : Nat → Nat} {sb : Nat → Nat → Nat} (hSl : SlP g z pi ss sb) {x x2 : Int32} (hx : x < 0 ∨ 60 ≤ x) (hx2 : x2 < 0 ∨ 60 ≤ x2) : mn_R E MVS_copy 2 47 0 0 0 [(0, .ref vs), (1, .int x), (2, .int x2)] [] g (mn_is (some (.int (-1))) g) := by
  obtain ⟨l1, l2, l3, l4, l5, l6, l7⟩ := hL
  have hSl0 := hSl
  obtain ⟨hz, hzr, hv, hpi, hpj, hss, hsb⟩ := id hSl
  refine mn_aload_n 0 dVS_copy_0 rfl rfl ?_
  refine mn_get okVS 4 lVS_40 (by decide) hV rfl dVS_copy_1 ?_
  refine mn_iload_n 1 dVS_copy_4 rfl rfl ?_
  refine mn_cV (d' := 0) (w' := 0) (As := [.int x]) (stk' := [.null]) okSl_at lVS_133 dVS_copy_5 hz rfl rfl rfl rfl (Nat.le_of_ble_eq_true rfl) (Nat.le_of_ble_eq_true rfl) (by decide) (c_Sl_at_bad hSl0 hx) rfl ?_
  refine mn_astore_nN (ls' := [(0, .ref vs), (1, .int x), (2, .int x2), (3, .null)]) dVS_copy_8 rfl (by decide) rfl ?_
  refine mn_aload_n 0 dVS_copy_9 rfl rfl ?_
  refine mn_get okVS 4 lVS_40 (by decide) hV rfl dVS_copy_10 ?_
  refine mn_iload_n 2 dVS_copy_13 rfl rfl ?_
  refine mn_cV (d' := 0) (w' := 0) (As := [.int x2]) (stk' := [.null]) okSl_at lVS_133 dVS_copy_14 hz rfl rfl rfl rfl (Nat.le_of_ble_eq_true rfl) (Nat.le_of_ble_eq_true rfl) (by decide) (c_Sl_at_bad hSl0 hx2) rfl ?_
  refine mn_astoreN (ls' := [(0, .ref vs), (1, .int x), (2, .int x2), (3, .null), (4, .null)]) dVS_copy_17 (by decide) rfl ?_
  refine mn_aload_nN 3 dVS_copy_19 rfl rfl ?_
  refine mn_ifnullN 43 dVS_copy_20 (by decide) ?_
  refine mn_iconst (v := -1) dVS_copy_43 (by decide) ?_
  exact mn_iret rfl dVS_copy_44 ⟨rfl, rfl⟩
set_option maxRecDepth 100000 in
theorem c_VS_copy_bad2 {E : mn_En} {g : mn_H} {vs t s u y z rd op : Nat} (hL : Lay vs t s u y z rd op) (hV : mn_at g vs (.inr (10, [.ref t, .ref s, .ref u, .ref y, .ref z, .ref rd, .ref op]))) {pi ss : Nat → Nat} {sb : Nat → Nat → Nat} (hSl : SlP g z pi ss sb) {x : Int32} (hx : x < 0 ∨ 60 ≤ x) {k : Nat} (hk : k < 60) : mn_R E MVS_copy 2 47 0 0 0 [(0, .ref vs), (1, .int x), (2, .int (nI k))] [] g (mn_is (some (.int (-1))) g) := by
  obtain ⟨l1, l2, l3, l4, l5, l6, l7⟩ := hL
  have hSl0 := hSl
  obtain ⟨hz, hzr, hv, hpi, hpj, hss, hsb⟩ := id hSl
  refine mn_aload_n 0 dVS_copy_0 rfl rfl ?_
  refine mn_get okVS 4 lVS_40 (by decide) hV rfl dVS_copy_1 ?_
  refine mn_iload_n 1 dVS_copy_4 rfl rfl ?_
  refine mn_cV (d' := 0) (w' := 0) (As := [.int x]) (stk' := [.null]) okSl_at lVS_133 dVS_copy_5 hz rfl rfl rfl rfl (Nat.le_of_ble_eq_true rfl) (Nat.le_of_ble_eq_true rfl) (by decide) (c_Sl_at_bad hSl0 hx) rfl ?_
  refine mn_astore_nN (ls' := [(0, .ref vs), (1, .int x), (2, .int (nI k)), (3, .null)]) dVS_copy_8 rfl (by decide) rfl ?_
  refine mn_aload_n 0 dVS_copy_9 rfl rfl ?_
  refine mn_get okVS 4 lVS_40 (by decide) hV rfl dVS_copy_10 ?_
  refine mn_iload_n 2 dVS_copy_13 rfl rfl ?_
  refine mn_cV (d' := 0) (w' := 0) (As := [.int (nI k)]) (stk' := [.ref (z + 2 + 2 * pi k)]) okSl_at lVS_133 dVS_copy_14 hz rfl rfl rfl rfl (Nat.le_of_ble_eq_true rfl) (Nat.le_of_ble_eq_true rfl) (by decide) (c_Sl_at hSl0 (i := k) (by omega)) rfl ?_
  have hoK := (hv k (by omega)).1
  have hrK := (hv k (by omega)).2
  have hssKi := hss k
  have hpiKi := hpi k (by omega)
  refine mn_astore (ls' := [(0, .ref vs), (1, .int x), (2, .int (nI k)), (3, .null), (4, .ref (z + 2 + 2 * pi k))]) dVS_copy_17 (by decide) rfl ?_
  refine mn_aload_nN 3 dVS_copy_19 rfl rfl ?_
  refine mn_ifnullN 43 dVS_copy_20 (by decide) ?_
  refine mn_iconst (v := -1) dVS_copy_43 (by decide) ?_
  exact mn_iret rfl dVS_copy_44 ⟨rfl, rfl⟩
set_option maxRecDepth 100000 in
theorem c_VS_copy_bad3 {E : mn_En} {g : mn_H} {vs t s u y z rd op : Nat} (hL : Lay vs t s u y z rd op) (hV : mn_at g vs (.inr (10, [.ref t, .ref s, .ref u, .ref y, .ref z, .ref rd, .ref op]))) {pi ss : Nat → Nat} {sb : Nat → Nat → Nat} (hSl : SlP g z pi ss sb) {k : Nat} (hk : k < 60) {x : Int32} (hx : x < 0 ∨ 60 ≤ x) : mn_R E MVS_copy 2 47 0 0 0 [(0, .ref vs), (1, .int (nI k)), (2, .int x)] [] g (mn_is (some (.int (-1))) g) := by
  obtain ⟨l1, l2, l3, l4, l5, l6, l7⟩ := hL
  have hSl0 := hSl
  obtain ⟨hz, hzr, hv, hpi, hpj, hss, hsb⟩ := id hSl
  refine mn_aload_n 0 dVS_copy_0 rfl rfl ?_
  refine mn_get okVS 4 lVS_40 (by decide) hV rfl dVS_copy_1 ?_
  refine mn_iload_n 1 dVS_copy_4 rfl rfl ?_
  refine mn_cV (d' := 0) (w' := 0) (As := [.int (nI k)]) (stk' := [.ref (z + 2 + 2 * pi k)]) okSl_at lVS_133 dVS_copy_5 hz rfl rfl rfl rfl (Nat.le_of_ble_eq_true rfl) (Nat.le_of_ble_eq_true rfl) (by decide) (c_Sl_at hSl0 (i := k) (by omega)) rfl ?_
  have hoK := (hv k (by omega)).1
  have hrK := (hv k (by omega)).2
  have hssKi := hss k
  have hpiKi := hpi k (by omega)
  refine mn_astore_n (ls' := [(0, .ref vs), (1, .int (nI k)), (2, .int x), (3, .ref (z + 2 + 2 * pi k))]) dVS_copy_8 rfl (by decide) rfl ?_
  refine mn_aload_n 0 dVS_copy_9 rfl rfl ?_
  refine mn_get okVS 4 lVS_40 (by decide) hV rfl dVS_copy_10 ?_
  refine mn_iload_n 2 dVS_copy_13 rfl rfl ?_
  refine mn_cV (d' := 0) (w' := 0) (As := [.int x]) (stk' := [.null]) okSl_at lVS_133 dVS_copy_14 hz rfl rfl rfl rfl (Nat.le_of_ble_eq_true rfl) (Nat.le_of_ble_eq_true rfl) (by decide) (c_Sl_at_bad hSl0 hx) rfl ?_
  refine mn_astoreN (ls' := [(0, .ref vs), (1, .int (nI k)), (2, .int x), (3, .ref (z + 2 + 2 * pi k)), (4, .null)]) dVS_copy_17 (by decide) rfl ?_
  refine mn_aload_n 3 dVS_copy_19 rfl rfl ?_
  refine mn_ifnull dVS_copy_20 ?_
  refine mn_aloadN 4 dVS_copy_23 rfl ?_
  refine mn_ifnullN 43 dVS_copy_25 (by decide) ?_
  refine mn_iconst (v := -1) dVS_copy_43 (by decide) ?_
  exact mn_iret rfl dVS_copy_44 ⟨rfl, rfl⟩
set_option maxRecDepth 100000 in
theorem c_VS_copy_bad4 {E : mn_En} {g : mn_H} {vs t s u y z rd op : Nat} (hL : Lay vs t s u y z rd op) (hV : mn_at g vs (.inr (10, [.ref t, .ref s, .ref u, .ref y, .ref z, .ref rd, .ref op]))) {pi ss : Nat → Nat} {sb : Nat → Nat → Nat} (hSl : SlP g z pi ss sb) {a b : Nat} (ha : a < 60) (hb : b < 60) (hx : ss a = 0 ∨ ¬ ss b = 0) : mn_R E MVS_copy 2 47 0 0 0 [(0, .ref vs), (1, .int (nI a)), (2, .int (nI b))] [] g (mn_is (some (.int (-1))) g) := by
  obtain ⟨l1, l2, l3, l4, l5, l6, l7⟩ := hL
  have hSl0 := hSl
  obtain ⟨hz, hzr, hv, hpi, hpj, hss, hsb⟩ := id hSl
  refine mn_aload_n 0 dVS_copy_0 rfl rfl ?_
  refine mn_get okVS 4 lVS_40 (by decide) hV rfl dVS_copy_1 ?_
  refine mn_iload_n 1 dVS_copy_4 rfl rfl ?_
  refine mn_cV (d' := 0) (w' := 0) (As := [.int (nI a)]) (stk' := [.ref (z + 2 + 2 * pi a)]) okSl_at lVS_133 dVS_copy_5 hz rfl rfl rfl rfl (Nat.le_of_ble_eq_true rfl) (Nat.le_of_ble_eq_true rfl) (by decide) (c_Sl_at hSl0 (i := a) (by omega)) rfl ?_
  have hoA := (hv a (by omega)).1
  have hrA := (hv a (by omega)).2
  have hssAi := hss a
  have hpiAi := hpi a (by omega)
  refine mn_astore_n (ls' := [(0, .ref vs), (1, .int (nI a)), (2, .int (nI b)), (3, .ref (z + 2 + 2 * pi a))]) dVS_copy_8 rfl (by decide) rfl ?_
  refine mn_aload_n 0 dVS_copy_9 rfl rfl ?_
  refine mn_get okVS 4 lVS_40 (by decide) hV rfl dVS_copy_10 ?_
  refine mn_iload_n 2 dVS_copy_13 rfl rfl ?_
  refine mn_cV (d' := 0) (w' := 0) (As := [.int (nI b)]) (stk' := [.ref (z + 2 + 2 * pi b)]) okSl_at lVS_133 dVS_copy_14 hz rfl rfl rfl rfl (Nat.le_of_ble_eq_true rfl) (Nat.le_of_ble_eq_true rfl) (by decide) (c_Sl_at hSl0 (i := b) (by omega)) rfl ?_
  have hoB := (hv b (by omega)).1
  have hrB := (hv b (by omega)).2
  have hssBi := hss b
  have hpiBi := hpi b (by omega)
  refine mn_astore (ls' := [(0, .ref vs), (1, .int (nI a)), (2, .int (nI b)), (3, .ref (z + 2 + 2 * pi a)), (4, .ref (z + 2 + 2 * pi b))]) dVS_copy_17 (by decide) rfl ?_
  refine mn_aload_n 3 dVS_copy_19 rfl rfl ?_
  refine mn_ifnull dVS_copy_20 ?_
  refine mn_aload 4 dVS_copy_23 rfl ?_
  refine mn_ifnull dVS_copy_25 ?_
  refine mn_aload_n 3 dVS_copy_28 rfl rfl ?_
  refine mn_get okVo 1 lVS_137 (by decide) hoA rfl dVS_copy_29 ?_
  refine mn_if_eq 43 dVS_copy_32 (by decide) (fun c1 => ?_) (fun c1 => ?_)
  · have c1 := (nI_eq (a := (ss a)) (b := 0) (by omega) (by omega)).mp c1
    refine mn_iconst (v := -1) dVS_copy_43 (by decide) ?_
    exact mn_iret rfl dVS_copy_44 ⟨rfl, rfl⟩
  · have c1 := mt (nI_eq (a := (ss a)) (b := 0) (by omega) (by omega)).mpr c1
    refine mn_aload 4 dVS_copy_35 rfl ?_
    refine mn_get okVo 1 lVS_137 (by decide) hoB rfl dVS_copy_37 ?_
    refine mn_if_eq 45 dVS_copy_40 (by decide) (fun c2 => ?_) (fun c2 => ?_)
    · have c2 := (nI_eq (a := (ss b)) (b := 0) (by omega) (by omega)).mp c2
      exact absurd hx (fun q => q.elim c1 (fun q => q c2))
    · have c2 := mt (nI_eq (a := (ss b)) (b := 0) (by omega) (by omega)).mpr c2
      refine mn_iconst (v := -1) dVS_copy_43 (by decide) ?_
      exact mn_iret rfl dVS_copy_44 ⟨rfl, rfl⟩
set_option maxRecDepth 100000 in
theorem c_VS_copy {E : mn_En} {g : mn_H} {vs t s u y z rd op : Nat} (hL : Lay vs t s u y z rd op) (hV : mn_at g vs (.inr (10, [.ref t, .ref s, .ref u, .ref y, .ref z, .ref rd, .ref op]))) {pi ss : Nat → Nat} {sb : Nat → Nat → Nat} (hSl : SlP g z pi ss sb) {a b : Nat} (ha : a < 60) (hb : b < 60) (h1 : ¬ ss a = 0) (h2 : ss b = 0) : mn_R E MVS_copy 2 47 0 0 0 [(0, .ref vs), (1, .int (nI a)), (2, .int (nI b))] [] g (fun x g' => x = some (.int (nI (ss a))) ∧ mn_fr (fun q => z + 2 ≤ q ∧ q < z + 122) g g' ∧ SlP g' z pi (va_up ss b (ss a)) (va_up sb b (cpN (sb a) (sb b)))) := by
  obtain ⟨l1, l2, l3, l4, l5, l6, l7⟩ := hL
  have hSl0 := hSl
  obtain ⟨hz, hzr, hv, hpi, hpj, hss, hsb⟩ := id hSl
  have hab : pi a ≠ pi b := fun q => by have h7 := hpj a b ha hb q; subst h7; exact h1 h2
  refine mn_aload_n 0 dVS_copy_0 rfl rfl ?_
  refine mn_get okVS 4 lVS_40 (by decide) hV rfl dVS_copy_1 ?_
  refine mn_iload_n 1 dVS_copy_4 rfl rfl ?_
  refine mn_cV (d' := 0) (w' := 0) (As := [.int (nI a)]) (stk' := [.ref (z + 2 + 2 * pi a)]) okSl_at lVS_133 dVS_copy_5 hz rfl rfl rfl rfl (Nat.le_of_ble_eq_true rfl) (Nat.le_of_ble_eq_true rfl) (by decide) (c_Sl_at hSl0 (i := a) (by omega)) rfl ?_
  have hoA := (hv a (by omega)).1
  have hrA := (hv a (by omega)).2
  have hssAi := hss a
  have hpiAi := hpi a (by omega)
  refine mn_astore_n (ls' := [(0, .ref vs), (1, .int (nI a)), (2, .int (nI b)), (3, .ref (z + 2 + 2 * pi a))]) dVS_copy_8 rfl (by decide) rfl ?_
  refine mn_aload_n 0 dVS_copy_9 rfl rfl ?_
  refine mn_get okVS 4 lVS_40 (by decide) hV rfl dVS_copy_10 ?_
  refine mn_iload_n 2 dVS_copy_13 rfl rfl ?_
  refine mn_cV (d' := 0) (w' := 0) (As := [.int (nI b)]) (stk' := [.ref (z + 2 + 2 * pi b)]) okSl_at lVS_133 dVS_copy_14 hz rfl rfl rfl rfl (Nat.le_of_ble_eq_true rfl) (Nat.le_of_ble_eq_true rfl) (by decide) (c_Sl_at hSl0 (i := b) (by omega)) rfl ?_
  have hoB := (hv b (by omega)).1
  have hrB := (hv b (by omega)).2
  have hssBi := hss b
  have hpiBi := hpi b (by omega)
  refine mn_astore (ls' := [(0, .ref vs), (1, .int (nI a)), (2, .int (nI b)), (3, .ref (z + 2 + 2 * pi a)), (4, .ref (z + 2 + 2 * pi b))]) dVS_copy_17 (by decide) rfl ?_
  refine mn_aload_n 3 dVS_copy_19 rfl rfl ?_
  refine mn_ifnull dVS_copy_20 ?_
  refine mn_aload 4 dVS_copy_23 rfl ?_
  refine mn_ifnull dVS_copy_25 ?_
  refine mn_aload_n 3 dVS_copy_28 rfl rfl ?_
  refine mn_get okVo 1 lVS_137 (by decide) hoA rfl dVS_copy_29 ?_
  refine mn_if_eq 43 dVS_copy_32 (by decide) (fun c1 => ?_) (fun c1 => ?_)
  · have c1 := (nI_eq (a := (ss a)) (b := 0) (by omega) (by omega)).mp c1
    refine mn_iconst (v := -1) dVS_copy_43 (by decide) ?_
    exact mn_iret rfl dVS_copy_44 (absurd c1 h1)
  · have c1 := mt (nI_eq (a := (ss a)) (b := 0) (by omega) (by omega)).mpr c1
    refine mn_aload 4 dVS_copy_35 rfl ?_
    refine mn_get okVo 1 lVS_137 (by decide) hoB rfl dVS_copy_37 ?_
    refine mn_if_eq 45 dVS_copy_40 (by decide) (fun c2 => ?_) (fun c2 => ?_)
    · have c2 := (nI_eq (a := (ss b)) (b := 0) (by omega) (by omega)).mp c2
      refine mn_aload 4 dVS_copy_45 rfl ?_
      refine mn_aload_n 3 dVS_copy_47 rfl rfl ?_
      refine mn_cV (d' := 1) (w' := 26) (As := [.ref (z + 2 + 2 * pi a)]) (stk' := []) okVo_become lVS_145 dVS_copy_48 hoB rfl rfl rfl rfl (Nat.le_of_ble_eq_true rfl) (Nat.le_of_ble_eq_true rfl) (by decide) (c_V_become hoB hrB hoA hrA (by omega) (by omega)) rfl ?_
      obtain ⟨g3, eg3⟩ : ∃ gg_, gg_ = mn_set g (z + 2 + 2 * pi b + 1) (.inl (0, 80, .inl (va_cpy (fun j => nI (sb a j)) (fun j => nI (sb b j)) 0 0 80))) := ⟨_, rfl⟩
      have hV_g3 : mn_at g3 vs (.inr (10, [.ref t, .ref s, .ref u, .ref y, .ref z, .ref rd, .ref op])) := by rw [eg3]; exact hV.off (by omega)
      have hz_g3 : mn_at g3 z (.inr (5, [.ref (z + 1)])) := by rw [eg3]; exact hz.off (by omega)
      have hoA_g3 : mn_at g3 (z + 2 + 2 * pi a) (.inr (8, [.ref (z + 2 + 2 * pi a + 1), .int (nI (ss a))])) := by rw [eg3]; exact hoA.off (by omega)
      have hrA_g3 : mn_at g3 (z + 2 + 2 * pi a + 1) (.inl (0, 80, .inl (fun j => nI (sb a j)))) := by rw [eg3]; exact hrA.off (by omega)
      have hoB_g3 : mn_at g3 (z + 2 + 2 * pi b) (.inr (8, [.ref (z + 2 + 2 * pi b + 1), .int (nI (ss b))])) := by rw [eg3]; exact hoB.off (by omega)
      have hrB_g3 : mn_at g3 (z + 2 + 2 * pi b + 1) (.inl (0, 80, .inl (va_cpy (fun j => nI (sb a j)) (fun j => nI (sb b j)) 0 0 80))) := by rw [eg3]; exact hrB.same
      obtain ⟨g4, eg4⟩ : ∃ gg_, gg_ = mn_set g3 (z + 2 + 2 * pi b) (.inr (8, [.ref (z + 2 + 2 * pi b + 1), .int (nI (ss a))])) := ⟨_, rfl⟩
      refine mn_R.toG (eg4.trans (by rw [eg3])) ?_
      have hV_g4 : mn_at g4 vs (.inr (10, [.ref t, .ref s, .ref u, .ref y, .ref z, .ref rd, .ref op])) := by rw [eg4]; exact hV_g3.off (by omega)
      have hz_g4 : mn_at g4 z (.inr (5, [.ref (z + 1)])) := by rw [eg4]; exact hz_g3.off (by omega)
      have hoA_g4 : mn_at g4 (z + 2 + 2 * pi a) (.inr (8, [.ref (z + 2 + 2 * pi a + 1), .int (nI (ss a))])) := by rw [eg4]; exact hoA_g3.off (by omega)
      have hrA_g4 : mn_at g4 (z + 2 + 2 * pi a + 1) (.inl (0, 80, .inl (fun j => nI (sb a j)))) := by rw [eg4]; exact hrA_g3.off (by omega)
      have hoB_g4 : mn_at g4 (z + 2 + 2 * pi b) (.inr (8, [.ref (z + 2 + 2 * pi b + 1), .int (nI (ss a))])) := by rw [eg4]; exact hoB_g3.same
      have hrB_g4 : mn_at g4 (z + 2 + 2 * pi b + 1) (.inl (0, 80, .inl (va_cpy (fun j => nI (sb a j)) (fun j => nI (sb b j)) 0 0 80))) := by rw [eg4]; exact hrB_g3.off (by omega)
      rw [cpy_nI] at hrB_g4
      refine mn_aload 4 dVS_copy_51 rfl ?_
      refine mn_get okVo 1 lVS_137 (by decide) hoB_g4 rfl dVS_copy_53 ?_
      exact mn_iret rfl dVS_copy_56 ⟨rfl, ((mn_fr.rf.set eg3 (by show z + 2 ≤ (z + 2 + 2 * pi b + 1) ∧ (z + 2 + 2 * pi b + 1) < z + 122; omega)).set eg4 (by show z + 2 ≤ (z + 2 + 2 * pi b) ∧ (z + 2 + 2 * pi b) < z + 122; omega)), SlP_put hSl0 hb (hss a) (cpN_lt (hsb a) (hsb b)) ((mn_fr.rf.set eg3 (by show (z + 2 + 2 * pi b + 1) = z + 2 + 2 * pi b ∨ (z + 2 + 2 * pi b + 1) = z + 2 + 2 * pi b + 1; omega)).set eg4 (by show (z + 2 + 2 * pi b) = z + 2 + 2 * pi b ∨ (z + 2 + 2 * pi b) = z + 2 + 2 * pi b + 1; omega)) hoB_g4 hrB_g4⟩
    · have c2 := mt (nI_eq (a := (ss b)) (b := 0) (by omega) (by omega)).mpr c2
      refine mn_iconst (v := -1) dVS_copy_43 (by decide) ?_
      exact mn_iret rfl dVS_copy_44 (absurd h2 c2)
set_option maxRecDepth 100000 in
theorem c_VS_slot_bad {E : mn_En} {g : mn_H} {vs t s u y z rd op : Nat} (hL : Lay vs t s u y z rd op) (hV : mn_at g vs (.inr (10, [.ref t, .ref s, .ref u, .ref y, .ref z, .ref rd, .ref op]))) {pi ss : Nat → Nat} {sb : Nat → Nat → Nat} (hSl : SlP g z pi ss sb) {x x2 : Int32} (hx : x < 0 ∨ 60 ≤ x) : mn_R E MVS_slot 4 88 0 0 0 [(0, .ref vs), (1, .int x), (2, .int x2)] [] g (mn_is (some (.int (-1))) g) := by
  obtain ⟨l1, l2, l3, l4, l5, l6, l7⟩ := hL
  have hSl0 := hSl
  obtain ⟨hz, hzr, hv, hpi, hpj, hss, hsb⟩ := id hSl
  refine mn_aload_n 0 dVS_slot_0 rfl rfl ?_
  refine mn_get okVS 4 lVS_40 (by decide) hV rfl dVS_slot_1 ?_
  refine mn_iload_n 1 dVS_slot_4 rfl rfl ?_
  refine mn_cV (d' := 0) (w' := 0) (As := [.int x]) (stk' := [.null]) okSl_at lVS_133 dVS_slot_5 hz rfl rfl rfl rfl (Nat.le_of_ble_eq_true rfl) (Nat.le_of_ble_eq_true rfl) (by decide) (c_Sl_at_bad hSl0 hx) rfl ?_
  refine mn_astore_nN (ls' := [(0, .ref vs), (1, .int x), (2, .int x2), (3, .null)]) dVS_slot_8 rfl (by decide) rfl ?_
  refine mn_aload_nN 3 dVS_slot_9 rfl rfl ?_
  refine mn_ifnullN 22 dVS_slot_10 (by decide) ?_
  refine mn_iconst (v := -1) dVS_slot_22 (by decide) ?_
  exact mn_iret rfl dVS_slot_23 ⟨rfl, rfl⟩
set_option maxRecDepth 100000 in
theorem c_VS_slot_what {E : mn_En} {g : mn_H} {vs t s u y z rd op : Nat} (hL : Lay vs t s u y z rd op) (hV : mn_at g vs (.inr (10, [.ref t, .ref s, .ref u, .ref y, .ref z, .ref rd, .ref op]))) {pi ss : Nat → Nat} {sb : Nat → Nat → Nat} (hSl : SlP g z pi ss sb) {k : Nat} (hk : k < 60) {x : Int32} (hx : x < 0 ∨ 5 < x) : mn_R E MVS_slot 4 88 0 0 0 [(0, .ref vs), (1, .int (nI k)), (2, .int x)] [] g (mn_is (some (.int (-1))) g) := by
  obtain ⟨l1, l2, l3, l4, l5, l6, l7⟩ := hL
  have hSl0 := hSl
  obtain ⟨hz, hzr, hv, hpi, hpj, hss, hsb⟩ := id hSl
  refine mn_aload_n 0 dVS_slot_0 rfl rfl ?_
  refine mn_get okVS 4 lVS_40 (by decide) hV rfl dVS_slot_1 ?_
  refine mn_iload_n 1 dVS_slot_4 rfl rfl ?_
  refine mn_cV (d' := 0) (w' := 0) (As := [.int (nI k)]) (stk' := [.ref (z + 2 + 2 * pi k)]) okSl_at lVS_133 dVS_slot_5 hz rfl rfl rfl rfl (Nat.le_of_ble_eq_true rfl) (Nat.le_of_ble_eq_true rfl) (by decide) (c_Sl_at hSl0 (i := k) (by omega)) rfl ?_
  have hoK := (hv k (by omega)).1
  have hrK := (hv k (by omega)).2
  have hssKi := hss k
  have hpiKi := hpi k (by omega)
  refine mn_astore_n (ls' := [(0, .ref vs), (1, .int (nI k)), (2, .int x), (3, .ref (z + 2 + 2 * pi k))]) dVS_slot_8 rfl (by decide) rfl ?_
  refine mn_aload_n 3 dVS_slot_9 rfl rfl ?_
  refine mn_ifnull dVS_slot_10 ?_
  refine mn_iload_n 2 dVS_slot_13 rfl rfl ?_
  refine mn_if_lt 22 dVS_slot_14 (by decide) (fun c1 => ?_) (fun c1 => ?_)
  · refine mn_iconst (v := -1) dVS_slot_22 (by decide) ?_
    exact mn_iret rfl dVS_slot_23 ⟨rfl, rfl⟩
  · refine mn_iload_n 2 dVS_slot_17 rfl rfl ?_
    refine mn_iconst (v := 5) dVS_slot_18 (by decide) ?_
    refine mn_icmp_le 24 dVS_slot_19 (by decide) (fun c2 => ?_) (fun c2 => ?_)
    · exact absurd hx (fun q => q.elim c1 (Int32.not_lt.mpr c2))
    · refine mn_iconst (v := -1) dVS_slot_22 (by decide) ?_
      exact mn_iret rfl dVS_slot_23 ⟨rfl, rfl⟩
set_option maxRecDepth 100000 in
theorem c_VS_slot0 {E : mn_En} {g : mn_H} {vs t s u y z rd op : Nat} (hL : Lay vs t s u y z rd op) (hV : mn_at g vs (.inr (10, [.ref t, .ref s, .ref u, .ref y, .ref z, .ref rd, .ref op]))) {pi ss : Nat → Nat} {sb : Nat → Nat → Nat} (hSl : SlP g z pi ss sb) {k : Nat} (hk : k < 60) : mn_R E MVS_slot 4 88 0 0 0 [(0, .ref vs), (1, .int (nI k)), (2, .int 0)] [] g (mn_is (some (.int (nI (stN (sb k) (ss k))))) g) := by
  obtain ⟨l1, l2, l3, l4, l5, l6, l7⟩ := hL
  have hSl0 := hSl
  obtain ⟨hz, hzr, hv, hpi, hpj, hss, hsb⟩ := id hSl
  refine mn_aload_n 0 dVS_slot_0 rfl rfl ?_
  refine mn_get okVS 4 lVS_40 (by decide) hV rfl dVS_slot_1 ?_
  refine mn_iload_n 1 dVS_slot_4 rfl rfl ?_
  refine mn_cV (d' := 0) (w' := 0) (As := [.int (nI k)]) (stk' := [.ref (z + 2 + 2 * pi k)]) okSl_at lVS_133 dVS_slot_5 hz rfl rfl rfl rfl (Nat.le_of_ble_eq_true rfl) (Nat.le_of_ble_eq_true rfl) (by decide) (c_Sl_at hSl0 (i := k) (by omega)) rfl ?_
  have hoK := (hv k (by omega)).1
  have hrK := (hv k (by omega)).2
  have hssKi := hss k
  have hpiKi := hpi k (by omega)
  refine mn_astore_n (ls' := [(0, .ref vs), (1, .int (nI k)), (2, .int 0), (3, .ref (z + 2 + 2 * pi k))]) dVS_slot_8 rfl (by decide) rfl ?_
  refine mn_aload_n 3 dVS_slot_9 rfl rfl ?_
  refine mn_ifnull dVS_slot_10 ?_
  refine mn_iload_n 2 dVS_slot_13 rfl rfl ?_
  refine mn_if_lt 22 dVS_slot_14 (by decide) (fun c1 => ?_) (fun c1 => ?_)
  · exact absurd c1 (by decide)
  · refine mn_iload_n 2 dVS_slot_17 rfl rfl ?_
    refine mn_iconst (v := 5) dVS_slot_18 (by decide) ?_
    refine mn_icmp_le 24 dVS_slot_19 (by decide) (fun c2 => ?_) (fun c2 => ?_)
    · refine mn_iload_n 2 dVS_slot_24 rfl rfl ?_
      refine mn_if_ne 33 dVS_slot_25 (by decide) (fun c3 => ?_) (fun c3 => ?_)
      · exact absurd c3 (by decide)
      · refine mn_aload_n 3 dVS_slot_28 rfl rfl ?_
        refine mn_cV (d' := 3) (w' := 68) (As := []) (stk' := [.int (nI (stN (sb k) (ss k)))]) okVo_state lVS_149 dVS_slot_29 hoK rfl rfl rfl rfl (Nat.le_of_ble_eq_true rfl) (Nat.le_of_ble_eq_true rfl) (by decide) (by have h0 := c_V_state (E := E) hoK hrK (by omega); rw [stV_nI (hsb k)] at h0; exact h0) rfl ?_
        exact mn_iret rfl dVS_slot_32 ⟨rfl, rfl⟩
    · exact absurd c2 (by decide)
set_option maxRecDepth 100000 in
theorem c_VS_slot5e {E : mn_En} {g : mn_H} {vs t s u y z rd op : Nat} (hL : Lay vs t s u y z rd op) (hV : mn_at g vs (.inr (10, [.ref t, .ref s, .ref u, .ref y, .ref z, .ref rd, .ref op]))) {pi ss : Nat → Nat} {sb : Nat → Nat → Nat} (hSl : SlP g z pi ss sb) {k : Nat} (hk : k < 60) (h0 : ss k = 0) : mn_R E MVS_slot 4 88 0 0 0 [(0, .ref vs), (1, .int (nI k)), (2, .int 5)] [] g (mn_is (some (.int (-2))) g) := by
  obtain ⟨l1, l2, l3, l4, l5, l6, l7⟩ := hL
  have hSl0 := hSl
  obtain ⟨hz, hzr, hv, hpi, hpj, hss, hsb⟩ := id hSl
  refine mn_aload_n 0 dVS_slot_0 rfl rfl ?_
  refine mn_get okVS 4 lVS_40 (by decide) hV rfl dVS_slot_1 ?_
  refine mn_iload_n 1 dVS_slot_4 rfl rfl ?_
  refine mn_cV (d' := 0) (w' := 0) (As := [.int (nI k)]) (stk' := [.ref (z + 2 + 2 * pi k)]) okSl_at lVS_133 dVS_slot_5 hz rfl rfl rfl rfl (Nat.le_of_ble_eq_true rfl) (Nat.le_of_ble_eq_true rfl) (by decide) (c_Sl_at hSl0 (i := k) (by omega)) rfl ?_
  have hoK := (hv k (by omega)).1
  have hrK := (hv k (by omega)).2
  have hssKi := hss k
  have hpiKi := hpi k (by omega)
  refine mn_astore_n (ls' := [(0, .ref vs), (1, .int (nI k)), (2, .int 5), (3, .ref (z + 2 + 2 * pi k))]) dVS_slot_8 rfl (by decide) rfl ?_
  refine mn_aload_n 3 dVS_slot_9 rfl rfl ?_
  refine mn_ifnull dVS_slot_10 ?_
  refine mn_iload_n 2 dVS_slot_13 rfl rfl ?_
  refine mn_if_lt 22 dVS_slot_14 (by decide) (fun c1 => ?_) (fun c1 => ?_)
  · exact absurd c1 (by decide)
  · refine mn_iload_n 2 dVS_slot_17 rfl rfl ?_
    refine mn_iconst (v := 5) dVS_slot_18 (by decide) ?_
    refine mn_icmp_le 24 dVS_slot_19 (by decide) (fun c2 => ?_) (fun c2 => ?_)
    · refine mn_iload_n 2 dVS_slot_24 rfl rfl ?_
      refine mn_if_ne 33 dVS_slot_25 (by decide) (fun c3 => ?_) (fun c3 => ?_)
      · refine mn_iload_n 2 dVS_slot_33 rfl rfl ?_
        refine mn_iconst (v := 5) dVS_slot_34 (by decide) ?_
        refine mn_icmp_ne 55 dVS_slot_35 (by decide) (fun c4 => ?_) (fun c4 => ?_)
        · exact absurd c4 (by decide)
        · refine mn_aload_n 3 dVS_slot_38 rfl rfl ?_
          refine mn_get okVo 1 lVS_137 (by decide) hoK rfl dVS_slot_39 ?_
          refine mn_if_ne 50 dVS_slot_42 (by decide) (fun c5 => ?_) (fun c5 => ?_)
          · have c5 := mt (nI_eq (a := (ss k)) (b := 0) (by omega) (by omega)).mpr c5
            refine mn_aload_n 3 dVS_slot_50 rfl rfl ?_
            refine mn_get okVo 1 lVS_137 (by decide) hoK rfl dVS_slot_51 ?_
            exact mn_iret rfl dVS_slot_54 (absurd h0 c5)
          · have c5 := (nI_eq (a := (ss k)) (b := 0) (by omega) (by omega)).mp c5
            refine mn_bipush (v := (-2)) dVS_slot_45 (by decide) ?_
            refine mn_goto 54 dVS_slot_47 (by decide) ?_
            exact mn_iret rfl dVS_slot_54 ⟨rfl, rfl⟩
      · exact absurd c3 (by decide)
    · exact absurd c2 (by decide)
set_option maxRecDepth 100000 in
theorem c_VS_slot5 {E : mn_En} {g : mn_H} {vs t s u y z rd op : Nat} (hL : Lay vs t s u y z rd op) (hV : mn_at g vs (.inr (10, [.ref t, .ref s, .ref u, .ref y, .ref z, .ref rd, .ref op]))) {pi ss : Nat → Nat} {sb : Nat → Nat → Nat} (hSl : SlP g z pi ss sb) {k : Nat} (hk : k < 60) (h0 : ¬ ss k = 0) : mn_R E MVS_slot 4 88 0 0 0 [(0, .ref vs), (1, .int (nI k)), (2, .int 5)] [] g (mn_is (some (.int (nI (ss k)))) g) := by
  obtain ⟨l1, l2, l3, l4, l5, l6, l7⟩ := hL
  have hSl0 := hSl
  obtain ⟨hz, hzr, hv, hpi, hpj, hss, hsb⟩ := id hSl
  refine mn_aload_n 0 dVS_slot_0 rfl rfl ?_
  refine mn_get okVS 4 lVS_40 (by decide) hV rfl dVS_slot_1 ?_
  refine mn_iload_n 1 dVS_slot_4 rfl rfl ?_
  refine mn_cV (d' := 0) (w' := 0) (As := [.int (nI k)]) (stk' := [.ref (z + 2 + 2 * pi k)]) okSl_at lVS_133 dVS_slot_5 hz rfl rfl rfl rfl (Nat.le_of_ble_eq_true rfl) (Nat.le_of_ble_eq_true rfl) (by decide) (c_Sl_at hSl0 (i := k) (by omega)) rfl ?_
  have hoK := (hv k (by omega)).1
  have hrK := (hv k (by omega)).2
  have hssKi := hss k
  have hpiKi := hpi k (by omega)
  refine mn_astore_n (ls' := [(0, .ref vs), (1, .int (nI k)), (2, .int 5), (3, .ref (z + 2 + 2 * pi k))]) dVS_slot_8 rfl (by decide) rfl ?_
  refine mn_aload_n 3 dVS_slot_9 rfl rfl ?_
  refine mn_ifnull dVS_slot_10 ?_
  refine mn_iload_n 2 dVS_slot_13 rfl rfl ?_
  refine mn_if_lt 22 dVS_slot_14 (by decide) (fun c1 => ?_) (fun c1 => ?_)
  · exact absurd c1 (by decide)
  · refine mn_iload_n 2 dVS_slot_17 rfl rfl ?_
    refine mn_iconst (v := 5) dVS_slot_18 (by decide) ?_
    refine mn_icmp_le 24 dVS_slot_19 (by decide) (fun c2 => ?_) (fun c2 => ?_)
    · refine mn_iload_n 2 dVS_slot_24 rfl rfl ?_
      refine mn_if_ne 33 dVS_slot_25 (by decide) (fun c3 => ?_) (fun c3 => ?_)
      · refine mn_iload_n 2 dVS_slot_33 rfl rfl ?_
        refine mn_iconst (v := 5) dVS_slot_34 (by decide) ?_
        refine mn_icmp_ne 55 dVS_slot_35 (by decide) (fun c4 => ?_) (fun c4 => ?_)
        · exact absurd c4 (by decide)
        · refine mn_aload_n 3 dVS_slot_38 rfl rfl ?_
          refine mn_get okVo 1 lVS_137 (by decide) hoK rfl dVS_slot_39 ?_
          refine mn_if_ne 50 dVS_slot_42 (by decide) (fun c5 => ?_) (fun c5 => ?_)
          · have c5 := mt (nI_eq (a := (ss k)) (b := 0) (by omega) (by omega)).mpr c5
            refine mn_aload_n 3 dVS_slot_50 rfl rfl ?_
            refine mn_get okVo 1 lVS_137 (by decide) hoK rfl dVS_slot_51 ?_
            exact mn_iret rfl dVS_slot_54 ⟨rfl, rfl⟩
          · have c5 := (nI_eq (a := (ss k)) (b := 0) (by omega) (by omega)).mp c5
            refine mn_bipush (v := (-2)) dVS_slot_45 (by decide) ?_
            refine mn_goto 54 dVS_slot_47 (by decide) ?_
            exact mn_iret rfl dVS_slot_54 (absurd c5 h0)
      · exact absurd c3 (by decide)
    · exact absurd c2 (by decide)
set_option maxRecDepth 100000 in
theorem c_VS_slot1y {E : mn_En} {g : mn_H} {vs t s u y z rd op : Nat} (hL : Lay vs t s u y z rd op) (hV : mn_at g vs (.inr (10, [.ref t, .ref s, .ref u, .ref y, .ref z, .ref rd, .ref op]))) {pi ss : Nat → Nat} {sb : Nat → Nat → Nat} (hSl : SlP g z pi ss sb) {k : Nat} (hk : k < 60) (hh0 : hdN (sb k) (ss k)) : mn_R E MVS_slot 4 88 0 0 0 [(0, .ref vs), (1, .int (nI k)), (2, .int 1)] [] g (mn_is (some (.int (nI (sb k 2)))) g) := by
  obtain ⟨l1, l2, l3, l4, l5, l6, l7⟩ := hL
  have hSl0 := hSl
  obtain ⟨hz, hzr, hv, hpi, hpj, hss, hsb⟩ := id hSl
  refine mn_aload_n 0 dVS_slot_0 rfl rfl ?_
  refine mn_get okVS 4 lVS_40 (by decide) hV rfl dVS_slot_1 ?_
  refine mn_iload_n 1 dVS_slot_4 rfl rfl ?_
  refine mn_cV (d' := 0) (w' := 0) (As := [.int (nI k)]) (stk' := [.ref (z + 2 + 2 * pi k)]) okSl_at lVS_133 dVS_slot_5 hz rfl rfl rfl rfl (Nat.le_of_ble_eq_true rfl) (Nat.le_of_ble_eq_true rfl) (by decide) (c_Sl_at hSl0 (i := k) (by omega)) rfl ?_
  have hoK := (hv k (by omega)).1
  have hrK := (hv k (by omega)).2
  have hssKi := hss k
  have hpiKi := hpi k (by omega)
  refine mn_astore_n (ls' := [(0, .ref vs), (1, .int (nI k)), (2, .int 1), (3, .ref (z + 2 + 2 * pi k))]) dVS_slot_8 rfl (by decide) rfl ?_
  refine mn_aload_n 3 dVS_slot_9 rfl rfl ?_
  refine mn_ifnull dVS_slot_10 ?_
  refine mn_iload_n 2 dVS_slot_13 rfl rfl ?_
  refine mn_if_lt 22 dVS_slot_14 (by decide) (fun c1 => ?_) (fun c1 => ?_)
  · exact absurd c1 (by decide)
  · refine mn_iload_n 2 dVS_slot_17 rfl rfl ?_
    refine mn_iconst (v := 5) dVS_slot_18 (by decide) ?_
    refine mn_icmp_le 24 dVS_slot_19 (by decide) (fun c2 => ?_) (fun c2 => ?_)
    · refine mn_iload_n 2 dVS_slot_24 rfl rfl ?_
      refine mn_if_ne 33 dVS_slot_25 (by decide) (fun c3 => ?_) (fun c3 => ?_)
      · refine mn_iload_n 2 dVS_slot_33 rfl rfl ?_
        refine mn_iconst (v := 5) dVS_slot_34 (by decide) ?_
        refine mn_icmp_ne 55 dVS_slot_35 (by decide) (fun c4 => ?_) (fun c4 => ?_)
        · refine mn_aload_n 3 dVS_slot_55 rfl rfl ?_
          refine mn_cV (d' := 2) (w' := 45) (As := []) (stk' := [.int (hh (fun j => nI (sb k j)) (ss k))]) okVo_hasHead lVS_152 dVS_slot_56 hoK rfl rfl rfl rfl (Nat.le_of_ble_eq_true rfl) (Nat.le_of_ble_eq_true rfl) (by decide) (c_V_hasHead hoK hrK (by omega)) rfl ?_
          refine mn_if_eq 74 dVS_slot_59 (by decide) (fun c5 => ?_) (fun c5 => ?_)
          · refine mn_bipush (v := (-2)) dVS_slot_74 (by decide) ?_
            exact mn_iret rfl dVS_slot_76 (absurd c5 (by rw [hh_nI (hsb k), if_pos hh0]; decide))
          · refine mn_aload_n 3 dVS_slot_62 rfl rfl ?_
            refine mn_iconst (v := 2) dVS_slot_63 (by decide) ?_
            refine mn_iload_n 2 dVS_slot_64 rfl rfl ?_
            refine mn_iadd (z := 3) dVS_slot_65 (by decide) ?_
            refine mn_iconst (v := 1) dVS_slot_66 (by decide) ?_
            refine mn_isub (z := 2) dVS_slot_67 (by decide) ?_
            refine mn_cV (d' := 0) (w' := 0) (As := [.int 2]) (stk' := [.int (nI (sb k 2))]) okVo_byteAt lVS_112 dVS_slot_68 hoK rfl rfl rfl rfl (Nat.le_of_ble_eq_true rfl) (Nat.le_of_ble_eq_true rfl) (by decide) (c_V_byteAt hoK hrK (j := 2) (by omega)) rfl ?_
            refine mn_goto 76 dVS_slot_71 (by decide) ?_
            exact mn_iret rfl dVS_slot_76 ⟨rfl, rfl⟩
        · exact absurd c4 (by decide)
      · exact absurd c3 (by decide)
    · exact absurd c2 (by decide)
set_option maxRecDepth 100000 in
theorem c_VS_slot1n {E : mn_En} {g : mn_H} {vs t s u y z rd op : Nat} (hL : Lay vs t s u y z rd op) (hV : mn_at g vs (.inr (10, [.ref t, .ref s, .ref u, .ref y, .ref z, .ref rd, .ref op]))) {pi ss : Nat → Nat} {sb : Nat → Nat → Nat} (hSl : SlP g z pi ss sb) {k : Nat} (hk : k < 60) (hh0 : ¬ hdN (sb k) (ss k)) : mn_R E MVS_slot 4 88 0 0 0 [(0, .ref vs), (1, .int (nI k)), (2, .int 1)] [] g (mn_is (some (.int (-2))) g) := by
  obtain ⟨l1, l2, l3, l4, l5, l6, l7⟩ := hL
  have hSl0 := hSl
  obtain ⟨hz, hzr, hv, hpi, hpj, hss, hsb⟩ := id hSl
  refine mn_aload_n 0 dVS_slot_0 rfl rfl ?_
  refine mn_get okVS 4 lVS_40 (by decide) hV rfl dVS_slot_1 ?_
  refine mn_iload_n 1 dVS_slot_4 rfl rfl ?_
  refine mn_cV (d' := 0) (w' := 0) (As := [.int (nI k)]) (stk' := [.ref (z + 2 + 2 * pi k)]) okSl_at lVS_133 dVS_slot_5 hz rfl rfl rfl rfl (Nat.le_of_ble_eq_true rfl) (Nat.le_of_ble_eq_true rfl) (by decide) (c_Sl_at hSl0 (i := k) (by omega)) rfl ?_
  have hoK := (hv k (by omega)).1
  have hrK := (hv k (by omega)).2
  have hssKi := hss k
  have hpiKi := hpi k (by omega)
  refine mn_astore_n (ls' := [(0, .ref vs), (1, .int (nI k)), (2, .int 1), (3, .ref (z + 2 + 2 * pi k))]) dVS_slot_8 rfl (by decide) rfl ?_
  refine mn_aload_n 3 dVS_slot_9 rfl rfl ?_
  refine mn_ifnull dVS_slot_10 ?_
  refine mn_iload_n 2 dVS_slot_13 rfl rfl ?_
  refine mn_if_lt 22 dVS_slot_14 (by decide) (fun c1 => ?_) (fun c1 => ?_)
  · exact absurd c1 (by decide)
  · refine mn_iload_n 2 dVS_slot_17 rfl rfl ?_
    refine mn_iconst (v := 5) dVS_slot_18 (by decide) ?_
    refine mn_icmp_le 24 dVS_slot_19 (by decide) (fun c2 => ?_) (fun c2 => ?_)
    · refine mn_iload_n 2 dVS_slot_24 rfl rfl ?_
      refine mn_if_ne 33 dVS_slot_25 (by decide) (fun c3 => ?_) (fun c3 => ?_)
      · refine mn_iload_n 2 dVS_slot_33 rfl rfl ?_
        refine mn_iconst (v := 5) dVS_slot_34 (by decide) ?_
        refine mn_icmp_ne 55 dVS_slot_35 (by decide) (fun c4 => ?_) (fun c4 => ?_)
        · refine mn_aload_n 3 dVS_slot_55 rfl rfl ?_
          refine mn_cV (d' := 2) (w' := 45) (As := []) (stk' := [.int (hh (fun j => nI (sb k j)) (ss k))]) okVo_hasHead lVS_152 dVS_slot_56 hoK rfl rfl rfl rfl (Nat.le_of_ble_eq_true rfl) (Nat.le_of_ble_eq_true rfl) (by decide) (c_V_hasHead hoK hrK (by omega)) rfl ?_
          refine mn_if_eq 74 dVS_slot_59 (by decide) (fun c5 => ?_) (fun c5 => ?_)
          · refine mn_bipush (v := (-2)) dVS_slot_74 (by decide) ?_
            exact mn_iret rfl dVS_slot_76 ⟨rfl, rfl⟩
          · refine mn_aload_n 3 dVS_slot_62 rfl rfl ?_
            refine mn_iconst (v := 2) dVS_slot_63 (by decide) ?_
            refine mn_iload_n 2 dVS_slot_64 rfl rfl ?_
            refine mn_iadd (z := 3) dVS_slot_65 (by decide) ?_
            refine mn_iconst (v := 1) dVS_slot_66 (by decide) ?_
            refine mn_isub (z := 2) dVS_slot_67 (by decide) ?_
            refine mn_cV (d' := 0) (w' := 0) (As := [.int 2]) (stk' := [.int (nI (sb k 2))]) okVo_byteAt lVS_112 dVS_slot_68 hoK rfl rfl rfl rfl (Nat.le_of_ble_eq_true rfl) (Nat.le_of_ble_eq_true rfl) (by decide) (c_V_byteAt hoK hrK (j := 2) (by omega)) rfl ?_
            refine mn_goto 76 dVS_slot_71 (by decide) ?_
            exact mn_iret rfl dVS_slot_76 (absurd (by rw [hh_nI (hsb k), if_neg hh0]) c5)
        · exact absurd c4 (by decide)
      · exact absurd c3 (by decide)
    · exact absurd c2 (by decide)
set_option maxRecDepth 100000 in
theorem c_VS_slot2y {E : mn_En} {g : mn_H} {vs t s u y z rd op : Nat} (hL : Lay vs t s u y z rd op) (hV : mn_at g vs (.inr (10, [.ref t, .ref s, .ref u, .ref y, .ref z, .ref rd, .ref op]))) {pi ss : Nat → Nat} {sb : Nat → Nat → Nat} (hSl : SlP g z pi ss sb) {k : Nat} (hk : k < 60) (hh0 : hdN (sb k) (ss k)) : mn_R E MVS_slot 4 88 0 0 0 [(0, .ref vs), (1, .int (nI k)), (2, .int 2)] [] g (mn_is (some (.int (nI (sb k 3)))) g) := by
  obtain ⟨l1, l2, l3, l4, l5, l6, l7⟩ := hL
  have hSl0 := hSl
  obtain ⟨hz, hzr, hv, hpi, hpj, hss, hsb⟩ := id hSl
  refine mn_aload_n 0 dVS_slot_0 rfl rfl ?_
  refine mn_get okVS 4 lVS_40 (by decide) hV rfl dVS_slot_1 ?_
  refine mn_iload_n 1 dVS_slot_4 rfl rfl ?_
  refine mn_cV (d' := 0) (w' := 0) (As := [.int (nI k)]) (stk' := [.ref (z + 2 + 2 * pi k)]) okSl_at lVS_133 dVS_slot_5 hz rfl rfl rfl rfl (Nat.le_of_ble_eq_true rfl) (Nat.le_of_ble_eq_true rfl) (by decide) (c_Sl_at hSl0 (i := k) (by omega)) rfl ?_
  have hoK := (hv k (by omega)).1
  have hrK := (hv k (by omega)).2
  have hssKi := hss k
  have hpiKi := hpi k (by omega)
  refine mn_astore_n (ls' := [(0, .ref vs), (1, .int (nI k)), (2, .int 2), (3, .ref (z + 2 + 2 * pi k))]) dVS_slot_8 rfl (by decide) rfl ?_
  refine mn_aload_n 3 dVS_slot_9 rfl rfl ?_
  refine mn_ifnull dVS_slot_10 ?_
  refine mn_iload_n 2 dVS_slot_13 rfl rfl ?_
  refine mn_if_lt 22 dVS_slot_14 (by decide) (fun c1 => ?_) (fun c1 => ?_)
  · exact absurd c1 (by decide)
  · refine mn_iload_n 2 dVS_slot_17 rfl rfl ?_
    refine mn_iconst (v := 5) dVS_slot_18 (by decide) ?_
    refine mn_icmp_le 24 dVS_slot_19 (by decide) (fun c2 => ?_) (fun c2 => ?_)
    · refine mn_iload_n 2 dVS_slot_24 rfl rfl ?_
      refine mn_if_ne 33 dVS_slot_25 (by decide) (fun c3 => ?_) (fun c3 => ?_)
      · refine mn_iload_n 2 dVS_slot_33 rfl rfl ?_
        refine mn_iconst (v := 5) dVS_slot_34 (by decide) ?_
        refine mn_icmp_ne 55 dVS_slot_35 (by decide) (fun c4 => ?_) (fun c4 => ?_)
        · refine mn_aload_n 3 dVS_slot_55 rfl rfl ?_
          refine mn_cV (d' := 2) (w' := 45) (As := []) (stk' := [.int (hh (fun j => nI (sb k j)) (ss k))]) okVo_hasHead lVS_152 dVS_slot_56 hoK rfl rfl rfl rfl (Nat.le_of_ble_eq_true rfl) (Nat.le_of_ble_eq_true rfl) (by decide) (c_V_hasHead hoK hrK (by omega)) rfl ?_
          refine mn_if_eq 74 dVS_slot_59 (by decide) (fun c5 => ?_) (fun c5 => ?_)
          · refine mn_bipush (v := (-2)) dVS_slot_74 (by decide) ?_
            exact mn_iret rfl dVS_slot_76 (absurd c5 (by rw [hh_nI (hsb k), if_pos hh0]; decide))
          · refine mn_aload_n 3 dVS_slot_62 rfl rfl ?_
            refine mn_iconst (v := 2) dVS_slot_63 (by decide) ?_
            refine mn_iload_n 2 dVS_slot_64 rfl rfl ?_
            refine mn_iadd (z := 4) dVS_slot_65 (by decide) ?_
            refine mn_iconst (v := 1) dVS_slot_66 (by decide) ?_
            refine mn_isub (z := 3) dVS_slot_67 (by decide) ?_
            refine mn_cV (d' := 0) (w' := 0) (As := [.int 3]) (stk' := [.int (nI (sb k 3))]) okVo_byteAt lVS_112 dVS_slot_68 hoK rfl rfl rfl rfl (Nat.le_of_ble_eq_true rfl) (Nat.le_of_ble_eq_true rfl) (by decide) (c_V_byteAt hoK hrK (j := 3) (by omega)) rfl ?_
            refine mn_goto 76 dVS_slot_71 (by decide) ?_
            exact mn_iret rfl dVS_slot_76 ⟨rfl, rfl⟩
        · exact absurd c4 (by decide)
      · exact absurd c3 (by decide)
    · exact absurd c2 (by decide)
set_option maxRecDepth 100000 in
theorem c_VS_slot2n {E : mn_En} {g : mn_H} {vs t s u y z rd op : Nat} (hL : Lay vs t s u y z rd op) (hV : mn_at g vs (.inr (10, [.ref t, .ref s, .ref u, .ref y, .ref z, .ref rd, .ref op]))) {pi ss : Nat → Nat} {sb : Nat → Nat → Nat} (hSl : SlP g z pi ss sb) {k : Nat} (hk : k < 60) (hh0 : ¬ hdN (sb k) (ss k)) : mn_R E MVS_slot 4 88 0 0 0 [(0, .ref vs), (1, .int (nI k)), (2, .int 2)] [] g (mn_is (some (.int (-2))) g) := by
  obtain ⟨l1, l2, l3, l4, l5, l6, l7⟩ := hL
  have hSl0 := hSl
  obtain ⟨hz, hzr, hv, hpi, hpj, hss, hsb⟩ := id hSl
  refine mn_aload_n 0 dVS_slot_0 rfl rfl ?_
  refine mn_get okVS 4 lVS_40 (by decide) hV rfl dVS_slot_1 ?_
  refine mn_iload_n 1 dVS_slot_4 rfl rfl ?_
  refine mn_cV (d' := 0) (w' := 0) (As := [.int (nI k)]) (stk' := [.ref (z + 2 + 2 * pi k)]) okSl_at lVS_133 dVS_slot_5 hz rfl rfl rfl rfl (Nat.le_of_ble_eq_true rfl) (Nat.le_of_ble_eq_true rfl) (by decide) (c_Sl_at hSl0 (i := k) (by omega)) rfl ?_
  have hoK := (hv k (by omega)).1
  have hrK := (hv k (by omega)).2
  have hssKi := hss k
  have hpiKi := hpi k (by omega)
  refine mn_astore_n (ls' := [(0, .ref vs), (1, .int (nI k)), (2, .int 2), (3, .ref (z + 2 + 2 * pi k))]) dVS_slot_8 rfl (by decide) rfl ?_
  refine mn_aload_n 3 dVS_slot_9 rfl rfl ?_
  refine mn_ifnull dVS_slot_10 ?_
  refine mn_iload_n 2 dVS_slot_13 rfl rfl ?_
  refine mn_if_lt 22 dVS_slot_14 (by decide) (fun c1 => ?_) (fun c1 => ?_)
  · exact absurd c1 (by decide)
  · refine mn_iload_n 2 dVS_slot_17 rfl rfl ?_
    refine mn_iconst (v := 5) dVS_slot_18 (by decide) ?_
    refine mn_icmp_le 24 dVS_slot_19 (by decide) (fun c2 => ?_) (fun c2 => ?_)
    · refine mn_iload_n 2 dVS_slot_24 rfl rfl ?_
      refine mn_if_ne 33 dVS_slot_25 (by decide) (fun c3 => ?_) (fun c3 => ?_)
      · refine mn_iload_n 2 dVS_slot_33 rfl rfl ?_
        refine mn_iconst (v := 5) dVS_slot_34 (by decide) ?_
        refine mn_icmp_ne 55 dVS_slot_35 (by decide) (fun c4 => ?_) (fun c4 => ?_)
        · refine mn_aload_n 3 dVS_slot_55 rfl rfl ?_
          refine mn_cV (d' := 2) (w' := 45) (As := []) (stk' := [.int (hh (fun j => nI (sb k j)) (ss k))]) okVo_hasHead lVS_152 dVS_slot_56 hoK rfl rfl rfl rfl (Nat.le_of_ble_eq_true rfl) (Nat.le_of_ble_eq_true rfl) (by decide) (c_V_hasHead hoK hrK (by omega)) rfl ?_
          refine mn_if_eq 74 dVS_slot_59 (by decide) (fun c5 => ?_) (fun c5 => ?_)
          · refine mn_bipush (v := (-2)) dVS_slot_74 (by decide) ?_
            exact mn_iret rfl dVS_slot_76 ⟨rfl, rfl⟩
          · refine mn_aload_n 3 dVS_slot_62 rfl rfl ?_
            refine mn_iconst (v := 2) dVS_slot_63 (by decide) ?_
            refine mn_iload_n 2 dVS_slot_64 rfl rfl ?_
            refine mn_iadd (z := 4) dVS_slot_65 (by decide) ?_
            refine mn_iconst (v := 1) dVS_slot_66 (by decide) ?_
            refine mn_isub (z := 3) dVS_slot_67 (by decide) ?_
            refine mn_cV (d' := 0) (w' := 0) (As := [.int 3]) (stk' := [.int (nI (sb k 3))]) okVo_byteAt lVS_112 dVS_slot_68 hoK rfl rfl rfl rfl (Nat.le_of_ble_eq_true rfl) (Nat.le_of_ble_eq_true rfl) (by decide) (c_V_byteAt hoK hrK (j := 3) (by omega)) rfl ?_
            refine mn_goto 76 dVS_slot_71 (by decide) ?_
            exact mn_iret rfl dVS_slot_76 (absurd (by rw [hh_nI (hsb k), if_neg hh0]) c5)
        · exact absurd c4 (by decide)
      · exact absurd c3 (by decide)
    · exact absurd c2 (by decide)
set_option maxRecDepth 100000 in
theorem c_VS_slot3y {E : mn_En} {g : mn_H} {vs t s u y z rd op : Nat} (hL : Lay vs t s u y z rd op) (hV : mn_at g vs (.inr (10, [.ref t, .ref s, .ref u, .ref y, .ref z, .ref rd, .ref op]))) {pi ss : Nat → Nat} {sb : Nat → Nat → Nat} (hSl : SlP g z pi ss sb) {k : Nat} (hk : k < 60) (hh0 : hdN (sb k) (ss k)) : mn_R E MVS_slot 4 88 0 0 0 [(0, .ref vs), (1, .int (nI k)), (2, .int 3)] [] g (mn_is (some (.int (nI (sb k 4)))) g) := by
  obtain ⟨l1, l2, l3, l4, l5, l6, l7⟩ := hL
  have hSl0 := hSl
  obtain ⟨hz, hzr, hv, hpi, hpj, hss, hsb⟩ := id hSl
  refine mn_aload_n 0 dVS_slot_0 rfl rfl ?_
  refine mn_get okVS 4 lVS_40 (by decide) hV rfl dVS_slot_1 ?_
  refine mn_iload_n 1 dVS_slot_4 rfl rfl ?_
  refine mn_cV (d' := 0) (w' := 0) (As := [.int (nI k)]) (stk' := [.ref (z + 2 + 2 * pi k)]) okSl_at lVS_133 dVS_slot_5 hz rfl rfl rfl rfl (Nat.le_of_ble_eq_true rfl) (Nat.le_of_ble_eq_true rfl) (by decide) (c_Sl_at hSl0 (i := k) (by omega)) rfl ?_
  have hoK := (hv k (by omega)).1
  have hrK := (hv k (by omega)).2
  have hssKi := hss k
  have hpiKi := hpi k (by omega)
  refine mn_astore_n (ls' := [(0, .ref vs), (1, .int (nI k)), (2, .int 3), (3, .ref (z + 2 + 2 * pi k))]) dVS_slot_8 rfl (by decide) rfl ?_
  refine mn_aload_n 3 dVS_slot_9 rfl rfl ?_
  refine mn_ifnull dVS_slot_10 ?_
  refine mn_iload_n 2 dVS_slot_13 rfl rfl ?_
  refine mn_if_lt 22 dVS_slot_14 (by decide) (fun c1 => ?_) (fun c1 => ?_)
  · exact absurd c1 (by decide)
  · refine mn_iload_n 2 dVS_slot_17 rfl rfl ?_
    refine mn_iconst (v := 5) dVS_slot_18 (by decide) ?_
    refine mn_icmp_le 24 dVS_slot_19 (by decide) (fun c2 => ?_) (fun c2 => ?_)
    · refine mn_iload_n 2 dVS_slot_24 rfl rfl ?_
      refine mn_if_ne 33 dVS_slot_25 (by decide) (fun c3 => ?_) (fun c3 => ?_)
      · refine mn_iload_n 2 dVS_slot_33 rfl rfl ?_
        refine mn_iconst (v := 5) dVS_slot_34 (by decide) ?_
        refine mn_icmp_ne 55 dVS_slot_35 (by decide) (fun c4 => ?_) (fun c4 => ?_)
        · refine mn_aload_n 3 dVS_slot_55 rfl rfl ?_
          refine mn_cV (d' := 2) (w' := 45) (As := []) (stk' := [.int (hh (fun j => nI (sb k j)) (ss k))]) okVo_hasHead lVS_152 dVS_slot_56 hoK rfl rfl rfl rfl (Nat.le_of_ble_eq_true rfl) (Nat.le_of_ble_eq_true rfl) (by decide) (c_V_hasHead hoK hrK (by omega)) rfl ?_
          refine mn_if_eq 74 dVS_slot_59 (by decide) (fun c5 => ?_) (fun c5 => ?_)
          · refine mn_bipush (v := (-2)) dVS_slot_74 (by decide) ?_
            exact mn_iret rfl dVS_slot_76 (absurd c5 (by rw [hh_nI (hsb k), if_pos hh0]; decide))
          · refine mn_aload_n 3 dVS_slot_62 rfl rfl ?_
            refine mn_iconst (v := 2) dVS_slot_63 (by decide) ?_
            refine mn_iload_n 2 dVS_slot_64 rfl rfl ?_
            refine mn_iadd (z := 5) dVS_slot_65 (by decide) ?_
            refine mn_iconst (v := 1) dVS_slot_66 (by decide) ?_
            refine mn_isub (z := 4) dVS_slot_67 (by decide) ?_
            refine mn_cV (d' := 0) (w' := 0) (As := [.int 4]) (stk' := [.int (nI (sb k 4))]) okVo_byteAt lVS_112 dVS_slot_68 hoK rfl rfl rfl rfl (Nat.le_of_ble_eq_true rfl) (Nat.le_of_ble_eq_true rfl) (by decide) (c_V_byteAt hoK hrK (j := 4) (by omega)) rfl ?_
            refine mn_goto 76 dVS_slot_71 (by decide) ?_
            exact mn_iret rfl dVS_slot_76 ⟨rfl, rfl⟩
        · exact absurd c4 (by decide)
      · exact absurd c3 (by decide)
    · exact absurd c2 (by decide)
set_option maxRecDepth 100000 in
theorem c_VS_slot3n {E : mn_En} {g : mn_H} {vs t s u y z rd op : Nat} (hL : Lay vs t s u y z rd op) (hV : mn_at g vs (.inr (10, [.ref t, .ref s, .ref u, .ref y, .ref z, .ref rd, .ref op]))) {pi ss : Nat → Nat} {sb : Nat → Nat → Nat} (hSl : SlP g z pi ss sb) {k : Nat} (hk : k < 60) (hh0 : ¬ hdN (sb k) (ss k)) : mn_R E MVS_slot 4 88 0 0 0 [(0, .ref vs), (1, .int (nI k)), (2, .int 3)] [] g (mn_is (some (.int (-2))) g) := by
  obtain ⟨l1, l2, l3, l4, l5, l6, l7⟩ := hL
  have hSl0 := hSl
  obtain ⟨hz, hzr, hv, hpi, hpj, hss, hsb⟩ := id hSl
  refine mn_aload_n 0 dVS_slot_0 rfl rfl ?_
  refine mn_get okVS 4 lVS_40 (by decide) hV rfl dVS_slot_1 ?_
  refine mn_iload_n 1 dVS_slot_4 rfl rfl ?_
  refine mn_cV (d' := 0) (w' := 0) (As := [.int (nI k)]) (stk' := [.ref (z + 2 + 2 * pi k)]) okSl_at lVS_133 dVS_slot_5 hz rfl rfl rfl rfl (Nat.le_of_ble_eq_true rfl) (Nat.le_of_ble_eq_true rfl) (by decide) (c_Sl_at hSl0 (i := k) (by omega)) rfl ?_
  have hoK := (hv k (by omega)).1
  have hrK := (hv k (by omega)).2
  have hssKi := hss k
  have hpiKi := hpi k (by omega)
  refine mn_astore_n (ls' := [(0, .ref vs), (1, .int (nI k)), (2, .int 3), (3, .ref (z + 2 + 2 * pi k))]) dVS_slot_8 rfl (by decide) rfl ?_
  refine mn_aload_n 3 dVS_slot_9 rfl rfl ?_
  refine mn_ifnull dVS_slot_10 ?_
  refine mn_iload_n 2 dVS_slot_13 rfl rfl ?_
  refine mn_if_lt 22 dVS_slot_14 (by decide) (fun c1 => ?_) (fun c1 => ?_)
  · exact absurd c1 (by decide)
  · refine mn_iload_n 2 dVS_slot_17 rfl rfl ?_
    refine mn_iconst (v := 5) dVS_slot_18 (by decide) ?_
    refine mn_icmp_le 24 dVS_slot_19 (by decide) (fun c2 => ?_) (fun c2 => ?_)
    · refine mn_iload_n 2 dVS_slot_24 rfl rfl ?_
      refine mn_if_ne 33 dVS_slot_25 (by decide) (fun c3 => ?_) (fun c3 => ?_)
      · refine mn_iload_n 2 dVS_slot_33 rfl rfl ?_
        refine mn_iconst (v := 5) dVS_slot_34 (by decide) ?_
        refine mn_icmp_ne 55 dVS_slot_35 (by decide) (fun c4 => ?_) (fun c4 => ?_)
        · refine mn_aload_n 3 dVS_slot_55 rfl rfl ?_
          refine mn_cV (d' := 2) (w' := 45) (As := []) (stk' := [.int (hh (fun j => nI (sb k j)) (ss k))]) okVo_hasHead lVS_152 dVS_slot_56 hoK rfl rfl rfl rfl (Nat.le_of_ble_eq_true rfl) (Nat.le_of_ble_eq_true rfl) (by decide) (c_V_hasHead hoK hrK (by omega)) rfl ?_
          refine mn_if_eq 74 dVS_slot_59 (by decide) (fun c5 => ?_) (fun c5 => ?_)
          · refine mn_bipush (v := (-2)) dVS_slot_74 (by decide) ?_
            exact mn_iret rfl dVS_slot_76 ⟨rfl, rfl⟩
          · refine mn_aload_n 3 dVS_slot_62 rfl rfl ?_
            refine mn_iconst (v := 2) dVS_slot_63 (by decide) ?_
            refine mn_iload_n 2 dVS_slot_64 rfl rfl ?_
            refine mn_iadd (z := 5) dVS_slot_65 (by decide) ?_
            refine mn_iconst (v := 1) dVS_slot_66 (by decide) ?_
            refine mn_isub (z := 4) dVS_slot_67 (by decide) ?_
            refine mn_cV (d' := 0) (w' := 0) (As := [.int 4]) (stk' := [.int (nI (sb k 4))]) okVo_byteAt lVS_112 dVS_slot_68 hoK rfl rfl rfl rfl (Nat.le_of_ble_eq_true rfl) (Nat.le_of_ble_eq_true rfl) (by decide) (c_V_byteAt hoK hrK (j := 4) (by omega)) rfl ?_
            refine mn_goto 76 dVS_slot_71 (by decide) ?_
            exact mn_iret rfl dVS_slot_76 (absurd (by rw [hh_nI (hsb k), if_neg hh0]) c5)
        · exact absurd c4 (by decide)
      · exact absurd c3 (by decide)
    · exact absurd c2 (by decide)
set_option maxRecDepth 100000 in
theorem c_VS_slot4y {E : mn_En} {g : mn_H} {vs t s u y z rd op : Nat} (hL : Lay vs t s u y z rd op) (hV : mn_at g vs (.inr (10, [.ref t, .ref s, .ref u, .ref y, .ref z, .ref rd, .ref op]))) {pi ss : Nat → Nat} {sb : Nat → Nat → Nat} (hSl : SlP g z pi ss sb) {k : Nat} (hk : k < 60) (hh0 : hdN (sb k) (ss k)) : mn_R E MVS_slot 4 88 0 0 0 [(0, .ref vs), (1, .int (nI k)), (2, .int 4)] [] g (mn_is (some (.int (nI (sb k 5)))) g) := by
  obtain ⟨l1, l2, l3, l4, l5, l6, l7⟩ := hL
  have hSl0 := hSl
  obtain ⟨hz, hzr, hv, hpi, hpj, hss, hsb⟩ := id hSl
  refine mn_aload_n 0 dVS_slot_0 rfl rfl ?_
  refine mn_get okVS 4 lVS_40 (by decide) hV rfl dVS_slot_1 ?_
  refine mn_iload_n 1 dVS_slot_4 rfl rfl ?_
  refine mn_cV (d' := 0) (w' := 0) (As := [.int (nI k)]) (stk' := [.ref (z + 2 + 2 * pi k)]) okSl_at lVS_133 dVS_slot_5 hz rfl rfl rfl rfl (Nat.le_of_ble_eq_true rfl) (Nat.le_of_ble_eq_true rfl) (by decide) (c_Sl_at hSl0 (i := k) (by omega)) rfl ?_
  have hoK := (hv k (by omega)).1
  have hrK := (hv k (by omega)).2
  have hssKi := hss k
  have hpiKi := hpi k (by omega)
  refine mn_astore_n (ls' := [(0, .ref vs), (1, .int (nI k)), (2, .int 4), (3, .ref (z + 2 + 2 * pi k))]) dVS_slot_8 rfl (by decide) rfl ?_
  refine mn_aload_n 3 dVS_slot_9 rfl rfl ?_
  refine mn_ifnull dVS_slot_10 ?_
  refine mn_iload_n 2 dVS_slot_13 rfl rfl ?_
  refine mn_if_lt 22 dVS_slot_14 (by decide) (fun c1 => ?_) (fun c1 => ?_)
  · exact absurd c1 (by decide)
  · refine mn_iload_n 2 dVS_slot_17 rfl rfl ?_
    refine mn_iconst (v := 5) dVS_slot_18 (by decide) ?_
    refine mn_icmp_le 24 dVS_slot_19 (by decide) (fun c2 => ?_) (fun c2 => ?_)
    · refine mn_iload_n 2 dVS_slot_24 rfl rfl ?_
      refine mn_if_ne 33 dVS_slot_25 (by decide) (fun c3 => ?_) (fun c3 => ?_)
      · refine mn_iload_n 2 dVS_slot_33 rfl rfl ?_
        refine mn_iconst (v := 5) dVS_slot_34 (by decide) ?_
        refine mn_icmp_ne 55 dVS_slot_35 (by decide) (fun c4 => ?_) (fun c4 => ?_)
        · refine mn_aload_n 3 dVS_slot_55 rfl rfl ?_
          refine mn_cV (d' := 2) (w' := 45) (As := []) (stk' := [.int (hh (fun j => nI (sb k j)) (ss k))]) okVo_hasHead lVS_152 dVS_slot_56 hoK rfl rfl rfl rfl (Nat.le_of_ble_eq_true rfl) (Nat.le_of_ble_eq_true rfl) (by decide) (c_V_hasHead hoK hrK (by omega)) rfl ?_
          refine mn_if_eq 74 dVS_slot_59 (by decide) (fun c5 => ?_) (fun c5 => ?_)
          · refine mn_bipush (v := (-2)) dVS_slot_74 (by decide) ?_
            exact mn_iret rfl dVS_slot_76 (absurd c5 (by rw [hh_nI (hsb k), if_pos hh0]; decide))
          · refine mn_aload_n 3 dVS_slot_62 rfl rfl ?_
            refine mn_iconst (v := 2) dVS_slot_63 (by decide) ?_
            refine mn_iload_n 2 dVS_slot_64 rfl rfl ?_
            refine mn_iadd (z := 6) dVS_slot_65 (by decide) ?_
            refine mn_iconst (v := 1) dVS_slot_66 (by decide) ?_
            refine mn_isub (z := 5) dVS_slot_67 (by decide) ?_
            refine mn_cV (d' := 0) (w' := 0) (As := [.int 5]) (stk' := [.int (nI (sb k 5))]) okVo_byteAt lVS_112 dVS_slot_68 hoK rfl rfl rfl rfl (Nat.le_of_ble_eq_true rfl) (Nat.le_of_ble_eq_true rfl) (by decide) (c_V_byteAt hoK hrK (j := 5) (by omega)) rfl ?_
            refine mn_goto 76 dVS_slot_71 (by decide) ?_
            exact mn_iret rfl dVS_slot_76 ⟨rfl, rfl⟩
        · exact absurd c4 (by decide)
      · exact absurd c3 (by decide)
    · exact absurd c2 (by decide)
set_option maxRecDepth 100000 in
theorem c_VS_slot4n {E : mn_En} {g : mn_H} {vs t s u y z rd op : Nat} (hL : Lay vs t s u y z rd op) (hV : mn_at g vs (.inr (10, [.ref t, .ref s, .ref u, .ref y, .ref z, .ref rd, .ref op]))) {pi ss : Nat → Nat} {sb : Nat → Nat → Nat} (hSl : SlP g z pi ss sb) {k : Nat} (hk : k < 60) (hh0 : ¬ hdN (sb k) (ss k)) : mn_R E MVS_slot 4 88 0 0 0 [(0, .ref vs), (1, .int (nI k)), (2, .int 4)] [] g (mn_is (some (.int (-2))) g) := by
  obtain ⟨l1, l2, l3, l4, l5, l6, l7⟩ := hL
  have hSl0 := hSl
  obtain ⟨hz, hzr, hv, hpi, hpj, hss, hsb⟩ := id hSl
  refine mn_aload_n 0 dVS_slot_0 rfl rfl ?_
  refine mn_get okVS 4 lVS_40 (by decide) hV rfl dVS_slot_1 ?_
  refine mn_iload_n 1 dVS_slot_4 rfl rfl ?_
  refine mn_cV (d' := 0) (w' := 0) (As := [.int (nI k)]) (stk' := [.ref (z + 2 + 2 * pi k)]) okSl_at lVS_133 dVS_slot_5 hz rfl rfl rfl rfl (Nat.le_of_ble_eq_true rfl) (Nat.le_of_ble_eq_true rfl) (by decide) (c_Sl_at hSl0 (i := k) (by omega)) rfl ?_
  have hoK := (hv k (by omega)).1
  have hrK := (hv k (by omega)).2
  have hssKi := hss k
  have hpiKi := hpi k (by omega)
  refine mn_astore_n (ls' := [(0, .ref vs), (1, .int (nI k)), (2, .int 4), (3, .ref (z + 2 + 2 * pi k))]) dVS_slot_8 rfl (by decide) rfl ?_
  refine mn_aload_n 3 dVS_slot_9 rfl rfl ?_
  refine mn_ifnull dVS_slot_10 ?_
  refine mn_iload_n 2 dVS_slot_13 rfl rfl ?_
  refine mn_if_lt 22 dVS_slot_14 (by decide) (fun c1 => ?_) (fun c1 => ?_)
  · exact absurd c1 (by decide)
  · refine mn_iload_n 2 dVS_slot_17 rfl rfl ?_
    refine mn_iconst (v := 5) dVS_slot_18 (by decide) ?_
    refine mn_icmp_le 24 dVS_slot_19 (by decide) (fun c2 => ?_) (fun c2 => ?_)
    · refine mn_iload_n 2 dVS_slot_24 rfl rfl ?_
      refine mn_if_ne 33 dVS_slot_25 (by decide) (fun c3 => ?_) (fun c3 => ?_)
      · refine mn_iload_n 2 dVS_slot_33 rfl rfl ?_
        refine mn_iconst (v := 5) dVS_slot_34 (by decide) ?_
        refine mn_icmp_ne 55 dVS_slot_35 (by decide) (fun c4 => ?_) (fun c4 => ?_)
        · refine mn_aload_n 3 dVS_slot_55 rfl rfl ?_
          refine mn_cV (d' := 2) (w' := 45) (As := []) (stk' := [.int (hh (fun j => nI (sb k j)) (ss k))]) okVo_hasHead lVS_152 dVS_slot_56 hoK rfl rfl rfl rfl (Nat.le_of_ble_eq_true rfl) (Nat.le_of_ble_eq_true rfl) (by decide) (c_V_hasHead hoK hrK (by omega)) rfl ?_
          refine mn_if_eq 74 dVS_slot_59 (by decide) (fun c5 => ?_) (fun c5 => ?_)
          · refine mn_bipush (v := (-2)) dVS_slot_74 (by decide) ?_
            exact mn_iret rfl dVS_slot_76 ⟨rfl, rfl⟩
          · refine mn_aload_n 3 dVS_slot_62 rfl rfl ?_
            refine mn_iconst (v := 2) dVS_slot_63 (by decide) ?_
            refine mn_iload_n 2 dVS_slot_64 rfl rfl ?_
            refine mn_iadd (z := 6) dVS_slot_65 (by decide) ?_
            refine mn_iconst (v := 1) dVS_slot_66 (by decide) ?_
            refine mn_isub (z := 5) dVS_slot_67 (by decide) ?_
            refine mn_cV (d' := 0) (w' := 0) (As := [.int 5]) (stk' := [.int (nI (sb k 5))]) okVo_byteAt lVS_112 dVS_slot_68 hoK rfl rfl rfl rfl (Nat.le_of_ble_eq_true rfl) (Nat.le_of_ble_eq_true rfl) (by decide) (c_V_byteAt hoK hrK (j := 5) (by omega)) rfl ?_
            refine mn_goto 76 dVS_slot_71 (by decide) ?_
            exact mn_iret rfl dVS_slot_76 (absurd (by rw [hh_nI (hsb k), if_neg hh0]) c5)
        · exact absurd c4 (by decide)
      · exact absurd c3 (by decide)
    · exact absurd c2 (by decide)
