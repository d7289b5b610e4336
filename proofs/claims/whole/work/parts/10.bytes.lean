set_option maxRecDepth 100000 in
theorem c_twice {E : mn_En} {g : mn_H} {x : Int32} : mn_R E MBy_twice 0 0 0 0 0 [(0, .int x)] [] g (mn_is (some (.int (tw x))) g) := by
  refine mn_iload_n 0 dBy_twice_0 rfl rfl ?_
  refine mn_iconst (v := 1) dBy_twice_1 (by decide) ?_
  refine mn_ishl (z := x <<< (1 &&& 31)) dBy_twice_2 rfl ?_
  refine mn_istore_n (ls' := [(0, .int x), (1, .int (x <<< (1 &&& 31)))]) dBy_twice_3 rfl (by decide) rfl ?_
  refine mn_iload_n 1 dBy_twice_4 rfl rfl ?_
  refine mn_sipush (v := 255) dBy_twice_5 (by decide) ?_
  refine mn_icmp_le 19 dBy_twice_8 (by decide) (fun c1 => ?_) (fun c1 => ?_)
  · refine mn_iload_n 1 dBy_twice_19 rfl rfl ?_
    exact mn_iret rfl dBy_twice_20 ⟨by unfold tw; first | rw [if_pos c1] | rw [if_neg c1], rfl⟩
  · refine mn_iload_n 1 dBy_twice_11 rfl rfl ?_
    refine mn_sipush (v := 285) dBy_twice_12 (by decide) ?_
    refine mn_ixor (z := (x <<< (1 &&& 31)) ^^^ 285) dBy_twice_15 rfl ?_
    refine mn_goto 20 dBy_twice_16 (by decide) ?_
    exact mn_iret rfl dBy_twice_20 ⟨by unfold tw; first | rw [if_pos c1] | rw [if_neg c1], rfl⟩
set_option maxRecDepth 100000 in
theorem c_sum_l {E : mn_En} {g : mn_H} {r n a b : Nat} {f : Nat → Int32} (hr : mn_at g r (.inl (0, n, .inl f))) (hb : b ≤ n) (hn : n < 2 ^ 31) : ∀ (fl i : Nat), a ≤ i → i ≤ b → b - i < fl → mn_R E MBy_sum 1 21 0 0 11 [(0, .ref r), (1, .int (nI a)), (2, .int (nI b)), (3, .int (su f a (i - a))), (4, .int (nI i))] [] g (mn_is (some (.int (su f a (b - a)))) g) := by
  intro fl
  induction fl with
  | zero => intro i h1 h2 h3; exact absurd h3 (by omega)
  | succ fl ih =>
    intro i h1 h2 h3
    refine mn_iload 4 dBy_sum_11 rfl ?_
    refine mn_iload_n 2 dBy_sum_13 rfl rfl ?_
    refine mn_icmp_ge 43 dBy_sum_14 (by decide) (fun c1 => ?_) (fun c1 => ?_)
    · have c1 := (nI_leI (a := b) (b := i) (by omega) (by omega)).mp c1
      refine mn_iload_n 3 dBy_sum_43 rfl rfl ?_
      exact mn_iret rfl dBy_sum_44 ⟨by rw [show i = b by omega], rfl⟩
    · have c1 := mt (nI_leI (a := b) (b := i) (by omega) (by omega)).mpr c1
      refine mn_iload 4 dBy_sum_17 rfl ?_
      refine mn_aload_n 0 dBy_sum_19 rfl rfl ?_
      refine mn_alen hr rfl dBy_sum_20 ?_
      refine mn_icmp_ge 43 dBy_sum_21 (by decide) (fun c2 => ?_) (fun c2 => ?_)
      · have c2 := (nI_leI (a := n) (b := i) (by omega) (by omega)).mp c2
        refine mn_iload_n 3 dBy_sum_43 rfl rfl ?_
        exact mn_iret rfl dBy_sum_44 ⟨by rw [show i = b by omega], rfl⟩
      · have c2 := mt (nI_leI (a := n) (b := i) (by omega) (by omega)).mpr c2
        refine mn_bipush (v := 33) dBy_sum_24 (by decide) ?_
        refine mn_iload_n 3 dBy_sum_26 rfl rfl ?_
        refine mn_imul (z := 33 * (su f a (i - a))) dBy_sum_27 rfl ?_
        refine mn_aload_n 0 dBy_sum_28 rfl rfl ?_
        refine mn_iload 4 dBy_sum_29 rfl ?_
        refine mn_ialdN (j := i) hr rfl (by omega) (by omega) dBy_sum_31 ?_
        refine mn_ixor (z := (33 * (su f a (i - a))) ^^^ (f i)) dBy_sum_32 rfl ?_
        refine mn_ldc (v := 65535) dBy_sum_33 lBy_13 ?_
        refine mn_iand (z := ((33 * (su f a (i - a))) ^^^ (f i)) &&& 65535) dBy_sum_35 rfl ?_
        refine mn_istore_n (ls' := [(0, .ref r), (1, .int (nI a)), (2, .int (nI b)), (3, .int (((33 * (su f a (i - a))) ^^^ (f i)) &&& 65535)), (4, .int (nI i))]) dBy_sum_36 rfl (by decide) rfl ?_
        refine mn_iinc (v := nI (i + 1)) (ls' := [(0, .ref r), (1, .int (nI a)), (2, .int (nI b)), (3, .int (((33 * (su f a (i - a))) ^^^ (f i)) &&& 65535)), (4, .int (nI (i + 1)))]) 4 dBy_sum_37 rfl (nI_add i 1) (by decide) rfl ?_
        refine mn_goto 11 dBy_sum_40 (by decide) ?_
        rw [show (((33 * (su f a (i - a))) ^^^ (f i)) &&& 65535) = su f a (i + 1 - a) by rw [show i + 1 - a = (i - a) + 1 by omega]; show _ = ((33 * su f a (i - a)) ^^^ f (a + (i - a))) &&& 65535; rw [show a + (i - a) = i by omega]]
        exact ih (i + 1) (by omega) (by omega) (by omega)
set_option maxRecDepth 100000 in
theorem c_sum {E : mn_En} {g : mn_H} {r n a b : Nat} {f : Nat → Int32} (hr : mn_at g r (.inl (0, n, .inl f))) (hb : b ≤ n) (hn : n < 2 ^ 31) (hab : a ≤ b) : mn_R E MBy_sum 1 21 0 0 0 [(0, .ref r), (1, .int (nI a)), (2, .int (nI b))] [] g (mn_is (some (.int (su f a (b - a)))) g) := by
  refine mn_sipush (v := 5381) dBy_sum_0 (by decide) ?_
  refine mn_istore_n (ls' := [(0, .ref r), (1, .int (nI a)), (2, .int (nI b)), (3, .int 5381)]) dBy_sum_3 rfl (by decide) rfl ?_
  refine mn_iconst (v := 0) dBy_sum_4 (by decide) ?_
  refine mn_iload_n 1 dBy_sum_5 rfl rfl ?_
  refine mn_max (z := nI a) (mn_max0 (by omega)) lBy_7 max_st math_ini max_code (Nat.le_of_ble_eq_true rfl) (by decide) (by decide) dBy_sum_6 ?_
  refine mn_istore (ls' := [(0, .ref r), (1, .int (nI a)), (2, .int (nI b)), (3, .int 5381), (4, .int (nI a))]) dBy_sum_9 (by decide) rfl ?_
  rw [show (5381 : Int32) = su f a (a - a) by rw [Nat.sub_self]; rfl]
  exact c_sum_l hr hb hn (b - a + 1) a (by omega) hab (by omega)
set_option maxRecDepth 100000 in
theorem c_product_l {E : mn_En} {g : mn_H} {x b : Int32} : ∀ (fl i : Nat), i ≤ 8 → 8 - i < fl → mn_R E MBy_product 1 21 0 0 7 [(0, .int x), (1, .int b), (2, .int (pds x b i)), (3, .int (tws x i)), (4, .int (nI i))] [] g (mn_is (some (.int (pds x b 8))) g) := by
  intro fl
  induction fl with
  | zero => intro i h1 h2; exact absurd h2 (by omega)
  | succ fl ih =>
    intro i h1 h2
    refine mn_iload 4 dBy_product_7 rfl ?_
    refine mn_bipush (v := 8) dBy_product_9 (by decide) ?_
    refine mn_icmp_ge 38 dBy_product_11 (by decide) (fun c1 => ?_) (fun c1 => ?_)
    · have c1 := (nI_leI (a := 8) (b := i) (by omega) (by omega)).mp c1
      refine mn_iload_n 2 dBy_product_38 rfl rfl ?_
      exact mn_iret rfl dBy_product_39 ⟨by rw [show i = 8 by omega], rfl⟩
    · have c1 := mt (nI_leI (a := 8) (b := i) (by omega) (by omega)).mpr c1
      refine mn_iload_n 1 dBy_product_14 rfl rfl ?_
      refine mn_iload 4 dBy_product_15 rfl ?_
      refine mn_iushr (z := (Int32.toUInt32 b >>> (Int32.toUInt32 (nI i) &&& Int32.toUInt32 31)).toInt32) dBy_product_17 rfl ?_
      refine mn_iconst (v := 1) dBy_product_18 (by decide) ?_
      refine mn_iand (z := ((Int32.toUInt32 b >>> (Int32.toUInt32 (nI i) &&& Int32.toUInt32 31)).toInt32) &&& 1) dBy_product_19 rfl ?_
      refine mn_if_eq 27 dBy_product_20 (by decide) (fun c2 => ?_) (fun c2 => ?_)
      · refine mn_iload_n 3 dBy_product_27 rfl rfl ?_
        refine mn_cS (As := [.int (tws x i)]) (stk' := [.int (tw (tws x i))]) okBy_twice lBy_16 dBy_product_28 rfl rfl (Nat.le_of_ble_eq_true rfl) (Nat.le_of_ble_eq_true rfl) (by decide) (c_twice) rfl ?_
        refine mn_istore_n (ls' := [(0, .int x), (1, .int b), (2, .int (pds x b i)), (3, .int (tw (tws x i))), (4, .int (nI i))]) dBy_product_31 rfl (by decide) rfl ?_
        refine mn_iinc (v := nI (i + 1)) (ls' := [(0, .int x), (1, .int b), (2, .int (pds x b i)), (3, .int (tw (tws x i))), (4, .int (nI (i + 1)))]) 4 dBy_product_32 rfl (nI_add i 1) (by decide) rfl ?_
        refine mn_goto 7 dBy_product_35 (by decide) ?_
        rw [show pds x b i = pds x b (i + 1) by show _ = (if vb_t b i = 0 then pds x b i else pds x b i ^^^ tws x i); first | exact (if_pos c2).symm | exact (if_neg c2).symm]
        exact ih (i + 1) (by omega) (by omega)
      · refine mn_iload_n 2 dBy_product_23 rfl rfl ?_
        refine mn_iload_n 3 dBy_product_24 rfl rfl ?_
        refine mn_ixor (z := (pds x b i) ^^^ (tws x i)) dBy_product_25 rfl ?_
        refine mn_istore_n (ls' := [(0, .int x), (1, .int b), (2, .int ((pds x b i) ^^^ (tws x i))), (3, .int (tws x i)), (4, .int (nI i))]) dBy_product_26 rfl (by decide) rfl ?_
        refine mn_iload_n 3 dBy_product_27 rfl rfl ?_
        refine mn_cS (As := [.int (tws x i)]) (stk' := [.int (tw (tws x i))]) okBy_twice lBy_16 dBy_product_28 rfl rfl (Nat.le_of_ble_eq_true rfl) (Nat.le_of_ble_eq_true rfl) (by decide) (c_twice) rfl ?_
        refine mn_istore_n (ls' := [(0, .int x), (1, .int b), (2, .int ((pds x b i) ^^^ (tws x i))), (3, .int (tw (tws x i))), (4, .int (nI i))]) dBy_product_31 rfl (by decide) rfl ?_
        refine mn_iinc (v := nI (i + 1)) (ls' := [(0, .int x), (1, .int b), (2, .int ((pds x b i) ^^^ (tws x i))), (3, .int (tw (tws x i))), (4, .int (nI (i + 1)))]) 4 dBy_product_32 rfl (nI_add i 1) (by decide) rfl ?_
        refine mn_goto 7 dBy_product_35 (by decide) ?_
        rw [show (pds x b i) ^^^ (tws x i) = pds x b (i + 1) by show _ = (if vb_t b i = 0 then pds x b i else pds x b i ^^^ tws x i); first | exact (if_pos c2).symm | exact (if_neg c2).symm]
        exact ih (i + 1) (by omega) (by omega)
set_option maxRecDepth 100000 in
theorem c_product {E : mn_En} {g : mn_H} {x b : Int32} : mn_R E MBy_product 1 21 0 0 0 [(0, .int x), (1, .int b)] [] g (mn_is (some (.int (pds x b 8))) g) := by
  refine mn_iconst (v := 0) dBy_product_0 (by decide) ?_
  refine mn_istore_n (ls' := [(0, .int x), (1, .int b), (2, .int 0)]) dBy_product_1 rfl (by decide) rfl ?_
  refine mn_iload_n 0 dBy_product_2 rfl rfl ?_
  refine mn_istore_n (ls' := [(0, .int x), (1, .int b), (2, .int 0), (3, .int x)]) dBy_product_3 rfl (by decide) rfl ?_
  refine mn_iconst (v := 0) dBy_product_4 (by decide) ?_
  refine mn_istore (ls' := [(0, .int x), (1, .int b), (2, .int 0), (3, .int x), (4, .int 0)]) dBy_product_5 (by decide) rfl ?_
  exact c_product_l 9 0 (by omega) (by omega)
set_option maxRecDepth 100000 in
theorem c_raised_l {E : mn_En} {g : mn_H} {x : Int32} {n : Nat} (hn : n < 2 ^ 31) : ∀ (fl i : Nat), i ≤ n → n - i < fl → mn_R E MBy_raised 1 21 0 0 4 [(0, .int x), (1, .int (nI n)), (2, .int (tws x i)), (3, .int (nI i))] [] g (mn_is (some (.int (tws x n))) g) := by
  intro fl
  induction fl with
  | zero => intro i h1 h2; exact absurd h2 (by omega)
  | succ fl ih =>
    intro i h1 h2
    refine mn_iload_n 3 dBy_raised_4 rfl rfl ?_
    refine mn_iload_n 1 dBy_raised_5 rfl rfl ?_
    refine mn_icmp_ge 20 dBy_raised_6 (by decide) (fun c1 => ?_) (fun c1 => ?_)
    · have c1 := (nI_leI (a := n) (b := i) (by omega) (by omega)).mp c1
      refine mn_iload_n 2 dBy_raised_20 rfl rfl ?_
      exact mn_iret rfl dBy_raised_21 ⟨by rw [show i = n by omega], rfl⟩
    · have c1 := mt (nI_leI (a := n) (b := i) (by omega) (by omega)).mpr c1
      refine mn_iload_n 2 dBy_raised_9 rfl rfl ?_
      refine mn_cS (As := [.int (tws x i)]) (stk' := [.int (tw (tws x i))]) okBy_twice lBy_16 dBy_raised_10 rfl rfl (Nat.le_of_ble_eq_true rfl) (Nat.le_of_ble_eq_true rfl) (by decide) (c_twice) rfl ?_
      refine mn_istore_n (ls' := [(0, .int x), (1, .int (nI n)), (2, .int (tw (tws x i))), (3, .int (nI i))]) dBy_raised_13 rfl (by decide) rfl ?_
      refine mn_iinc (v := nI (i + 1)) (ls' := [(0, .int x), (1, .int (nI n)), (2, .int (tw (tws x i))), (3, .int (nI (i + 1)))]) 3 dBy_raised_14 rfl (nI_add i 1) (by decide) rfl ?_
      refine mn_goto 4 dBy_raised_17 (by decide) ?_
      exact ih (i + 1) (by omega) (by omega)
set_option maxRecDepth 100000 in
theorem c_raised {E : mn_En} {g : mn_H} {x : Int32} {n : Nat} (hn : n < 2 ^ 31) : mn_R E MBy_raised 1 21 0 0 0 [(0, .int x), (1, .int (nI n))] [] g (mn_is (some (.int (tws x n))) g) := by
  refine mn_iload_n 0 dBy_raised_0 rfl rfl ?_
  refine mn_istore_n (ls' := [(0, .int x), (1, .int (nI n)), (2, .int x)]) dBy_raised_1 rfl (by decide) rfl ?_
  refine mn_iconst (v := 0) dBy_raised_2 (by decide) ?_
  refine mn_istore_n (ls' := [(0, .int x), (1, .int (nI n)), (2, .int x), (3, .int 0)]) dBy_raised_3 rfl (by decide) rfl ?_
  exact c_raised_l hn (n + 1) 0 (by omega) (by omega)
set_option maxRecDepth 100000 in
theorem c_quotient {E : mn_En} {g : mn_H} {x y : Nat} (hx : x < 2 ^ 31) (hy : y < 2 ^ 31) : mn_R E MBy_quotient 0 0 0 0 0 [(0, .int (nI x)), (1, .int (nI y))] [] g (mn_is (some (.int (nI (x / y)))) g) := by
  refine mn_iload_n 1 dBy_quotient_0 rfl rfl ?_
  refine mn_if_gt 8 dBy_quotient_1 (by decide) (fun c1 => ?_) (fun c1 => ?_)
  · have c1 := (nI_ltI (a := 0) (b := y) (by omega) (by omega)).mp c1
    refine mn_iload_n 0 dBy_quotient_8 rfl rfl ?_
    refine mn_iload_n 1 dBy_quotient_9 rfl rfl ?_
    refine mn_idiv (z := nI (x / y)) dBy_quotient_10 (nI_ne0 (by omega) (by omega)) (pk_div (by omega) (by omega) (by omega)) ?_
    exact mn_iret rfl dBy_quotient_11 ⟨rfl, rfl⟩
  · have c1 := mt (nI_ltI (a := 0) (b := y) (by omega) (by omega)).mpr c1
    refine mn_iconst (v := 0) dBy_quotient_4 (by decide) ?_
    refine mn_goto 11 dBy_quotient_5 (by decide) ?_
    exact mn_iret rfl dBy_quotient_11 ⟨by rw [show y = 0 by omega, Nat.div_zero]; rfl, rfl⟩
