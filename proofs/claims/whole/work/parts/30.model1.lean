set_option maxRecDepth 100000 in
theorem c_M_in_y {E : mn_En} {g : mn_H} {x lo hi : Int32} (h1 : ¬ x < lo) (h2 : ¬ hi < x) : mn_R E MMo_in 0 0 0 0 0 [(0, .int x), (1, .int lo), (2, .int hi)] [] g (mn_is (some (.int 1)) g) := by
  refine mn_iload_n 0 dMo_in_0 rfl rfl ?_
  refine mn_iload_n 1 dMo_in_1 rfl rfl ?_
  refine mn_icmp_lt 14 dMo_in_2 (by decide) (fun c1 => ?_) (fun c1 => ?_)
  · refine mn_iconst (v := 0) dMo_in_14 (by decide) ?_
    exact mn_zret rfl rfl dMo_in_15 (absurd c1 h1)
  · refine mn_iload_n 0 dMo_in_5 rfl rfl ?_
    refine mn_iload_n 2 dMo_in_6 rfl rfl ?_
    refine mn_icmp_gt 14 dMo_in_7 (by decide) (fun c2 => ?_) (fun c2 => ?_)
    · refine mn_iconst (v := 0) dMo_in_14 (by decide) ?_
      exact mn_zret rfl rfl dMo_in_15 (absurd c2 h2)
    · refine mn_iconst (v := 1) dMo_in_10 (by decide) ?_
      refine mn_goto 15 dMo_in_11 (by decide) ?_
      exact mn_zret rfl rfl dMo_in_15 ⟨rfl, rfl⟩
set_option maxRecDepth 100000 in
theorem c_M_in_n {E : mn_En} {g : mn_H} {x lo hi : Int32} (h : x < lo ∨ hi < x) : mn_R E MMo_in 0 0 0 0 0 [(0, .int x), (1, .int lo), (2, .int hi)] [] g (mn_is (some (.int 0)) g) := by
  refine mn_iload_n 0 dMo_in_0 rfl rfl ?_
  refine mn_iload_n 1 dMo_in_1 rfl rfl ?_
  refine mn_icmp_lt 14 dMo_in_2 (by decide) (fun c1 => ?_) (fun c1 => ?_)
  · refine mn_iconst (v := 0) dMo_in_14 (by decide) ?_
    exact mn_zret rfl rfl dMo_in_15 ⟨rfl, rfl⟩
  · refine mn_iload_n 0 dMo_in_5 rfl rfl ?_
    refine mn_iload_n 2 dMo_in_6 rfl rfl ?_
    refine mn_icmp_gt 14 dMo_in_7 (by decide) (fun c2 => ?_) (fun c2 => ?_)
    · refine mn_iconst (v := 0) dMo_in_14 (by decide) ?_
      exact mn_zret rfl rfl dMo_in_15 ⟨rfl, rfl⟩
    · refine mn_iconst (v := 1) dMo_in_10 (by decide) ?_
      refine mn_goto 15 dMo_in_11 (by decide) ?_
      exact mn_zret rfl rfl dMo_in_15 (absurd h (fun q => q.elim c1 c2))
theorem ml_lt {a b : Nat} (ha : a < 2 ^ 31) (hb : b < 2 ^ 31) (h : a ≤ b) : ¬ nI b < nI a := fun q => by
  rw [nI_ltI hb ha] at q
  omega
set_option maxRecDepth 100000 in
theorem c_M_step {E : mn_En} {g : mn_H} {x y : Int32} : mn_R E MMo_step 0 0 0 0 0 [(0, .int x), (1, .int y)] [] g (mn_is (some (.int (((33 * x) ^^^ y) &&& 65535))) g) := by
  refine mn_bipush (v := 33) dMo_step_0 (by decide) ?_
  refine mn_iload_n 0 dMo_step_2 rfl rfl ?_
  refine mn_imul (z := 33 * x) dMo_step_3 rfl ?_
  refine mn_iload_n 1 dMo_step_4 rfl rfl ?_
  refine mn_ixor (z := (33 * x) ^^^ y) dMo_step_5 rfl ?_
  refine mn_ldc (v := 65535) dMo_step_6 lMo_72 ?_
  refine mn_iand (z := ((33 * x) ^^^ y) &&& 65535) dMo_step_8 rfl ?_
  exact mn_iret rfl dMo_step_9 ⟨rfl, rfl⟩
set_option maxRecDepth 100000 in
theorem c_M_sum_l {E : mn_En} {g : mn_H} {a N fr n : Nat} {f : Nat → Int32} (hr : mn_at g a (.inl (0, N, .inl f))) (hN : N < 2 ^ 31) (hfr : fr + n ≤ N) : ∀ (fu k : Nat), k ≤ n → n - k < fu → mn_R E MMo_sum 1 21 0 0 7 [(0, .ref a), (1, .int (nI fr)), (2, .int (nI n)), (3, .int (su f fr k)), (4, .int (nI k))] [] g (mn_is (some (.int (su f fr n))) g) := by
  intro fu
  induction fu with
  | zero => intro k h1 h2; exact absurd h2 (by omega)
  | succ fu ih =>
    intro k h1 h2
    refine mn_iload 4 dMo_sum_7 rfl ?_
    refine mn_iload_n 2 dMo_sum_9 rfl rfl ?_
    refine mn_icmp_ge 30 dMo_sum_10 (by decide) (fun c1 => ?_) (fun c1 => ?_)
    · have c1 := (nI_leI (a := n) (b := k) (by omega) (by omega)).mp c1
      refine mn_iload_n 3 dMo_sum_30 rfl rfl ?_
      exact mn_iret rfl dMo_sum_31 ⟨by rw [show k = n by omega], rfl⟩
    · have c1 := mt (nI_leI (a := n) (b := k) (by omega) (by omega)).mpr c1
      refine mn_iload_n 3 dMo_sum_13 rfl rfl ?_
      refine mn_aload_n 0 dMo_sum_14 rfl rfl ?_
      refine mn_iload_n 1 dMo_sum_15 rfl rfl ?_
      refine mn_iload 4 dMo_sum_16 rfl ?_
      refine mn_iadd (z := nI (fr + k)) dMo_sum_18 (nI_add fr k) ?_
      refine mn_ialdN (j := fr + k) hr rfl (by omega) (by omega) dMo_sum_19 ?_
      refine mn_cS (d' := 0) (w' := 0) (As := [.int (su f fr k), .int (f (fr + k))]) (stk' := [.int (((33 * (su f fr k)) ^^^ (f (fr + k))) &&& 65535)]) okMo_step lMo_73 dMo_sum_20 rfl rfl (Nat.le_of_ble_eq_true rfl) (Nat.le_of_ble_eq_true rfl) (by decide) (c_M_step) rfl ?_
      refine mn_istore_n (ls' := [(0, .ref a), (1, .int (nI fr)), (2, .int (nI n)), (3, .int (((33 * (su f fr k)) ^^^ (f (fr + k))) &&& 65535)), (4, .int (nI k))]) dMo_sum_23 rfl (by decide) rfl ?_
      refine mn_iinc (v := nI (k + 1)) (ls' := [(0, .ref a), (1, .int (nI fr)), (2, .int (nI n)), (3, .int (((33 * (su f fr k)) ^^^ (f (fr + k))) &&& 65535)), (4, .int (nI (k + 1)))]) 4 dMo_sum_24 rfl (nI_add k 1) (by decide) rfl ?_
      refine mn_goto 7 dMo_sum_27 (by decide) ?_
      exact ih (k + 1) (by omega) (by omega)
set_option maxRecDepth 100000 in
theorem c_M_sum {E : mn_En} {g : mn_H} {a N fr n : Nat} {f : Nat → Int32} (hr : mn_at g a (.inl (0, N, .inl f))) (hN : N < 2 ^ 31) (hfr : fr + n ≤ N) : mn_R E MMo_sum 1 21 0 0 0 [(0, .ref a), (1, .int (nI fr)), (2, .int (nI n))] [] g (mn_is (some (.int (su f fr n))) g) := by
  refine mn_sipush (v := 5381) dMo_sum_0 (by decide) ?_
  refine mn_istore_n (ls' := [(0, .ref a), (1, .int (nI fr)), (2, .int (nI n)), (3, .int 5381)]) dMo_sum_3 rfl (by decide) rfl ?_
  refine mn_iconst (v := 0) dMo_sum_4 (by decide) ?_
  refine mn_istore (ls' := [(0, .ref a), (1, .int (nI fr)), (2, .int (nI n)), (3, .int 5381), (4, .int 0)]) dMo_sum_5 (by decide) rfl ?_
  exact c_M_sum_l hr hN hfr (n + 1) 0 (by omega) (by omega)
theorem c_M_sumN {E : mn_En} {g : mn_H} {a N fr n : Nat} {b : Nat → Nat} (hr : mn_at g a (.inl (0, N, .inl (fun j => nI (b j))))) (hN : N < 2 ^ 31) (hfr : fr + n ≤ N) : mn_R E MMo_sum 1 21 0 0 0 [(0, .ref a), (1, .int (nI fr)), (2, .int (nI n))] [] g (mn_is (some (.int (nI (suN b fr n)))) g) := by
  rw [← su_nI]
  exact c_M_sum hr hN hfr
set_option maxRecDepth 100000 in
theorem c_M_times_l {E : mn_En} {g : mn_H} {a b : Nat} (ha : a < 256) (hb : b < 256) : ∀ (fu k : Nat), k ≤ 8 → 8 - k < fu → mn_R E MMo_times 0 0 0 0 7 [(0, .int (nI a)), (1, .int (nI b)), (2, .int (nI (pdK a b k))), (3, .int (nI (twsN a k))), (4, .int (nI k))] [] g (mn_is (some (.int (nI (pdN a b)))) g) := by
  intro fu
  induction fu with
  | zero => intro k h1 h2; exact absurd h2 (by omega)
  | succ fu ih =>
    intro k h1 h2
    have hxl := (tws_nI ha k).2
    have hbl : (if b.testBit k then 1 else 0) < 2 := by split <;> decide
    refine mn_iload 4 dMo_times_7 rfl ?_
    refine mn_bipush (v := 8) dMo_times_9 (by decide) ?_
    refine mn_icmp_ge 61 dMo_times_11 (by decide) (fun c1 => ?_) (fun c1 => ?_)
    · have c1 := (nI_leI (a := 8) (b := k) (by omega) (by omega)).mp c1
      refine mn_iload_n 2 dMo_times_61 rfl rfl ?_
      exact mn_iret rfl dMo_times_62 ⟨by obtain rfl : k = 8 := (by omega); rfl, rfl⟩
    · have c1 := mt (nI_leI (a := 8) (b := k) (by omega) (by omega)).mpr c1
      refine mn_iload_n 1 dMo_times_14 rfl rfl ?_
      refine mn_iload 4 dMo_times_15 rfl ?_
      refine mn_ishr (z := (nI b) >>> ((nI k) &&& 31)) dMo_times_17 rfl ?_
      refine mn_iconst (v := 1) dMo_times_18 (by decide) ?_
      refine mn_iand (z := nI (if b.testBit k then 1 else 0)) dMo_times_19 (ml_bit b hb k (by omega)) ?_
      refine mn_iconst (v := 1) dMo_times_20 (by decide) ?_
      refine mn_icmp_ne 30 dMo_times_21 (by decide) (fun c2 => ?_) (fun c2 => ?_)
      · have c2 := mt (nI_eq (a := (if b.testBit k then 1 else 0)) (b := 1) (by omega) (by omega)).mpr c2
        have hbit : ¬ b.testBit k = true := fun q => c2 (by rw [if_pos q])
        refine mn_iload_n 2 dMo_times_30 rfl rfl ?_
        refine mn_istore_n (ls' := [(0, .int (nI a)), (1, .int (nI b)), (2, .int (nI (pdK a b k))), (3, .int (nI (twsN a k))), (4, .int (nI k))]) dMo_times_31 rfl (by decide) rfl ?_
        refine mn_iload_n 3 dMo_times_32 rfl rfl ?_
        refine mn_bipush (v := 127) dMo_times_33 (by decide) ?_
        refine mn_icmp_le 51 dMo_times_35 (by decide) (fun c3 => ?_) (fun c3 => ?_)
        · have c3 := (nI_leI (a := (twsN a k)) (b := 127) (by omega) (by omega)).mp c3
          refine mn_iload_n 3 dMo_times_51 rfl rfl ?_
          refine mn_iconst (v := 1) dMo_times_52 (by decide) ?_
          refine mn_ishl (z := nI (twN (twsN a k))) dMo_times_53 (ml_tw1 _ hxl c3) ?_
          refine mn_istore_n (ls' := [(0, .int (nI a)), (1, .int (nI b)), (2, .int (nI (pdK a b k))), (3, .int (nI (twN (twsN a k)))), (4, .int (nI k))]) dMo_times_54 rfl (by decide) rfl ?_
          refine mn_iinc (v := nI (k + 1)) (ls' := [(0, .int (nI a)), (1, .int (nI b)), (2, .int (nI (pdK a b k))), (3, .int (nI (twN (twsN a k)))), (4, .int (nI (k + 1)))]) 4 dMo_times_55 rfl (nI_add k 1) (by decide) rfl ?_
          refine mn_goto 7 dMo_times_58 (by decide) ?_
          rw [show pdK a b k = pdK a b (k + 1) by rw [pdK, if_neg hbit]]
          exact ih (k + 1) (by omega) (by omega)
        · have c3 := mt (nI_leI (a := (twsN a k)) (b := 127) (by omega) (by omega)).mpr c3
          refine mn_iload_n 3 dMo_times_38 rfl rfl ?_
          refine mn_iconst (v := 1) dMo_times_39 (by decide) ?_
          refine mn_ishl (z := nI (twsN a k) <<< ((1 : Int32) &&& 31)) dMo_times_40 rfl ?_
          refine mn_sipush (v := 255) dMo_times_41 (by decide) ?_
          refine mn_iand (z := (nI (twsN a k) <<< ((1 : Int32) &&& 31)) &&& 255) dMo_times_44 rfl ?_
          refine mn_bipush (v := 29) dMo_times_45 (by decide) ?_
          refine mn_ixor (z := nI (twN (twsN a k))) dMo_times_47 (ml_tw2 _ hxl c3) ?_
          refine mn_goto 54 dMo_times_48 (by decide) ?_
          refine mn_istore_n (ls' := [(0, .int (nI a)), (1, .int (nI b)), (2, .int (nI (pdK a b k))), (3, .int (nI (twN (twsN a k)))), (4, .int (nI k))]) dMo_times_54 rfl (by decide) rfl ?_
          refine mn_iinc (v := nI (k + 1)) (ls' := [(0, .int (nI a)), (1, .int (nI b)), (2, .int (nI (pdK a b k))), (3, .int (nI (twN (twsN a k)))), (4, .int (nI (k + 1)))]) 4 dMo_times_55 rfl (nI_add k 1) (by decide) rfl ?_
          refine mn_goto 7 dMo_times_58 (by decide) ?_
          rw [show pdK a b k = pdK a b (k + 1) by rw [pdK, if_neg hbit]]
          exact ih (k + 1) (by omega) (by omega)
      · have c2 := (nI_eq (a := (if b.testBit k then 1 else 0)) (b := 1) (by omega) (by omega)).mp c2
        have hbit : b.testBit k = true := Classical.byContradiction fun q => by rw [if_neg q] at c2; cases c2
        refine mn_iload_n 2 dMo_times_24 rfl rfl ?_
        refine mn_iload_n 3 dMo_times_25 rfl rfl ?_
        refine mn_ixor (z := nI ((pdK a b k) ^^^ (twsN a k))) dMo_times_26 (nx_xor (pdK a b k) (twsN a k)) ?_
        refine mn_goto 31 dMo_times_27 (by decide) ?_
        refine mn_istore_n (ls' := [(0, .int (nI a)), (1, .int (nI b)), (2, .int (nI ((pdK a b k) ^^^ (twsN a k)))), (3, .int (nI (twsN a k))), (4, .int (nI k))]) dMo_times_31 rfl (by decide) rfl ?_
        refine mn_iload_n 3 dMo_times_32 rfl rfl ?_
        refine mn_bipush (v := 127) dMo_times_33 (by decide) ?_
        refine mn_icmp_le 51 dMo_times_35 (by decide) (fun c4 => ?_) (fun c4 => ?_)
        · have c4 := (nI_leI (a := (twsN a k)) (b := 127) (by omega) (by omega)).mp c4
          refine mn_iload_n 3 dMo_times_51 rfl rfl ?_
          refine mn_iconst (v := 1) dMo_times_52 (by decide) ?_
          refine mn_ishl (z := nI (twN (twsN a k))) dMo_times_53 (ml_tw1 _ hxl c4) ?_
          refine mn_istore_n (ls' := [(0, .int (nI a)), (1, .int (nI b)), (2, .int (nI ((pdK a b k) ^^^ (twsN a k)))), (3, .int (nI (twN (twsN a k)))), (4, .int (nI k))]) dMo_times_54 rfl (by decide) rfl ?_
          refine mn_iinc (v := nI (k + 1)) (ls' := [(0, .int (nI a)), (1, .int (nI b)), (2, .int (nI ((pdK a b k) ^^^ (twsN a k)))), (3, .int (nI (twN (twsN a k)))), (4, .int (nI (k + 1)))]) 4 dMo_times_55 rfl (nI_add k 1) (by decide) rfl ?_
          refine mn_goto 7 dMo_times_58 (by decide) ?_
          rw [show pdK a b k ^^^ twsN a k = pdK a b (k + 1) by rw [pdK, if_pos hbit]]
          exact ih (k + 1) (by omega) (by omega)
        · have c4 := mt (nI_leI (a := (twsN a k)) (b := 127) (by omega) (by omega)).mpr c4
          refine mn_iload_n 3 dMo_times_38 rfl rfl ?_
          refine mn_iconst (v := 1) dMo_times_39 (by decide) ?_
          refine mn_ishl (z := nI (twsN a k) <<< ((1 : Int32) &&& 31)) dMo_times_40 rfl ?_
          refine mn_sipush (v := 255) dMo_times_41 (by decide) ?_
          refine mn_iand (z := (nI (twsN a k) <<< ((1 : Int32) &&& 31)) &&& 255) dMo_times_44 rfl ?_
          refine mn_bipush (v := 29) dMo_times_45 (by decide) ?_
          refine mn_ixor (z := nI (twN (twsN a k))) dMo_times_47 (ml_tw2 _ hxl c4) ?_
          refine mn_goto 54 dMo_times_48 (by decide) ?_
          refine mn_istore_n (ls' := [(0, .int (nI a)), (1, .int (nI b)), (2, .int (nI ((pdK a b k) ^^^ (twsN a k)))), (3, .int (nI (twN (twsN a k)))), (4, .int (nI k))]) dMo_times_54 rfl (by decide) rfl ?_
          refine mn_iinc (v := nI (k + 1)) (ls' := [(0, .int (nI a)), (1, .int (nI b)), (2, .int (nI ((pdK a b k) ^^^ (twsN a k)))), (3, .int (nI (twN (twsN a k)))), (4, .int (nI (k + 1)))]) 4 dMo_times_55 rfl (nI_add k 1) (by decide) rfl ?_
          refine mn_goto 7 dMo_times_58 (by decide) ?_
          rw [show pdK a b k ^^^ twsN a k = pdK a b (k + 1) by rw [pdK, if_pos hbit]]
          exact ih (k + 1) (by omega) (by omega)
set_option maxRecDepth 100000 in
theorem c_M_times {E : mn_En} {g : mn_H} {a b : Nat} (ha : a < 256) (hb : b < 256) : mn_R E MMo_times 0 0 0 0 0 [(0, .int (nI a)), (1, .int (nI b))] [] g (mn_is (some (.int (nI (pdN a b)))) g) := by
  refine mn_iconst (v := 0) dMo_times_0 (by decide) ?_
  refine mn_istore_n (ls' := [(0, .int (nI a)), (1, .int (nI b)), (2, .int 0)]) dMo_times_1 rfl (by decide) rfl ?_
  refine mn_iload_n 0 dMo_times_2 rfl rfl ?_
  refine mn_istore_n (ls' := [(0, .int (nI a)), (1, .int (nI b)), (2, .int 0), (3, .int (nI a))]) dMo_times_3 rfl (by decide) rfl ?_
  refine mn_iconst (v := 0) dMo_times_4 (by decide) ?_
  refine mn_istore (ls' := [(0, .int (nI a)), (1, .int (nI b)), (2, .int 0), (3, .int (nI a)), (4, .int 0)]) dMo_times_5 (by decide) rfl ?_
  exact c_M_times_l ha hb 9 0 (by omega) (by omega)
set_option maxRecDepth 100000 in
theorem c_M_power_l {E : mn_En} {g : mn_H} {n : Nat} (hn : n < 255) : ∀ (fu k : Nat), k ≤ n → n - k < fu → mn_R E MMo_power 1 24 0 0 4 [(0, .int (nI n)), (1, .int (nI (twsN 1 k))), (2, .int (nI k))] [] g (mn_is (some (.int (nI (twsN 1 n)))) g) := by
  intro fu
  induction fu with
  | zero => intro k h1 h2; exact absurd h2 (by omega)
  | succ fu ih =>
    intro k h1 h2
    have hmod : n % 255 = n := Nat.mod_eq_of_lt hn
    refine mn_iload_n 2 dMo_power_4 rfl rfl ?_
    refine mn_iload_n 0 dMo_power_5 rfl rfl ?_
    refine mn_sipush (v := 255) dMo_power_6 (by decide) ?_
    refine mn_irem (z := nI (n % 255)) dMo_power_9 (nI_ne0 (n := 255) (by omega) (by omega)) (pk_rem (a := n) (d := 255) (by omega) (by omega) (by omega)) ?_
    refine mn_icmp_ge 25 dMo_power_10 (by decide) (fun c1 => ?_) (fun c1 => ?_)
    · have c1 := (nI_leI (a := (n % 255)) (b := k) (by omega) (by omega)).mp c1
      refine mn_iload_n 1 dMo_power_25 rfl rfl ?_
      exact mn_iret rfl dMo_power_26 ⟨by rw [show k = n by omega], rfl⟩
    · have c1 := mt (nI_leI (a := (n % 255)) (b := k) (by omega) (by omega)).mpr c1
      refine mn_iload_n 1 dMo_power_13 rfl rfl ?_
      refine mn_iconst (v := 2) dMo_power_14 (by decide) ?_
      refine mn_cS (d' := 0) (w' := 0) (As := [.int (nI (twsN 1 k)), .int 2]) (stk' := [.int (nI (twsN 1 (k + 1)))]) okMo_times lMo_100 dMo_power_15 rfl rfl (Nat.le_of_ble_eq_true rfl) (Nat.le_of_ble_eq_true rfl) (by decide) (by have h0 := c_M_times (E := E) (g := g) (a := twsN 1 k) (b := 2) (tws_nI (by decide) k).2 (by decide); rw [pd_2 _ (tws_nI (by decide) k).2] at h0; exact h0) rfl ?_
      refine mn_istore_n (ls' := [(0, .int (nI n)), (1, .int (nI (twsN 1 (k + 1)))), (2, .int (nI k))]) dMo_power_18 rfl (by decide) rfl ?_
      refine mn_iinc (v := nI (k + 1)) (ls' := [(0, .int (nI n)), (1, .int (nI (twsN 1 (k + 1)))), (2, .int (nI (k + 1)))]) 2 dMo_power_19 rfl (nI_add k 1) (by decide) rfl ?_
      refine mn_goto 4 dMo_power_22 (by decide) ?_
      exact ih (k + 1) (by omega) (by omega)
set_option maxRecDepth 100000 in
theorem c_M_power {E : mn_En} {g : mn_H} {n : Nat} (hn : n < 255) : mn_R E MMo_power 1 24 0 0 0 [(0, .int (nI n))] [] g (mn_is (some (.int (nI (twsN 1 n)))) g) := by
  refine mn_iconst (v := 1) dMo_power_0 (by decide) ?_
  refine mn_istore_n (ls' := [(0, .int (nI n)), (1, .int 1)]) dMo_power_1 rfl (by decide) rfl ?_
  refine mn_iconst (v := 0) dMo_power_2 (by decide) ?_
  refine mn_istore_n (ls' := [(0, .int (nI n)), (1, .int 1), (2, .int 0)]) dMo_power_3 rfl (by decide) rfl ?_
  exact c_M_power_l hn (n + 1) 0 (by omega) (by omega)
set_option maxRecDepth 100000 in
theorem c_M_over_l {E : mn_En} {g : mn_H} {a : Nat} (ha : a < 256) : ∀ (fu k : Nat), k ≤ 254 → 254 - k < fu → mn_R E MMo_over 1 24 0 0 4 [(0, .int (nI a)), (1, .int (nI (ovK a k))), (2, .int (nI k))] [] g (mn_is (some (.int (nI (ovK a 254)))) g) := by
  intro fu
  induction fu with
  | zero => intro k h1 h2; exact absurd h2 (by omega)
  | succ fu ih =>
    intro k h1 h2
    refine mn_iload_n 2 dMo_over_4 rfl rfl ?_
    refine mn_sipush (v := 254) dMo_over_5 (by decide) ?_
    refine mn_icmp_ge 23 dMo_over_8 (by decide) (fun c1 => ?_) (fun c1 => ?_)
    · have c1 := (nI_leI (a := 254) (b := k) (by omega) (by omega)).mp c1
      refine mn_iload_n 1 dMo_over_23 rfl rfl ?_
      exact mn_iret rfl dMo_over_24 ⟨by rw [show k = 254 by omega], rfl⟩
    · have c1 := mt (nI_leI (a := 254) (b := k) (by omega) (by omega)).mpr c1
      refine mn_iload_n 1 dMo_over_11 rfl rfl ?_
      refine mn_iload_n 0 dMo_over_12 rfl rfl ?_
      refine mn_cS (d' := 0) (w' := 0) (As := [.int (nI (ovK a k)), .int (nI a)]) (stk' := [.int (nI (ovK a (k + 1)))]) okMo_times lMo_100 dMo_over_13 rfl rfl (Nat.le_of_ble_eq_true rfl) (Nat.le_of_ble_eq_true rfl) (by decide) (c_M_times (a := ovK a k) (b := a) (ovK_lt ha k) ha) rfl ?_
      refine mn_istore_n (ls' := [(0, .int (nI a)), (1, .int (nI (ovK a (k + 1)))), (2, .int (nI k))]) dMo_over_16 rfl (by decide) rfl ?_
      refine mn_iinc (v := nI (k + 1)) (ls' := [(0, .int (nI a)), (1, .int (nI (ovK a (k + 1)))), (2, .int (nI (k + 1)))]) 2 dMo_over_17 rfl (nI_add k 1) (by decide) rfl ?_
      refine mn_goto 4 dMo_over_20 (by decide) ?_
      exact ih (k + 1) (by omega) (by omega)
set_option maxRecDepth 100000 in
theorem c_M_over {E : mn_En} {g : mn_H} {a : Nat} (ha : a < 256) : mn_R E MMo_over 1 24 0 0 0 [(0, .int (nI a))] [] g (mn_is (some (.int (nI (ovK a 254)))) g) := by
  refine mn_iconst (v := 1) dMo_over_0 (by decide) ?_
  refine mn_istore_n (ls' := [(0, .int (nI a)), (1, .int 1)]) dMo_over_1 rfl (by decide) rfl ?_
  refine mn_iconst (v := 0) dMo_over_2 (by decide) ?_
  refine mn_istore_n (ls' := [(0, .int (nI a)), (1, .int 1), (2, .int 0)]) dMo_over_3 rfl (by decide) rfl ?_
  exact c_M_over_l ha 255 0 (by omega) (by omega)
set_option maxRecDepth 100000 in
theorem c_M_feed_full {E : mn_En} {g : mn_H} {mo tl e sz rp st m r wd ag td om : Nat} {ir : Int32} {tb : Nat → Nat} (hM : mn_at g mo (.inr (11, [.int 0, .ref (mo + 1), .int (nI tl), .ref (mo + 2), .ref (mo + 3), .int (nI e), .int (nI sz), .int (nI rp), .int (nI st), .ref (mo + 4), .ref (mo + 5), .ref (mo + 6), .int ir, .int (nI m), .int (nI r), .int (nI wd), .int (nI ag), .ref (mo + 7), .ref (mo + 8), .ref (mo + 9), .ref (mo + 10), .int (nI td), .int (nI om), .ref (mo + 11), .ref (mo + 12), .ref (mo + 13), .ref (mo + 14), .ref (mo + 15), .ref (mo + 16)]))) (hTa : mn_at g (mo + 1) (.inl (0, 60, .inl (fun j => nI (tb j))))) {a1 a2 a3 a4 a5 : Int32} (hl : 40 < tl) (hl2 : tl ≤ 60) : mn_R E MMo_feed 0 0 0 0 0 [(0, .ref mo), (1, .int a1), (2, .int a2), (3, .int a3), (4, .int a4), (5, .int a5)] [] g (fun x g' => x = some (.int (-3)) ∧ mn_fr (fun q => q = mo) g g' ∧ mn_at g' mo (.inr (11, [.int 0, .ref (mo + 1), .int (nI tl), .ref (mo + 2), .ref (mo + 3), .int (nI e), .int (nI sz), .int (nI rp), .int (nI st), .ref (mo + 4), .ref (mo + 5), .ref (mo + 6), .int ir, .int (nI m), .int (nI r), .int (nI wd), .int (nI ag), .ref (mo + 7), .ref (mo + 8), .ref (mo + 9), .ref (mo + 10), .int (nI td), .int (nI om), .ref (mo + 11), .ref (mo + 12), .ref (mo + 13), .ref (mo + 14), .ref (mo + 15), .ref (mo + 16)]))) := by
  refine mn_aload_n 0 dMo_feed_0 rfl rfl ?_
  refine mn_iconst (v := 0) dMo_feed_1 (by decide) ?_
  refine mn_putf okMo 0 lMo_1 (by decide) rfl hM rfl rfl (Nat.le_of_ble_eq_true rfl) dMo_feed_2 ?_
  obtain ⟨g1, eg1⟩ : ∃ gg_, gg_ = mn_set g mo (.inr (11, [.int 0, .ref (mo + 1), .int (nI tl), .ref (mo + 2), .ref (mo + 3), .int (nI e), .int (nI sz), .int (nI rp), .int (nI st), .ref (mo + 4), .ref (mo + 5), .ref (mo + 6), .int ir, .int (nI m), .int (nI r), .int (nI wd), .int (nI ag), .ref (mo + 7), .ref (mo + 8), .ref (mo + 9), .ref (mo + 10), .int (nI td), .int (nI om), .ref (mo + 11), .ref (mo + 12), .ref (mo + 13), .ref (mo + 14), .ref (mo + 15), .ref (mo + 16)])) := ⟨_, rfl⟩
  refine mn_R.toG eg1 ?_
  have hM_g1 : mn_at g1 mo (.inr (11, [.int 0, .ref (mo + 1), .int (nI tl), .ref (mo + 2), .ref (mo + 3), .int (nI e), .int (nI sz), .int (nI rp), .int (nI st), .ref (mo + 4), .ref (mo + 5), .ref (mo + 6), .int ir, .int (nI m), .int (nI r), .int (nI wd), .int (nI ag), .ref (mo + 7), .ref (mo + 8), .ref (mo + 9), .ref (mo + 10), .int (nI td), .int (nI om), .ref (mo + 11), .ref (mo + 12), .ref (mo + 13), .ref (mo + 14), .ref (mo + 15), .ref (mo + 16)])) := by rw [eg1]; exact hM.same
  have hTa_g1 : mn_at g1 (mo + 1) (.inl (0, 60, .inl (fun j => nI (tb j)))) := by rw [eg1]; exact hTa.off (by omega)
  refine mn_aload_n 0 dMo_feed_5 rfl rfl ?_
  refine mn_get okMo 2 lMo_65 (by decide) hM_g1 rfl dMo_feed_6 ?_
  refine mn_bipush (v := 40) dMo_feed_9 (by decide) ?_
  refine mn_icmp_le 17 dMo_feed_11 (by decide) (fun c2 => ?_) (fun c2 => ?_)
  · have c2 := (nI_leI (a := tl) (b := 40) (by omega) (by omega)).mp c2
    exact absurd hl (by omega)
  · have c2 := mt (nI_leI (a := tl) (b := 40) (by omega) (by omega)).mpr c2
    refine mn_bipush (v := (-3)) dMo_feed_14 (by decide) ?_
    exact mn_iret rfl dMo_feed_16 ⟨rfl, (mn_fr.rf.set eg1 (by show mo = mo; omega)), hM_g1⟩
theorem ml_sh (k : Nat) : nI (24 - k % 4 * 8) = 24 ∨ nI (24 - k % 4 * 8) = 16 ∨ nI (24 - k % 4 * 8) = 8 ∨ nI (24 - k % 4 * 8) = 0 := by
  have h : k % 4 = 0 ∨ k % 4 = 1 ∨ k % 4 = 2 ∨ k % 4 = 3 := by omega
  rcases h with h | h | h | h <;> rw [h]
  · exact Or.inl rfl
  · exact Or.inr (Or.inl rfl)
  · exact Or.inr (Or.inr (Or.inl rfl))
  · exact Or.inr (Or.inr (Or.inr rfl))
set_option maxRecDepth 100000 in
theorem c_M_feed_l {E : mn_En} {g : mn_H} {mo tl e sz rp st m r wd ag td om : Nat} {ir : Int32} {tb : Nat → Nat} {a1 a2 a3 a4 a5 : Int32} (hl : tl ≤ 40) : ∀ (fu k : Nat) (g0 : mn_H), k ≤ 20 → 20 - k < fu → mn_fr (fun q => q = mo ∨ q = mo + 1) g g0 → mn_at g0 mo (.inr (11, [.int 0, .ref (mo + 1), .int (nI tl), .ref (mo + 2), .ref (mo + 3), .int (nI e), .int (nI sz), .int (nI rp), .int (nI st), .ref (mo + 4), .ref (mo + 5), .ref (mo + 6), .int ir, .int (nI m), .int (nI r), .int (nI wd), .int (nI ag), .ref (mo + 7), .ref (mo + 8), .ref (mo + 9), .ref (mo + 10), .int (nI td), .int (nI om), .ref (mo + 11), .ref (mo + 12), .ref (mo + 13), .ref (mo + 14), .ref (mo + 15), .ref (mo + 16)])) → mn_at g0 (mo + 1) (.inl (0, 60, .inl (fun j => nI ((fdL tb tl (fB a1 a2 a3 a4 a5) k) j)))) → mn_R E MMo_feed 0 0 0 0 20 [(0, .ref mo), (1, .int a1), (2, .int a2), (3, .int a3), (4, .int a4), (5, .int a5), (6, .int (nI k))] [] g0 (fun x g' => x = some (.int (nI (tl + 20))) ∧ mn_fr (fun q => q = mo ∨ q = mo + 1) g g' ∧ mn_at g' mo (.inr (11, [.int 0, .ref (mo + 1), .int (nI (tl + 20)), .ref (mo + 2), .ref (mo + 3), .int (nI e), .int (nI sz), .int (nI rp), .int (nI st), .ref (mo + 4), .ref (mo + 5), .ref (mo + 6), .int ir, .int (nI m), .int (nI r), .int (nI wd), .int (nI ag), .ref (mo + 7), .ref (mo + 8), .ref (mo + 9), .ref (mo + 10), .int (nI td), .int (nI om), .ref (mo + 11), .ref (mo + 12), .ref (mo + 13), .ref (mo + 14), .ref (mo + 15), .ref (mo + 16)])) ∧ mn_at g' (mo + 1) (.inl (0, 60, .inl (fun j => nI (fdL tb tl (fB a1 a2 a3 a4 a5) 20 j))))) := by
  intro fu
  induction fu with
  | zero => intro k g0 h1 h2; exact absurd h2 (by omega)
  | succ fu ih =>
    intro k g0 h1 h2 hfr hM hTa
    refine mn_iload 6 dMo_feed_20 rfl ?_
    refine mn_bipush (v := 20) dMo_feed_22 (by decide) ?_
    refine mn_icmp_ge 110 dMo_feed_24 (by decide) (fun c1 => ?_) (fun c1 => ?_)
    · have c1 := (nI_leI (a := 20) (b := k) (by omega) (by omega)).mp c1
      refine mn_aload_n 0 dMo_feed_110 rfl rfl ?_
      refine mn_aload_n 0 dMo_feed_111 rfl rfl ?_
      refine mn_get okMo 2 lMo_65 (by decide) hM rfl dMo_feed_112 ?_
      refine mn_bipush (v := 20) dMo_feed_115 (by decide) ?_
      refine mn_iadd (z := nI (tl + 20)) dMo_feed_117 (nI_add tl 20) ?_
      refine mn_putf okMo 2 lMo_65 (by decide) rfl hM rfl rfl (Nat.le_of_ble_eq_true rfl) dMo_feed_118 ?_
      obtain ⟨g2, eg2⟩ : ∃ gg_, gg_ = mn_set g0 mo (.inr (11, [.int 0, .ref (mo + 1), .int (nI (tl + 20)), .ref (mo + 2), .ref (mo + 3), .int (nI e), .int (nI sz), .int (nI rp), .int (nI st), .ref (mo + 4), .ref (mo + 5), .ref (mo + 6), .int ir, .int (nI m), .int (nI r), .int (nI wd), .int (nI ag), .ref (mo + 7), .ref (mo + 8), .ref (mo + 9), .ref (mo + 10), .int (nI td), .int (nI om), .ref (mo + 11), .ref (mo + 12), .ref (mo + 13), .ref (mo + 14), .ref (mo + 15), .ref (mo + 16)])) := ⟨_, rfl⟩
      refine mn_R.toG eg2 ?_
      have hM_g2 : mn_at g2 mo (.inr (11, [.int 0, .ref (mo + 1), .int (nI (tl + 20)), .ref (mo + 2), .ref (mo + 3), .int (nI e), .int (nI sz), .int (nI rp), .int (nI st), .ref (mo + 4), .ref (mo + 5), .ref (mo + 6), .int ir, .int (nI m), .int (nI r), .int (nI wd), .int (nI ag), .ref (mo + 7), .ref (mo + 8), .ref (mo + 9), .ref (mo + 10), .int (nI td), .int (nI om), .ref (mo + 11), .ref (mo + 12), .ref (mo + 13), .ref (mo + 14), .ref (mo + 15), .ref (mo + 16)])) := by rw [eg2]; exact hM.same
      have hTa_g2 : mn_at g2 (mo + 1) (.inl (0, 60, .inl (fun j => nI ((fdL tb tl (fB a1 a2 a3 a4 a5) k) j)))) := by rw [eg2]; exact hTa.off (by omega)
      refine mn_aload_n 0 dMo_feed_121 rfl rfl ?_
      refine mn_get okMo 2 lMo_65 (by decide) hM_g2 rfl dMo_feed_122 ?_
      exact mn_iret rfl dMo_feed_125 (by obtain rfl : k = 20 := (by omega); exact ⟨rfl, (hfr.set eg2 (by show mo = mo ∨ mo = mo + 1; omega)), hM_g2, hTa_g2⟩)
    · have c1 := mt (nI_leI (a := 20) (b := k) (by omega) (by omega)).mpr c1
      refine mn_iload 6 dMo_feed_27 rfl ?_
      refine mn_iconst (v := 4) dMo_feed_29 (by decide) ?_
      refine mn_icmp_ge 37 dMo_feed_30 (by decide) (fun c3 => ?_) (fun c3 => ?_)
      · have c3 := (nI_leI (a := 4) (b := k) (by omega) (by omega)).mp c3
        refine mn_iload 6 dMo_feed_37 rfl ?_
        refine mn_bipush (v := 8) dMo_feed_39 (by decide) ?_
        refine mn_icmp_ge 48 dMo_feed_41 (by decide) (fun c4 => ?_) (fun c4 => ?_)
        · have c4 := (nI_leI (a := 8) (b := k) (by omega) (by omega)).mp c4
          refine mn_iload 6 dMo_feed_48 rfl ?_
          refine mn_bipush (v := 12) dMo_feed_50 (by decide) ?_
          refine mn_icmp_ge 59 dMo_feed_52 (by decide) (fun c5 => ?_) (fun c5 => ?_)
          · have c5 := (nI_leI (a := 12) (b := k) (by omega) (by omega)).mp c5
            refine mn_iload 6 dMo_feed_59 rfl ?_
            refine mn_bipush (v := 16) dMo_feed_61 (by decide) ?_
            refine mn_icmp_ge 71 dMo_feed_63 (by decide) (fun c6 => ?_) (fun c6 => ?_)
            · have c6 := (nI_leI (a := 16) (b := k) (by omega) (by omega)).mp c6
              refine mn_iload 5 dMo_feed_71 rfl ?_
              refine mn_istore (ls' := [(0, .ref mo), (1, .int a1), (2, .int a2), (3, .int a3), (4, .int a4), (5, .int a5), (6, .int (nI k)), (7, .int a5)]) dMo_feed_73 (by decide) rfl ?_
              refine mn_aload_n 0 dMo_feed_75 rfl rfl ?_
              refine mn_get okMo 1 lMo_13 (by decide) hM rfl dMo_feed_76 ?_
              refine mn_aload_n 0 dMo_feed_79 rfl rfl ?_
              refine mn_get okMo 2 lMo_65 (by decide) hM rfl dMo_feed_80 ?_
              refine mn_iload 6 dMo_feed_83 rfl ?_
              refine mn_iadd (z := nI (tl + k)) dMo_feed_85 (nI_add tl k) ?_
              refine mn_iload 7 dMo_feed_86 rfl ?_
              refine mn_bipush (v := 24) dMo_feed_88 (by decide) ?_
              refine mn_iload 6 dMo_feed_90 rfl ?_
              refine mn_iconst (v := 4) dMo_feed_92 (by decide) ?_
              refine mn_irem (z := nI (k % 4)) dMo_feed_93 (nI_ne0 (n := 4) (by omega) (by omega)) (pk_rem (a := k) (d := 4) (by omega) (by omega) (by omega)) ?_
              refine mn_bipush (v := 8) dMo_feed_94 (by decide) ?_
              refine mn_imul (z := nI ((k % 4) * 8)) dMo_feed_96 (pk_mul (k % 4) 8) ?_
              refine mn_isub (z := nI (24 - ((k % 4) * 8))) dMo_feed_97 (pk_sub (a := 24) (b := (k % 4) * 8) (by omega)) ?_
              refine mn_ishr (z := a5 >>> ((nI (24 - ((k % 4) * 8))) &&& 31)) dMo_feed_98 rfl ?_
              refine mn_sipush (v := 255) dMo_feed_99 (by decide) ?_
              refine mn_iand (z := nI (fB a1 a2 a3 a4 a5 k)) dMo_feed_102 ((sar_byt a5 (s := nI (24 - k % 4 * 8)) (ml_sh k)).trans (by rw [byt_nI]; unfold fB; rw [if_neg (by omega), if_neg (by omega), if_neg (by omega), if_neg (by omega)])) ?_
              refine mn_iastN (j := tl + k) hTa rfl (by omega) (by omega) dMo_feed_103 ?_
              obtain ⟨g7, eg7⟩ : ∃ gg_, gg_ = mn_set g0 (mo + 1) (.inl (0, 60, .inl (upd (fun j => nI ((fdL tb tl (fB a1 a2 a3 a4 a5) k) j)) (tl + k) (nI (fB a1 a2 a3 a4 a5 k))))) := ⟨_, rfl⟩
              refine mn_R.toG eg7 ?_
              have hM_g7 : mn_at g7 mo (.inr (11, [.int 0, .ref (mo + 1), .int (nI tl), .ref (mo + 2), .ref (mo + 3), .int (nI e), .int (nI sz), .int (nI rp), .int (nI st), .ref (mo + 4), .ref (mo + 5), .ref (mo + 6), .int ir, .int (nI m), .int (nI r), .int (nI wd), .int (nI ag), .ref (mo + 7), .ref (mo + 8), .ref (mo + 9), .ref (mo + 10), .int (nI td), .int (nI om), .ref (mo + 11), .ref (mo + 12), .ref (mo + 13), .ref (mo + 14), .ref (mo + 15), .ref (mo + 16)])) := by rw [eg7]; exact hM.off (by omega)
              have hTa_g7 : mn_at g7 (mo + 1) (.inl (0, 60, .inl (upd (fun j => nI ((fdL tb tl (fB a1 a2 a3 a4 a5) k) j)) (tl + k) (nI (fB a1 a2 a3 a4 a5 k))))) := by rw [eg7]; exact hTa.same
              refine mn_iinc (v := nI (k + 1)) (ls' := [(0, .ref mo), (1, .int a1), (2, .int a2), (3, .int a3), (4, .int a4), (5, .int a5), (6, .int (nI (k + 1))), (7, .int a5)]) 6 dMo_feed_104 rfl (nI_add k 1) (by decide) rfl ?_
              refine mn_goto 20 dMo_feed_107 (by decide) ?_
              rw [upd_nI, fdL_s] at hTa_g7
              refine mn_R.sub [0, 1, 2, 3, 4, 5, 6] (ls' := [(0, .ref mo), (1, .int a1), (2, .int a2), (3, .int a3), (4, .int a4), (5, .int a5), (6, .int (nI (k + 1)))]) rfl ?_
              exact ih (k + 1) g7 (by omega) (by omega) (hfr.set eg7 (by show (mo + 1) = mo ∨ (mo + 1) = mo + 1; omega)) hM_g7 hTa_g7
            · have c6 := mt (nI_leI (a := 16) (b := k) (by omega) (by omega)).mpr c6
              refine mn_iload 4 dMo_feed_66 rfl ?_
              refine mn_goto 73 dMo_feed_68 (by decide) ?_
              refine mn_istore (ls' := [(0, .ref mo), (1, .int a1), (2, .int a2), (3, .int a3), (4, .int a4), (5, .int a5), (6, .int (nI k)), (7, .int a4)]) dMo_feed_73 (by decide) rfl ?_
              refine mn_aload_n 0 dMo_feed_75 rfl rfl ?_
              refine mn_get okMo 1 lMo_13 (by decide) hM rfl dMo_feed_76 ?_
              refine mn_aload_n 0 dMo_feed_79 rfl rfl ?_
              refine mn_get okMo 2 lMo_65 (by decide) hM rfl dMo_feed_80 ?_
              refine mn_iload 6 dMo_feed_83 rfl ?_
              refine mn_iadd (z := nI (tl + k)) dMo_feed_85 (nI_add tl k) ?_
              refine mn_iload 7 dMo_feed_86 rfl ?_
              refine mn_bipush (v := 24) dMo_feed_88 (by decide) ?_
              refine mn_iload 6 dMo_feed_90 rfl ?_
              refine mn_iconst (v := 4) dMo_feed_92 (by decide) ?_
              refine mn_irem (z := nI (k % 4)) dMo_feed_93 (nI_ne0 (n := 4) (by omega) (by omega)) (pk_rem (a := k) (d := 4) (by omega) (by omega) (by omega)) ?_
              refine mn_bipush (v := 8) dMo_feed_94 (by decide) ?_
              refine mn_imul (z := nI ((k % 4) * 8)) dMo_feed_96 (pk_mul (k % 4) 8) ?_
              refine mn_isub (z := nI (24 - ((k % 4) * 8))) dMo_feed_97 (pk_sub (a := 24) (b := (k % 4) * 8) (by omega)) ?_
              refine mn_ishr (z := a4 >>> ((nI (24 - ((k % 4) * 8))) &&& 31)) dMo_feed_98 rfl ?_
              refine mn_sipush (v := 255) dMo_feed_99 (by decide) ?_
              refine mn_iand (z := nI (fB a1 a2 a3 a4 a5 k)) dMo_feed_102 ((sar_byt a4 (s := nI (24 - k % 4 * 8)) (ml_sh k)).trans (by rw [byt_nI]; unfold fB; rw [if_neg (by omega), if_neg (by omega), if_neg (by omega), if_pos (by omega)])) ?_
              refine mn_iastN (j := tl + k) hTa rfl (by omega) (by omega) dMo_feed_103 ?_
              obtain ⟨g8, eg8⟩ : ∃ gg_, gg_ = mn_set g0 (mo + 1) (.inl (0, 60, .inl (upd (fun j => nI ((fdL tb tl (fB a1 a2 a3 a4 a5) k) j)) (tl + k) (nI (fB a1 a2 a3 a4 a5 k))))) := ⟨_, rfl⟩
              refine mn_R.toG eg8 ?_
              have hM_g8 : mn_at g8 mo (.inr (11, [.int 0, .ref (mo + 1), .int (nI tl), .ref (mo + 2), .ref (mo + 3), .int (nI e), .int (nI sz), .int (nI rp), .int (nI st), .ref (mo + 4), .ref (mo + 5), .ref (mo + 6), .int ir, .int (nI m), .int (nI r), .int (nI wd), .int (nI ag), .ref (mo + 7), .ref (mo + 8), .ref (mo + 9), .ref (mo + 10), .int (nI td), .int (nI om), .ref (mo + 11), .ref (mo + 12), .ref (mo + 13), .ref (mo + 14), .ref (mo + 15), .ref (mo + 16)])) := by rw [eg8]; exact hM.off (by omega)
              have hTa_g8 : mn_at g8 (mo + 1) (.inl (0, 60, .inl (upd (fun j => nI ((fdL tb tl (fB a1 a2 a3 a4 a5) k) j)) (tl + k) (nI (fB a1 a2 a3 a4 a5 k))))) := by rw [eg8]; exact hTa.same
              refine mn_iinc (v := nI (k + 1)) (ls' := [(0, .ref mo), (1, .int a1), (2, .int a2), (3, .int a3), (4, .int a4), (5, .int a5), (6, .int (nI (k + 1))), (7, .int a4)]) 6 dMo_feed_104 rfl (nI_add k 1) (by decide) rfl ?_
              refine mn_goto 20 dMo_feed_107 (by decide) ?_
              rw [upd_nI, fdL_s] at hTa_g8
              refine mn_R.sub [0, 1, 2, 3, 4, 5, 6] (ls' := [(0, .ref mo), (1, .int a1), (2, .int a2), (3, .int a3), (4, .int a4), (5, .int a5), (6, .int (nI (k + 1)))]) rfl ?_
              exact ih (k + 1) g8 (by omega) (by omega) (hfr.set eg8 (by show (mo + 1) = mo ∨ (mo + 1) = mo + 1; omega)) hM_g8 hTa_g8
          · have c5 := mt (nI_leI (a := 12) (b := k) (by omega) (by omega)).mpr c5
            refine mn_iload_n 3 dMo_feed_55 rfl rfl ?_
            refine mn_goto 73 dMo_feed_56 (by decide) ?_
            refine mn_istore (ls' := [(0, .ref mo), (1, .int a1), (2, .int a2), (3, .int a3), (4, .int a4), (5, .int a5), (6, .int (nI k)), (7, .int a3)]) dMo_feed_73 (by decide) rfl ?_
            refine mn_aload_n 0 dMo_feed_75 rfl rfl ?_
            refine mn_get okMo 1 lMo_13 (by decide) hM rfl dMo_feed_76 ?_
            refine mn_aload_n 0 dMo_feed_79 rfl rfl ?_
            refine mn_get okMo 2 lMo_65 (by decide) hM rfl dMo_feed_80 ?_
            refine mn_iload 6 dMo_feed_83 rfl ?_
            refine mn_iadd (z := nI (tl + k)) dMo_feed_85 (nI_add tl k) ?_
            refine mn_iload 7 dMo_feed_86 rfl ?_
            refine mn_bipush (v := 24) dMo_feed_88 (by decide) ?_
            refine mn_iload 6 dMo_feed_90 rfl ?_
            refine mn_iconst (v := 4) dMo_feed_92 (by decide) ?_
            refine mn_irem (z := nI (k % 4)) dMo_feed_93 (nI_ne0 (n := 4) (by omega) (by omega)) (pk_rem (a := k) (d := 4) (by omega) (by omega) (by omega)) ?_
            refine mn_bipush (v := 8) dMo_feed_94 (by decide) ?_
            refine mn_imul (z := nI ((k % 4) * 8)) dMo_feed_96 (pk_mul (k % 4) 8) ?_
            refine mn_isub (z := nI (24 - ((k % 4) * 8))) dMo_feed_97 (pk_sub (a := 24) (b := (k % 4) * 8) (by omega)) ?_
            refine mn_ishr (z := a3 >>> ((nI (24 - ((k % 4) * 8))) &&& 31)) dMo_feed_98 rfl ?_
            refine mn_sipush (v := 255) dMo_feed_99 (by decide) ?_
            refine mn_iand (z := nI (fB a1 a2 a3 a4 a5 k)) dMo_feed_102 ((sar_byt a3 (s := nI (24 - k % 4 * 8)) (ml_sh k)).trans (by rw [byt_nI]; unfold fB; rw [if_neg (by omega), if_neg (by omega), if_pos (by omega)])) ?_
            refine mn_iastN (j := tl + k) hTa rfl (by omega) (by omega) dMo_feed_103 ?_
            obtain ⟨g9, eg9⟩ : ∃ gg_, gg_ = mn_set g0 (mo + 1) (.inl (0, 60, .inl (upd (fun j => nI ((fdL tb tl (fB a1 a2 a3 a4 a5) k) j)) (tl + k) (nI (fB a1 a2 a3 a4 a5 k))))) := ⟨_, rfl⟩
            refine mn_R.toG eg9 ?_
            have hM_g9 : mn_at g9 mo (.inr (11, [.int 0, .ref (mo + 1), .int (nI tl), .ref (mo + 2), .ref (mo + 3), .int (nI e), .int (nI sz), .int (nI rp), .int (nI st), .ref (mo + 4), .ref (mo + 5), .ref (mo + 6), .int ir, .int (nI m), .int (nI r), .int (nI wd), .int (nI ag), .ref (mo + 7), .ref (mo + 8), .ref (mo + 9), .ref (mo + 10), .int (nI td), .int (nI om), .ref (mo + 11), .ref (mo + 12), .ref (mo + 13), .ref (mo + 14), .ref (mo + 15), .ref (mo + 16)])) := by rw [eg9]; exact hM.off (by omega)
            have hTa_g9 : mn_at g9 (mo + 1) (.inl (0, 60, .inl (upd (fun j => nI ((fdL tb tl (fB a1 a2 a3 a4 a5) k) j)) (tl + k) (nI (fB a1 a2 a3 a4 a5 k))))) := by rw [eg9]; exact hTa.same
            refine mn_iinc (v := nI (k + 1)) (ls' := [(0, .ref mo), (1, .int a1), (2, .int a2), (3, .int a3), (4, .int a4), (5, .int a5), (6, .int (nI (k + 1))), (7, .int a3)]) 6 dMo_feed_104 rfl (nI_add k 1) (by decide) rfl ?_
            refine mn_goto 20 dMo_feed_107 (by decide) ?_
            rw [upd_nI, fdL_s] at hTa_g9
            refine mn_R.sub [0, 1, 2, 3, 4, 5, 6] (ls' := [(0, .ref mo), (1, .int a1), (2, .int a2), (3, .int a3), (4, .int a4), (5, .int a5), (6, .int (nI (k + 1)))]) rfl ?_
            exact ih (k + 1) g9 (by omega) (by omega) (hfr.set eg9 (by show (mo + 1) = mo ∨ (mo + 1) = mo + 1; omega)) hM_g9 hTa_g9
        · have c4 := mt (nI_leI (a := 8) (b := k) (by omega) (by omega)).mpr c4
          refine mn_iload_n 2 dMo_feed_44 rfl rfl ?_
          refine mn_goto 73 dMo_feed_45 (by decide) ?_
          refine mn_istore (ls' := [(0, .ref mo), (1, .int a1), (2, .int a2), (3, .int a3), (4, .int a4), (5, .int a5), (6, .int (nI k)), (7, .int a2)]) dMo_feed_73 (by decide) rfl ?_
          refine mn_aload_n 0 dMo_feed_75 rfl rfl ?_
          refine mn_get okMo 1 lMo_13 (by decide) hM rfl dMo_feed_76 ?_
          refine mn_aload_n 0 dMo_feed_79 rfl rfl ?_
          refine mn_get okMo 2 lMo_65 (by decide) hM rfl dMo_feed_80 ?_
          refine mn_iload 6 dMo_feed_83 rfl ?_
          refine mn_iadd (z := nI (tl + k)) dMo_feed_85 (nI_add tl k) ?_
          refine mn_iload 7 dMo_feed_86 rfl ?_
          refine mn_bipush (v := 24) dMo_feed_88 (by decide) ?_
          refine mn_iload 6 dMo_feed_90 rfl ?_
          refine mn_iconst (v := 4) dMo_feed_92 (by decide) ?_
          refine mn_irem (z := nI (k % 4)) dMo_feed_93 (nI_ne0 (n := 4) (by omega) (by omega)) (pk_rem (a := k) (d := 4) (by omega) (by omega) (by omega)) ?_
          refine mn_bipush (v := 8) dMo_feed_94 (by decide) ?_
          refine mn_imul (z := nI ((k % 4) * 8)) dMo_feed_96 (pk_mul (k % 4) 8) ?_
          refine mn_isub (z := nI (24 - ((k % 4) * 8))) dMo_feed_97 (pk_sub (a := 24) (b := (k % 4) * 8) (by omega)) ?_
          refine mn_ishr (z := a2 >>> ((nI (24 - ((k % 4) * 8))) &&& 31)) dMo_feed_98 rfl ?_
          refine mn_sipush (v := 255) dMo_feed_99 (by decide) ?_
          refine mn_iand (z := nI (fB a1 a2 a3 a4 a5 k)) dMo_feed_102 ((sar_byt a2 (s := nI (24 - k % 4 * 8)) (ml_sh k)).trans (by rw [byt_nI]; unfold fB; rw [if_neg (by omega), if_pos (by omega)])) ?_
          refine mn_iastN (j := tl + k) hTa rfl (by omega) (by omega) dMo_feed_103 ?_
          obtain ⟨g10, eg10⟩ : ∃ gg_, gg_ = mn_set g0 (mo + 1) (.inl (0, 60, .inl (upd (fun j => nI ((fdL tb tl (fB a1 a2 a3 a4 a5) k) j)) (tl + k) (nI (fB a1 a2 a3 a4 a5 k))))) := ⟨_, rfl⟩
          refine mn_R.toG eg10 ?_
          have hM_g10 : mn_at g10 mo (.inr (11, [.int 0, .ref (mo + 1), .int (nI tl), .ref (mo + 2), .ref (mo + 3), .int (nI e), .int (nI sz), .int (nI rp), .int (nI st), .ref (mo + 4), .ref (mo + 5), .ref (mo + 6), .int ir, .int (nI m), .int (nI r), .int (nI wd), .int (nI ag), .ref (mo + 7), .ref (mo + 8), .ref (mo + 9), .ref (mo + 10), .int (nI td), .int (nI om), .ref (mo + 11), .ref (mo + 12), .ref (mo + 13), .ref (mo + 14), .ref (mo + 15), .ref (mo + 16)])) := by rw [eg10]; exact hM.off (by omega)
          have hTa_g10 : mn_at g10 (mo + 1) (.inl (0, 60, .inl (upd (fun j => nI ((fdL tb tl (fB a1 a2 a3 a4 a5) k) j)) (tl + k) (nI (fB a1 a2 a3 a4 a5 k))))) := by rw [eg10]; exact hTa.same
          refine mn_iinc (v := nI (k + 1)) (ls' := [(0, .ref mo), (1, .int a1), (2, .int a2), (3, .int a3), (4, .int a4), (5, .int a5), (6, .int (nI (k + 1))), (7, .int a2)]) 6 dMo_feed_104 rfl (nI_add k 1) (by decide) rfl ?_
          refine mn_goto 20 dMo_feed_107 (by decide) ?_
          rw [upd_nI, fdL_s] at hTa_g10
          refine mn_R.sub [0, 1, 2, 3, 4, 5, 6] (ls' := [(0, .ref mo), (1, .int a1), (2, .int a2), (3, .int a3), (4, .int a4), (5, .int a5), (6, .int (nI (k + 1)))]) rfl ?_
          exact ih (k + 1) g10 (by omega) (by omega) (hfr.set eg10 (by show (mo + 1) = mo ∨ (mo + 1) = mo + 1; omega)) hM_g10 hTa_g10
      · have c3 := mt (nI_leI (a := 4) (b := k) (by omega) (by omega)).mpr c3
        refine mn_iload_n 1 dMo_feed_33 rfl rfl ?_
        refine mn_goto 73 dMo_feed_34 (by decide) ?_
        refine mn_istore (ls' := [(0, .ref mo), (1, .int a1), (2, .int a2), (3, .int a3), (4, .int a4), (5, .int a5), (6, .int (nI k)), (7, .int a1)]) dMo_feed_73 (by decide) rfl ?_
        refine mn_aload_n 0 dMo_feed_75 rfl rfl ?_
        refine mn_get okMo 1 lMo_13 (by decide) hM rfl dMo_feed_76 ?_
        refine mn_aload_n 0 dMo_feed_79 rfl rfl ?_
        refine mn_get okMo 2 lMo_65 (by decide) hM rfl dMo_feed_80 ?_
        refine mn_iload 6 dMo_feed_83 rfl ?_
        refine mn_iadd (z := nI (tl + k)) dMo_feed_85 (nI_add tl k) ?_
        refine mn_iload 7 dMo_feed_86 rfl ?_
        refine mn_bipush (v := 24) dMo_feed_88 (by decide) ?_
        refine mn_iload 6 dMo_feed_90 rfl ?_
        refine mn_iconst (v := 4) dMo_feed_92 (by decide) ?_
        refine mn_irem (z := nI (k % 4)) dMo_feed_93 (nI_ne0 (n := 4) (by omega) (by omega)) (pk_rem (a := k) (d := 4) (by omega) (by omega) (by omega)) ?_
        refine mn_bipush (v := 8) dMo_feed_94 (by decide) ?_
        refine mn_imul (z := nI ((k % 4) * 8)) dMo_feed_96 (pk_mul (k % 4) 8) ?_
        refine mn_isub (z := nI (24 - ((k % 4) * 8))) dMo_feed_97 (pk_sub (a := 24) (b := (k % 4) * 8) (by omega)) ?_
        refine mn_ishr (z := a1 >>> ((nI (24 - ((k % 4) * 8))) &&& 31)) dMo_feed_98 rfl ?_
        refine mn_sipush (v := 255) dMo_feed_99 (by decide) ?_
        refine mn_iand (z := nI (fB a1 a2 a3 a4 a5 k)) dMo_feed_102 ((sar_byt a1 (s := nI (24 - k % 4 * 8)) (ml_sh k)).trans (by rw [byt_nI]; unfold fB; rw [if_pos (by omega)])) ?_
        refine mn_iastN (j := tl + k) hTa rfl (by omega) (by omega) dMo_feed_103 ?_
        obtain ⟨g11, eg11⟩ : ∃ gg_, gg_ = mn_set g0 (mo + 1) (.inl (0, 60, .inl (upd (fun j => nI ((fdL tb tl (fB a1 a2 a3 a4 a5) k) j)) (tl + k) (nI (fB a1 a2 a3 a4 a5 k))))) := ⟨_, rfl⟩
        refine mn_R.toG eg11 ?_
        have hM_g11 : mn_at g11 mo (.inr (11, [.int 0, .ref (mo + 1), .int (nI tl), .ref (mo + 2), .ref (mo + 3), .int (nI e), .int (nI sz), .int (nI rp), .int (nI st), .ref (mo + 4), .ref (mo + 5), .ref (mo + 6), .int ir, .int (nI m), .int (nI r), .int (nI wd), .int (nI ag), .ref (mo + 7), .ref (mo + 8), .ref (mo + 9), .ref (mo + 10), .int (nI td), .int (nI om), .ref (mo + 11), .ref (mo + 12), .ref (mo + 13), .ref (mo + 14), .ref (mo + 15), .ref (mo + 16)])) := by rw [eg11]; exact hM.off (by omega)
        have hTa_g11 : mn_at g11 (mo + 1) (.inl (0, 60, .inl (upd (fun j => nI ((fdL tb tl (fB a1 a2 a3 a4 a5) k) j)) (tl + k) (nI (fB a1 a2 a3 a4 a5 k))))) := by rw [eg11]; exact hTa.same
        refine mn_iinc (v := nI (k + 1)) (ls' := [(0, .ref mo), (1, .int a1), (2, .int a2), (3, .int a3), (4, .int a4), (5, .int a5), (6, .int (nI (k + 1))), (7, .int a1)]) 6 dMo_feed_104 rfl (nI_add k 1) (by decide) rfl ?_
        refine mn_goto 20 dMo_feed_107 (by decide) ?_
        rw [upd_nI, fdL_s] at hTa_g11
        refine mn_R.sub [0, 1, 2, 3, 4, 5, 6] (ls' := [(0, .ref mo), (1, .int a1), (2, .int a2), (3, .int a3), (4, .int a4), (5, .int a5), (6, .int (nI (k + 1)))]) rfl ?_
        exact ih (k + 1) g11 (by omega) (by omega) (hfr.set eg11 (by show (mo + 1) = mo ∨ (mo + 1) = mo + 1; omega)) hM_g11 hTa_g11
set_option maxRecDepth 100000 in
theorem c_M_feed {E : mn_En} {g : mn_H} {mo tl e sz rp st m r wd ag td om : Nat} {ir : Int32} {tb : Nat → Nat} (hM : mn_at g mo (.inr (11, [.int 0, .ref (mo + 1), .int (nI tl), .ref (mo + 2), .ref (mo + 3), .int (nI e), .int (nI sz), .int (nI rp), .int (nI st), .ref (mo + 4), .ref (mo + 5), .ref (mo + 6), .int ir, .int (nI m), .int (nI r), .int (nI wd), .int (nI ag), .ref (mo + 7), .ref (mo + 8), .ref (mo + 9), .ref (mo + 10), .int (nI td), .int (nI om), .ref (mo + 11), .ref (mo + 12), .ref (mo + 13), .ref (mo + 14), .ref (mo + 15), .ref (mo + 16)]))) (hTa : mn_at g (mo + 1) (.inl (0, 60, .inl (fun j => nI (tb j))))) {a1 a2 a3 a4 a5 : Int32} (hl : tl ≤ 40) : mn_R E MMo_feed 0 0 0 0 0 [(0, .ref mo), (1, .int a1), (2, .int a2), (3, .int a3), (4, .int a4), (5, .int a5)] [] g (fun x g' => x = some (.int (nI (tl + 20))) ∧ mn_fr (fun q => q = mo ∨ q = mo + 1) g g' ∧ mn_at g' mo (.inr (11, [.int 0, .ref (mo + 1), .int (nI (tl + 20)), .ref (mo + 2), .ref (mo + 3), .int (nI e), .int (nI sz), .int (nI rp), .int (nI st), .ref (mo + 4), .ref (mo + 5), .ref (mo + 6), .int ir, .int (nI m), .int (nI r), .int (nI wd), .int (nI ag), .ref (mo + 7), .ref (mo + 8), .ref (mo + 9), .ref (mo + 10), .int (nI td), .int (nI om), .ref (mo + 11), .ref (mo + 12), .ref (mo + 13), .ref (mo + 14), .ref (mo + 15), .ref (mo + 16)])) ∧ mn_at g' (mo + 1) (.inl (0, 60, .inl (fun j => nI (fdL tb tl (fB a1 a2 a3 a4 a5) 20 j))))) := by
  refine mn_aload_n 0 dMo_feed_0 rfl rfl ?_
  refine mn_iconst (v := 0) dMo_feed_1 (by decide) ?_
  refine mn_putf okMo 0 lMo_1 (by decide) rfl hM rfl rfl (Nat.le_of_ble_eq_true rfl) dMo_feed_2 ?_
  obtain ⟨g1, eg1⟩ : ∃ gg_, gg_ = mn_set g mo (.inr (11, [.int 0, .ref (mo + 1), .int (nI tl), .ref (mo + 2), .ref (mo + 3), .int (nI e), .int (nI sz), .int (nI rp), .int (nI st), .ref (mo + 4), .ref (mo + 5), .ref (mo + 6), .int ir, .int (nI m), .int (nI r), .int (nI wd), .int (nI ag), .ref (mo + 7), .ref (mo + 8), .ref (mo + 9), .ref (mo + 10), .int (nI td), .int (nI om), .ref (mo + 11), .ref (mo + 12), .ref (mo + 13), .ref (mo + 14), .ref (mo + 15), .ref (mo + 16)])) := ⟨_, rfl⟩
  refine mn_R.toG eg1 ?_
  have hM_g1 : mn_at g1 mo (.inr (11, [.int 0, .ref (mo + 1), .int (nI tl), .ref (mo + 2), .ref (mo + 3), .int (nI e), .int (nI sz), .int (nI rp), .int (nI st), .ref (mo + 4), .ref (mo + 5), .ref (mo + 6), .int ir, .int (nI m), .int (nI r), .int (nI wd), .int (nI ag), .ref (mo + 7), .ref (mo + 8), .ref (mo + 9), .ref (mo + 10), .int (nI td), .int (nI om), .ref (mo + 11), .ref (mo + 12), .ref (mo + 13), .ref (mo + 14), .ref (mo + 15), .ref (mo + 16)])) := by rw [eg1]; exact hM.same
  have hTa_g1 : mn_at g1 (mo + 1) (.inl (0, 60, .inl (fun j => nI (tb j)))) := by rw [eg1]; exact hTa.off (by omega)
  refine mn_aload_n 0 dMo_feed_5 rfl rfl ?_
  refine mn_get okMo 2 lMo_65 (by decide) hM_g1 rfl dMo_feed_6 ?_
  refine mn_bipush (v := 40) dMo_feed_9 (by decide) ?_
  refine mn_icmp_le 17 dMo_feed_11 (by decide) (fun c2 => ?_) (fun c2 => ?_)
  · have c2 := (nI_leI (a := tl) (b := 40) (by omega) (by omega)).mp c2
    refine mn_iconst (v := 0) dMo_feed_17 (by decide) ?_
    refine mn_istore (ls' := [(0, .ref mo), (1, .int a1), (2, .int a2), (3, .int a3), (4, .int a4), (5, .int a5), (6, .int 0)]) dMo_feed_18 (by decide) rfl ?_
    have h9 : mn_at g1 (mo + 1) (.inl (0, 60, .inl (fun j => nI (fdL tb tl (fB a1 a2 a3 a4 a5) 0 j)))) := by rw [fdL_0]; exact hTa_g1
    exact c_M_feed_l hl 21 0 g1 (by omega) (by omega) (mn_fr.rf.set eg1 (by show mo = mo ∨ mo = mo + 1; omega)) hM_g1 h9
  · have c2 := mt (nI_leI (a := tl) (b := 40) (by omega) (by omega)).mpr c2
    refine mn_bipush (v := (-3)) dMo_feed_14 (by decide) ?_
    exact mn_iret rfl dMo_feed_16 (absurd hl (by omega))
set_option maxRecDepth 100000 in
theorem c_M_end_bad1 {E : mn_En} {g : mn_H} {mo tl e sz rp st m r wd ag td om : Nat} {ir : Int32} (hM : mn_at g mo (.inr (11, [.int 0, .ref (mo + 1), .int (nI tl), .ref (mo + 2), .ref (mo + 3), .int (nI e), .int (nI sz), .int (nI rp), .int (nI st), .ref (mo + 4), .ref (mo + 5), .ref (mo + 6), .int ir, .int (nI m), .int (nI r), .int (nI wd), .int (nI ag), .ref (mo + 7), .ref (mo + 8), .ref (mo + 9), .ref (mo + 10), .int (nI td), .int (nI om), .ref (mo + 11), .ref (mo + 12), .ref (mo + 13), .ref (mo + 14), .ref (mo + 15), .ref (mo + 16)]))) {x : Int32} (hx : x < 0 ∨ 20 < x) : mn_R E MMo_end 1 22 0 0 0 [(0, .ref mo), (1, .int x)] [] g (fun x g' => x = some (.int (-1)) ∧ mn_fr (fun q => q = mo) g g' ∧ mn_at g' mo (.inr (11, [.int 0, .ref (mo + 1), .int (nI tl), .ref (mo + 2), .ref (mo + 3), .int (nI e), .int (nI sz), .int (nI rp), .int (nI st), .ref (mo + 4), .ref (mo + 5), .ref (mo + 6), .int ir, .int (nI m), .int (nI r), .int (nI wd), .int (nI ag), .ref (mo + 7), .ref (mo + 8), .ref (mo + 9), .ref (mo + 10), .int (nI td), .int (nI om), .ref (mo + 11), .ref (mo + 12), .ref (mo + 13), .ref (mo + 14), .ref (mo + 15), .ref (mo + 16)]))) := by
  refine mn_aload_n 0 dMo_end_0 rfl rfl ?_
  refine mn_iconst (v := 0) dMo_end_1 (by decide) ?_
  refine mn_putf okMo 0 lMo_1 (by decide) rfl hM rfl rfl (Nat.le_of_ble_eq_true rfl) dMo_end_2 ?_
  obtain ⟨g1, eg1⟩ : ∃ gg_, gg_ = mn_set g mo (.inr (11, [.int 0, .ref (mo + 1), .int (nI tl), .ref (mo + 2), .ref (mo + 3), .int (nI e), .int (nI sz), .int (nI rp), .int (nI st), .ref (mo + 4), .ref (mo + 5), .ref (mo + 6), .int ir, .int (nI m), .int (nI r), .int (nI wd), .int (nI ag), .ref (mo + 7), .ref (mo + 8), .ref (mo + 9), .ref (mo + 10), .int (nI td), .int (nI om), .ref (mo + 11), .ref (mo + 12), .ref (mo + 13), .ref (mo + 14), .ref (mo + 15), .ref (mo + 16)])) := ⟨_, rfl⟩
  refine mn_R.toG eg1 ?_
  have hM_g1 : mn_at g1 mo (.inr (11, [.int 0, .ref (mo + 1), .int (nI tl), .ref (mo + 2), .ref (mo + 3), .int (nI e), .int (nI sz), .int (nI rp), .int (nI st), .ref (mo + 4), .ref (mo + 5), .ref (mo + 6), .int ir, .int (nI m), .int (nI r), .int (nI wd), .int (nI ag), .ref (mo + 7), .ref (mo + 8), .ref (mo + 9), .ref (mo + 10), .int (nI td), .int (nI om), .ref (mo + 11), .ref (mo + 12), .ref (mo + 13), .ref (mo + 14), .ref (mo + 15), .ref (mo + 16)])) := by rw [eg1]; exact hM.same
  refine mn_iload_n 1 dMo_end_5 rfl rfl ?_
  refine mn_iconst (v := 0) dMo_end_6 (by decide) ?_
  refine mn_bipush (v := 20) dMo_end_7 (by decide) ?_
  refine mn_cS (d' := 0) (w' := 0) (As := [.int x, .int 0, .int 20]) (stk' := [.int 0]) okMo_in lMo_68 dMo_end_9 rfl rfl (Nat.le_of_ble_eq_true rfl) (Nat.le_of_ble_eq_true rfl) (by decide) (c_M_in_n hx) rfl ?_
  refine mn_if_eq 24 dMo_end_12 (by decide) (fun c2 => ?_) (fun c2 => ?_)
  · refine mn_iconst (v := -1) dMo_end_24 (by decide) ?_
    exact mn_iret rfl dMo_end_25 ⟨rfl, (mn_fr.rf.set eg1 (by show mo = mo; omega)), hM_g1⟩
  · exact absurd c2 (by decide)
set_option maxRecDepth 100000 in
theorem c_M_end_bad2 {E : mn_En} {g : mn_H} {mo tl e sz rp st m r wd ag td om : Nat} {ir : Int32} (hM : mn_at g mo (.inr (11, [.int 0, .ref (mo + 1), .int (nI tl), .ref (mo + 2), .ref (mo + 3), .int (nI e), .int (nI sz), .int (nI rp), .int (nI st), .ref (mo + 4), .ref (mo + 5), .ref (mo + 6), .int ir, .int (nI m), .int (nI r), .int (nI wd), .int (nI ag), .ref (mo + 7), .ref (mo + 8), .ref (mo + 9), .ref (mo + 10), .int (nI td), .int (nI om), .ref (mo + 11), .ref (mo + 12), .ref (mo + 13), .ref (mo + 14), .ref (mo + 15), .ref (mo + 16)]))) {n : Nat} (hn : n ≤ 20) (hl : tl < 20) : mn_R E MMo_end 1 22 0 0 0 [(0, .ref mo), (1, .int (nI n))] [] g (fun x g' => x = some (.int (-1)) ∧ mn_fr (fun q => q = mo) g g' ∧ mn_at g' mo (.inr (11, [.int 0, .ref (mo + 1), .int (nI tl), .ref (mo + 2), .ref (mo + 3), .int (nI e), .int (nI sz), .int (nI rp), .int (nI st), .ref (mo + 4), .ref (mo + 5), .ref (mo + 6), .int ir, .int (nI m), .int (nI r), .int (nI wd), .int (nI ag), .ref (mo + 7), .ref (mo + 8), .ref (mo + 9), .ref (mo + 10), .int (nI td), .int (nI om), .ref (mo + 11), .ref (mo + 12), .ref (mo + 13), .ref (mo + 14), .ref (mo + 15), .ref (mo + 16)]))) := by
  refine mn_aload_n 0 dMo_end_0 rfl rfl ?_
  refine mn_iconst (v := 0) dMo_end_1 (by decide) ?_
  refine mn_putf okMo 0 lMo_1 (by decide) rfl hM rfl rfl (Nat.le_of_ble_eq_true rfl) dMo_end_2 ?_
  obtain ⟨g1, eg1⟩ : ∃ gg_, gg_ = mn_set g mo (.inr (11, [.int 0, .ref (mo + 1), .int (nI tl), .ref (mo + 2), .ref (mo + 3), .int (nI e), .int (nI sz), .int (nI rp), .int (nI st), .ref (mo + 4), .ref (mo + 5), .ref (mo + 6), .int ir, .int (nI m), .int (nI r), .int (nI wd), .int (nI ag), .ref (mo + 7), .ref (mo + 8), .ref (mo + 9), .ref (mo + 10), .int (nI td), .int (nI om), .ref (mo + 11), .ref (mo + 12), .ref (mo + 13), .ref (mo + 14), .ref (mo + 15), .ref (mo + 16)])) := ⟨_, rfl⟩
  refine mn_R.toG eg1 ?_
  have hM_g1 : mn_at g1 mo (.inr (11, [.int 0, .ref (mo + 1), .int (nI tl), .ref (mo + 2), .ref (mo + 3), .int (nI e), .int (nI sz), .int (nI rp), .int (nI st), .ref (mo + 4), .ref (mo + 5), .ref (mo + 6), .int ir, .int (nI m), .int (nI r), .int (nI wd), .int (nI ag), .ref (mo + 7), .ref (mo + 8), .ref (mo + 9), .ref (mo + 10), .int (nI td), .int (nI om), .ref (mo + 11), .ref (mo + 12), .ref (mo + 13), .ref (mo + 14), .ref (mo + 15), .ref (mo + 16)])) := by rw [eg1]; exact hM.same
  refine mn_iload_n 1 dMo_end_5 rfl rfl ?_
  refine mn_iconst (v := 0) dMo_end_6 (by decide) ?_
  refine mn_bipush (v := 20) dMo_end_7 (by decide) ?_
  refine mn_cS (d' := 0) (w' := 0) (As := [.int (nI n), .int 0, .int 20]) (stk' := [.int 1]) okMo_in lMo_68 dMo_end_9 rfl rfl (Nat.le_of_ble_eq_true rfl) (Nat.le_of_ble_eq_true rfl) (by decide) (c_M_in_y (nI_pos (by omega)) (ml_lt (a := n) (b := 20) (by omega) (by omega) hn)) rfl ?_
  refine mn_if_eq 24 dMo_end_12 (by decide) (fun c2 => ?_) (fun c2 => ?_)
  · exact absurd c2 (by decide)
  · refine mn_aload_n 0 dMo_end_15 rfl rfl ?_
    refine mn_get okMo 2 lMo_65 (by decide) hM_g1 rfl dMo_end_16 ?_
    refine mn_bipush (v := 20) dMo_end_19 (by decide) ?_
    refine mn_icmp_ge 26 dMo_end_21 (by decide) (fun c3 => ?_) (fun c3 => ?_)
    · have c3 := (nI_leI (a := 20) (b := tl) (by omega) (by omega)).mp c3
      exact absurd hl (by omega)
    · have c3 := mt (nI_leI (a := 20) (b := tl) (by omega) (by omega)).mpr c3
      refine mn_iconst (v := -1) dMo_end_24 (by decide) ?_
      exact mn_iret rfl dMo_end_25 ⟨rfl, (mn_fr.rf.set eg1 (by show mo = mo; omega)), hM_g1⟩
set_option maxRecDepth 100000 in
theorem c_M_end {E : mn_En} {g : mn_H} {mo tl e sz rp st m r wd ag td om : Nat} {ir : Int32} (hM : mn_at g mo (.inr (11, [.int 0, .ref (mo + 1), .int (nI tl), .ref (mo + 2), .ref (mo + 3), .int (nI e), .int (nI sz), .int (nI rp), .int (nI st), .ref (mo + 4), .ref (mo + 5), .ref (mo + 6), .int ir, .int (nI m), .int (nI r), .int (nI wd), .int (nI ag), .ref (mo + 7), .ref (mo + 8), .ref (mo + 9), .ref (mo + 10), .int (nI td), .int (nI om), .ref (mo + 11), .ref (mo + 12), .ref (mo + 13), .ref (mo + 14), .ref (mo + 15), .ref (mo + 16)]))) {n : Nat} (hn : n ≤ 20) (hl : 20 ≤ tl) (hl2 : tl ≤ 60) : mn_R E MMo_end 1 22 0 0 0 [(0, .ref mo), (1, .int (nI n))] [] g (fun x g' => x = some (.int (nI (tl - 20 + n))) ∧ mn_fr (fun q => q = mo) g g' ∧ mn_at g' mo (.inr (11, [.int 0, .ref (mo + 1), .int (nI (tl - 20 + n)), .ref (mo + 2), .ref (mo + 3), .int (nI e), .int (nI sz), .int (nI rp), .int (nI st), .ref (mo + 4), .ref (mo + 5), .ref (mo + 6), .int ir, .int (nI m), .int (nI r), .int (nI wd), .int (nI ag), .ref (mo + 7), .ref (mo + 8), .ref (mo + 9), .ref (mo + 10), .int (nI td), .int (nI om), .ref (mo + 11), .ref (mo + 12), .ref (mo + 13), .ref (mo + 14), .ref (mo + 15), .ref (mo + 16)]))) := by
  refine mn_aload_n 0 dMo_end_0 rfl rfl ?_
  refine mn_iconst (v := 0) dMo_end_1 (by decide) ?_
  refine mn_putf okMo 0 lMo_1 (by decide) rfl hM rfl rfl (Nat.le_of_ble_eq_true rfl) dMo_end_2 ?_
  obtain ⟨g1, eg1⟩ : ∃ gg_, gg_ = mn_set g mo (.inr (11, [.int 0, .ref (mo + 1), .int (nI tl), .ref (mo + 2), .ref (mo + 3), .int (nI e), .int (nI sz), .int (nI rp), .int (nI st), .ref (mo + 4), .ref (mo + 5), .ref (mo + 6), .int ir, .int (nI m), .int (nI r), .int (nI wd), .int (nI ag), .ref (mo + 7), .ref (mo + 8), .ref (mo + 9), .ref (mo + 10), .int (nI td), .int (nI om), .ref (mo + 11), .ref (mo + 12), .ref (mo + 13), .ref (mo + 14), .ref (mo + 15), .ref (mo + 16)])) := ⟨_, rfl⟩
  refine mn_R.toG eg1 ?_
  have hM_g1 : mn_at g1 mo (.inr (11, [.int 0, .ref (mo + 1), .int (nI tl), .ref (mo + 2), .ref (mo + 3), .int (nI e), .int (nI sz), .int (nI rp), .int (nI st), .ref (mo + 4), .ref (mo + 5), .ref (mo + 6), .int ir, .int (nI m), .int (nI r), .int (nI wd), .int (nI ag), .ref (mo + 7), .ref (mo + 8), .ref (mo + 9), .ref (mo + 10), .int (nI td), .int (nI om), .ref (mo + 11), .ref (mo + 12), .ref (mo + 13), .ref (mo + 14), .ref (mo + 15), .ref (mo + 16)])) := by rw [eg1]; exact hM.same
  refine mn_iload_n 1 dMo_end_5 rfl rfl ?_
  refine mn_iconst (v := 0) dMo_end_6 (by decide) ?_
  refine mn_bipush (v := 20) dMo_end_7 (by decide) ?_
  refine mn_cS (d' := 0) (w' := 0) (As := [.int (nI n), .int 0, .int 20]) (stk' := [.int 1]) okMo_in lMo_68 dMo_end_9 rfl rfl (Nat.le_of_ble_eq_true rfl) (Nat.le_of_ble_eq_true rfl) (by decide) (c_M_in_y (nI_pos (by omega)) (ml_lt (a := n) (b := 20) (by omega) (by omega) hn)) rfl ?_
  refine mn_if_eq 24 dMo_end_12 (by decide) (fun c2 => ?_) (fun c2 => ?_)
  · exact absurd c2 (by decide)
  · refine mn_aload_n 0 dMo_end_15 rfl rfl ?_
    refine mn_get okMo 2 lMo_65 (by decide) hM_g1 rfl dMo_end_16 ?_
    refine mn_bipush (v := 20) dMo_end_19 (by decide) ?_
    refine mn_icmp_ge 26 dMo_end_21 (by decide) (fun c3 => ?_) (fun c3 => ?_)
    · have c3 := (nI_leI (a := 20) (b := tl) (by omega) (by omega)).mp c3
      refine mn_aload_n 0 dMo_end_26 rfl rfl ?_
      refine mn_aload_n 0 dMo_end_27 rfl rfl ?_
      refine mn_get okMo 2 lMo_65 (by decide) hM_g1 rfl dMo_end_28 ?_
      refine mn_bipush (v := 20) dMo_end_31 (by decide) ?_
      refine mn_isub (z := nI (tl - 20)) dMo_end_33 (pk_sub (a := tl) (b := 20) (by omega)) ?_
      refine mn_iload_n 1 dMo_end_34 rfl rfl ?_
      refine mn_iadd (z := nI (tl - 20 + n)) dMo_end_35 (nI_add (tl - 20) n) ?_
      refine mn_putf okMo 2 lMo_65 (by decide) rfl hM_g1 rfl rfl (Nat.le_of_ble_eq_true rfl) dMo_end_36 ?_
      obtain ⟨g4, eg4⟩ : ∃ gg_, gg_ = mn_set g1 mo (.inr (11, [.int 0, .ref (mo + 1), .int (nI (tl - 20 + n)), .ref (mo + 2), .ref (mo + 3), .int (nI e), .int (nI sz), .int (nI rp), .int (nI st), .ref (mo + 4), .ref (mo + 5), .ref (mo + 6), .int ir, .int (nI m), .int (nI r), .int (nI wd), .int (nI ag), .ref (mo + 7), .ref (mo + 8), .ref (mo + 9), .ref (mo + 10), .int (nI td), .int (nI om), .ref (mo + 11), .ref (mo + 12), .ref (mo + 13), .ref (mo + 14), .ref (mo + 15), .ref (mo + 16)])) := ⟨_, rfl⟩
      refine mn_R.toG eg4 ?_
      have hM_g4 : mn_at g4 mo (.inr (11, [.int 0, .ref (mo + 1), .int (nI (tl - 20 + n)), .ref (mo + 2), .ref (mo + 3), .int (nI e), .int (nI sz), .int (nI rp), .int (nI st), .ref (mo + 4), .ref (mo + 5), .ref (mo + 6), .int ir, .int (nI m), .int (nI r), .int (nI wd), .int (nI ag), .ref (mo + 7), .ref (mo + 8), .ref (mo + 9), .ref (mo + 10), .int (nI td), .int (nI om), .ref (mo + 11), .ref (mo + 12), .ref (mo + 13), .ref (mo + 14), .ref (mo + 15), .ref (mo + 16)])) := by rw [eg4]; exact hM_g1.same
      refine mn_aload_n 0 dMo_end_39 rfl rfl ?_
      refine mn_get okMo 2 lMo_65 (by decide) hM_g4 rfl dMo_end_40 ?_
      exact mn_iret rfl dMo_end_43 ⟨rfl, ((mn_fr.rf.set eg1 (by show mo = mo; omega)).set eg4 (by show mo = mo; omega)), hM_g4⟩
    · have c3 := mt (nI_leI (a := 20) (b := tl) (by omega) (by omega)).mpr c3
      refine mn_iconst (v := -1) dMo_end_24 (by decide) ?_
      exact mn_iret rfl dMo_end_25 (absurd hl (by omega))
set_option maxRecDepth 100000 in
theorem c_M_entry_full {E : mn_En} {g : mn_H} {mo tl e sz rp st m r wd ag td om : Nat} {ir : Int32} (hM : mn_at g mo (.inr (11, [.int 0, .ref (mo + 1), .int (nI tl), .ref (mo + 2), .ref (mo + 3), .int (nI e), .int (nI sz), .int (nI rp), .int (nI st), .ref (mo + 4), .ref (mo + 5), .ref (mo + 6), .int ir, .int (nI m), .int (nI r), .int (nI wd), .int (nI ag), .ref (mo + 7), .ref (mo + 8), .ref (mo + 9), .ref (mo + 10), .int (nI td), .int (nI om), .ref (mo + 11), .ref (mo + 12), .ref (mo + 13), .ref (mo + 14), .ref (mo + 15), .ref (mo + 16)]))) (he : e = 20) : mn_R E MMo_entry 2 45 0 0 0 [(0, .ref mo)] [] g (fun x g' => x = some (.int (-3)) ∧ mn_fr (fun q => q = mo) g g' ∧ mn_at g' mo (.inr (11, [.int 0, .ref (mo + 1), .int (nI tl), .ref (mo + 2), .ref (mo + 3), .int (nI e), .int (nI sz), .int (nI rp), .int (nI st), .ref (mo + 4), .ref (mo + 5), .ref (mo + 6), .int ir, .int (nI m), .int (nI r), .int (nI wd), .int (nI ag), .ref (mo + 7), .ref (mo + 8), .ref (mo + 9), .ref (mo + 10), .int (nI td), .int (nI om), .ref (mo + 11), .ref (mo + 12), .ref (mo + 13), .ref (mo + 14), .ref (mo + 15), .ref (mo + 16)]))) := by
  refine mn_aload_n 0 dMo_entry_0 rfl rfl ?_
  refine mn_iconst (v := 0) dMo_entry_1 (by decide) ?_
  refine mn_putf okMo 0 lMo_1 (by decide) rfl hM rfl rfl (Nat.le_of_ble_eq_true rfl) dMo_entry_2 ?_
  obtain ⟨g1, eg1⟩ : ∃ gg_, gg_ = mn_set g mo (.inr (11, [.int 0, .ref (mo + 1), .int (nI tl), .ref (mo + 2), .ref (mo + 3), .int (nI e), .int (nI sz), .int (nI rp), .int (nI st), .ref (mo + 4), .ref (mo + 5), .ref (mo + 6), .int ir, .int (nI m), .int (nI r), .int (nI wd), .int (nI ag), .ref (mo + 7), .ref (mo + 8), .ref (mo + 9), .ref (mo + 10), .int (nI td), .int (nI om), .ref (mo + 11), .ref (mo + 12), .ref (mo + 13), .ref (mo + 14), .ref (mo + 15), .ref (mo + 16)])) := ⟨_, rfl⟩
  refine mn_R.toG eg1 ?_
  have hM_g1 : mn_at g1 mo (.inr (11, [.int 0, .ref (mo + 1), .int (nI tl), .ref (mo + 2), .ref (mo + 3), .int (nI e), .int (nI sz), .int (nI rp), .int (nI st), .ref (mo + 4), .ref (mo + 5), .ref (mo + 6), .int ir, .int (nI m), .int (nI r), .int (nI wd), .int (nI ag), .ref (mo + 7), .ref (mo + 8), .ref (mo + 9), .ref (mo + 10), .int (nI td), .int (nI om), .ref (mo + 11), .ref (mo + 12), .ref (mo + 13), .ref (mo + 14), .ref (mo + 15), .ref (mo + 16)])) := by rw [eg1]; exact hM.same
  refine mn_aload_n 0 dMo_entry_5 rfl rfl ?_
  refine mn_get okMo 5 lMo_77 (by decide) hM_g1 rfl dMo_entry_6 ?_
  refine mn_bipush (v := 20) dMo_entry_9 (by decide) ?_
  refine mn_icmp_ne 17 dMo_entry_11 (by decide) (fun c2 => ?_) (fun c2 => ?_)
  · have c2 := mt (nI_eq (a := e) (b := 20) (by omega) (by omega)).mpr c2
    exact absurd he c2
  · have c2 := (nI_eq (a := e) (b := 20) (by omega) (by omega)).mp c2
    refine mn_bipush (v := (-3)) dMo_entry_14 (by decide) ?_
    exact mn_iret rfl dMo_entry_16 ⟨rfl, (mn_fr.rf.set eg1 (by show mo = mo; omega)), hM_g1⟩
set_option maxRecDepth 100000 in
theorem c_M_entry_l {E : mn_En} {g : mn_H} {mo tl e sz rp st m r wd ag td om : Nat} {ir : Int32} {tb sm bg : Nat → Nat} {x2 : Int32} (he : e < 20) (hlen : bg e + 3 + tl ≤ 1260) (htl : tl ≤ 60) : ∀ (fu k : Nat) (g0 : mn_H), k ≤ tl → tl - k < fu → mn_fr (fun q => q = mo ∨ q = mo + 2 ∨ q = mo + 3) g g0 → mn_at g0 mo (.inr (11, [.int 0, .ref (mo + 1), .int (nI tl), .ref (mo + 2), .ref (mo + 3), .int (nI e), .int (nI sz), .int (nI rp), .int (nI st), .ref (mo + 4), .ref (mo + 5), .ref (mo + 6), .int ir, .int (nI m), .int (nI r), .int (nI wd), .int (nI ag), .ref (mo + 7), .ref (mo + 8), .ref (mo + 9), .ref (mo + 10), .int (nI td), .int (nI om), .ref (mo + 11), .ref (mo + 12), .ref (mo + 13), .ref (mo + 14), .ref (mo + 15), .ref (mo + 16)])) → mn_at g0 (mo + 1) (.inl (0, 60, .inl (fun j => nI (tb j)))) → mn_at g0 (mo + 2) (.inl (0, 1260, .inl (fun j => nI ((apL sm (bg e) tl (suN tb 0 tl) tb k) j)))) → mn_at g0 (mo + 3) (.inl (0, 21, .inl (fun j => nI (bg j)))) → mn_R E MMo_entry 2 45 0 0 78 [(0, .ref mo), (1, .int (nI (bg e))), (2, .int x2), (3, .int (nI k))] [] g0 (fun x g' => x = some (.int (nI e)) ∧ mn_fr (fun q => q = mo ∨ q = mo + 2 ∨ q = mo + 3) g g' ∧ mn_at g' mo (.inr (11, [.int 0, .ref (mo + 1), .int 0, .ref (mo + 2), .ref (mo + 3), .int (nI (e + 1)), .int (nI sz), .int (nI rp), .int (nI st), .ref (mo + 4), .ref (mo + 5), .ref (mo + 6), .int ir, .int (nI m), .int (nI r), .int (nI wd), .int (nI ag), .ref (mo + 7), .ref (mo + 8), .ref (mo + 9), .ref (mo + 10), .int (nI td), .int (nI om), .ref (mo + 11), .ref (mo + 12), .ref (mo + 13), .ref (mo + 14), .ref (mo + 15), .ref (mo + 16)])) ∧ mn_at g' (mo + 2) (.inl (0, 1260, .inl (fun j => nI (apL sm (bg e) tl (suN tb 0 tl) tb tl j)))) ∧ mn_at g' (mo + 3) (.inl (0, 21, .inl (fun j => nI (va_up bg (e + 1) (bg e + 3 + tl) j))))) := by
  intro fu
  induction fu with
  | zero => intro k g0 h1 h2; exact absurd h2 (by omega)
  | succ fu ih =>
    intro k g0 h1 h2 hfr hM hTa hSm hBg
    refine mn_iload_n 3 dMo_entry_78 rfl rfl ?_
    refine mn_aload_n 0 dMo_entry_79 rfl rfl ?_
    refine mn_get okMo 2 lMo_65 (by decide) hM rfl dMo_entry_80 ?_
    refine mn_icmp_ge 108 dMo_entry_83 (by decide) (fun c1 => ?_) (fun c1 => ?_)
    · have c1 := (nI_leI (a := tl) (b := k) (by omega) (by omega)).mp c1
      refine mn_aload_n 0 dMo_entry_108 rfl rfl ?_
      refine mn_dup dMo_entry_109 rfl ?_
      refine mn_get okMo 5 lMo_77 (by decide) hM rfl dMo_entry_110 ?_
      refine mn_iconst (v := 1) dMo_entry_113 (by decide) ?_
      refine mn_iadd (z := nI (e + 1)) dMo_entry_114 (nI_add e 1) ?_
      refine mn_putf okMo 5 lMo_77 (by decide) rfl hM rfl rfl (Nat.le_of_ble_eq_true rfl) dMo_entry_115 ?_
      obtain ⟨g2, eg2⟩ : ∃ gg_, gg_ = mn_set g0 mo (.inr (11, [.int 0, .ref (mo + 1), .int (nI tl), .ref (mo + 2), .ref (mo + 3), .int (nI (e + 1)), .int (nI sz), .int (nI rp), .int (nI st), .ref (mo + 4), .ref (mo + 5), .ref (mo + 6), .int ir, .int (nI m), .int (nI r), .int (nI wd), .int (nI ag), .ref (mo + 7), .ref (mo + 8), .ref (mo + 9), .ref (mo + 10), .int (nI td), .int (nI om), .ref (mo + 11), .ref (mo + 12), .ref (mo + 13), .ref (mo + 14), .ref (mo + 15), .ref (mo + 16)])) := ⟨_, rfl⟩
      refine mn_R.toG eg2 ?_
      have hM_g2 : mn_at g2 mo (.inr (11, [.int 0, .ref (mo + 1), .int (nI tl), .ref (mo + 2), .ref (mo + 3), .int (nI (e + 1)), .int (nI sz), .int (nI rp), .int (nI st), .ref (mo + 4), .ref (mo + 5), .ref (mo + 6), .int ir, .int (nI m), .int (nI r), .int (nI wd), .int (nI ag), .ref (mo + 7), .ref (mo + 8), .ref (mo + 9), .ref (mo + 10), .int (nI td), .int (nI om), .ref (mo + 11), .ref (mo + 12), .ref (mo + 13), .ref (mo + 14), .ref (mo + 15), .ref (mo + 16)])) := by rw [eg2]; exact hM.same
      have hTa_g2 : mn_at g2 (mo + 1) (.inl (0, 60, .inl (fun j => nI (tb j)))) := by rw [eg2]; exact hTa.off (by omega)
      have hSm_g2 : mn_at g2 (mo + 2) (.inl (0, 1260, .inl (fun j => nI ((apL sm (bg e) tl (suN tb 0 tl) tb k) j)))) := by rw [eg2]; exact hSm.off (by omega)
      have hBg_g2 : mn_at g2 (mo + 3) (.inl (0, 21, .inl (fun j => nI (bg j)))) := by rw [eg2]; exact hBg.off (by omega)
      refine mn_aload_n 0 dMo_entry_118 rfl rfl ?_
      refine mn_get okMo 4 lMo_20 (by decide) hM_g2 rfl dMo_entry_119 ?_
      refine mn_aload_n 0 dMo_entry_122 rfl rfl ?_
      refine mn_get okMo 5 lMo_77 (by decide) hM_g2 rfl dMo_entry_123 ?_
      refine mn_iload_n 1 dMo_entry_126 rfl rfl ?_
      refine mn_iconst (v := 3) dMo_entry_127 (by decide) ?_
      refine mn_iadd (z := nI (bg e + 3)) dMo_entry_128 (nI_add (bg e) 3) ?_
      refine mn_aload_n 0 dMo_entry_129 rfl rfl ?_
      refine mn_get okMo 2 lMo_65 (by decide) hM_g2 rfl dMo_entry_130 ?_
      refine mn_iadd (z := nI (bg e + 3 + tl)) dMo_entry_133 (nI_add (bg e + 3) tl) ?_
      refine mn_iastN (j := e + 1) hBg_g2 rfl (by omega) (by omega) dMo_entry_134 ?_
      obtain ⟨g3, eg3⟩ : ∃ gg_, gg_ = mn_set g2 (mo + 3) (.inl (0, 21, .inl (upd (fun j => nI (bg j)) (e + 1) (nI (bg e + 3 + tl))))) := ⟨_, rfl⟩
      refine mn_R.toG eg3 ?_
      have hM_g3 : mn_at g3 mo (.inr (11, [.int 0, .ref (mo + 1), .int (nI tl), .ref (mo + 2), .ref (mo + 3), .int (nI (e + 1)), .int (nI sz), .int (nI rp), .int (nI st), .ref (mo + 4), .ref (mo + 5), .ref (mo + 6), .int ir, .int (nI m), .int (nI r), .int (nI wd), .int (nI ag), .ref (mo + 7), .ref (mo + 8), .ref (mo + 9), .ref (mo + 10), .int (nI td), .int (nI om), .ref (mo + 11), .ref (mo + 12), .ref (mo + 13), .ref (mo + 14), .ref (mo + 15), .ref (mo + 16)])) := by rw [eg3]; exact hM_g2.off (by omega)
      have hTa_g3 : mn_at g3 (mo + 1) (.inl (0, 60, .inl (fun j => nI (tb j)))) := by rw [eg3]; exact hTa_g2.off (by omega)
      have hSm_g3 : mn_at g3 (mo + 2) (.inl (0, 1260, .inl (fun j => nI ((apL sm (bg e) tl (suN tb 0 tl) tb k) j)))) := by rw [eg3]; exact hSm_g2.off (by omega)
      have hBg_g3 : mn_at g3 (mo + 3) (.inl (0, 21, .inl (upd (fun j => nI (bg j)) (e + 1) (nI (bg e + 3 + tl))))) := by rw [eg3]; exact hBg_g2.same
      refine mn_aload_n 0 dMo_entry_135 rfl rfl ?_
      refine mn_iconst (v := 0) dMo_entry_136 (by decide) ?_
      refine mn_putf okMo 2 lMo_65 (by decide) rfl hM_g3 rfl rfl (Nat.le_of_ble_eq_true rfl) dMo_entry_137 ?_
      obtain ⟨g4, eg4⟩ : ∃ gg_, gg_ = mn_set g3 mo (.inr (11, [.int 0, .ref (mo + 1), .int 0, .ref (mo + 2), .ref (mo + 3), .int (nI (e + 1)), .int (nI sz), .int (nI rp), .int (nI st), .ref (mo + 4), .ref (mo + 5), .ref (mo + 6), .int ir, .int (nI m), .int (nI r), .int (nI wd), .int (nI ag), .ref (mo + 7), .ref (mo + 8), .ref (mo + 9), .ref (mo + 10), .int (nI td), .int (nI om), .ref (mo + 11), .ref (mo + 12), .ref (mo + 13), .ref (mo + 14), .ref (mo + 15), .ref (mo + 16)])) := ⟨_, rfl⟩
      refine mn_R.toG eg4 ?_
      have hM_g4 : mn_at g4 mo (.inr (11, [.int 0, .ref (mo + 1), .int 0, .ref (mo + 2), .ref (mo + 3), .int (nI (e + 1)), .int (nI sz), .int (nI rp), .int (nI st), .ref (mo + 4), .ref (mo + 5), .ref (mo + 6), .int ir, .int (nI m), .int (nI r), .int (nI wd), .int (nI ag), .ref (mo + 7), .ref (mo + 8), .ref (mo + 9), .ref (mo + 10), .int (nI td), .int (nI om), .ref (mo + 11), .ref (mo + 12), .ref (mo + 13), .ref (mo + 14), .ref (mo + 15), .ref (mo + 16)])) := by rw [eg4]; exact hM_g3.same
      have hTa_g4 : mn_at g4 (mo + 1) (.inl (0, 60, .inl (fun j => nI (tb j)))) := by rw [eg4]; exact hTa_g3.off (by omega)
      have hSm_g4 : mn_at g4 (mo + 2) (.inl (0, 1260, .inl (fun j => nI ((apL sm (bg e) tl (suN tb 0 tl) tb k) j)))) := by rw [eg4]; exact hSm_g3.off (by omega)
      have hBg_g4 : mn_at g4 (mo + 3) (.inl (0, 21, .inl (upd (fun j => nI (bg j)) (e + 1) (nI (bg e + 3 + tl))))) := by rw [eg4]; exact hBg_g3.off (by omega)
      refine mn_aload_n 0 dMo_entry_140 rfl rfl ?_
      refine mn_get okMo 5 lMo_77 (by decide) hM_g4 rfl dMo_entry_141 ?_
      refine mn_iconst (v := 1) dMo_entry_144 (by decide) ?_
      refine mn_isub (z := nI e) dMo_entry_145 (pk_sub (a := e + 1) (b := 1) (by omega)) ?_
      exact mn_iret rfl dMo_entry_146 (by obtain rfl : k = tl := (by omega); have h7 := hBg_g4; rw [upd_nI] at h7; exact ⟨rfl, (((hfr.set eg2 (by show mo = mo ∨ mo = mo + 2 ∨ mo = mo + 3; omega)).set eg3 (by show (mo + 3) = mo ∨ (mo + 3) = mo + 2 ∨ (mo + 3) = mo + 3; omega)).set eg4 (by show mo = mo ∨ mo = mo + 2 ∨ mo = mo + 3; omega)), hM_g4, hSm_g4, h7⟩)
    · have c1 := mt (nI_leI (a := tl) (b := k) (by omega) (by omega)).mpr c1
      refine mn_aload_n 0 dMo_entry_86 rfl rfl ?_
      refine mn_get okMo 3 lMo_17 (by decide) hM rfl dMo_entry_87 ?_
      refine mn_iload_n 1 dMo_entry_90 rfl rfl ?_
      refine mn_iconst (v := 3) dMo_entry_91 (by decide) ?_
      refine mn_iadd (z := nI (bg e + 3)) dMo_entry_92 (nI_add (bg e) 3) ?_
      refine mn_iload_n 3 dMo_entry_93 rfl rfl ?_
      refine mn_iadd (z := nI (bg e + 3 + k)) dMo_entry_94 (nI_add (bg e + 3) k) ?_
      refine mn_aload_n 0 dMo_entry_95 rfl rfl ?_
      refine mn_get okMo 1 lMo_13 (by decide) hM rfl dMo_entry_96 ?_
      refine mn_iload_n 3 dMo_entry_99 rfl rfl ?_
      refine mn_ialdN (j := k) hTa rfl (by omega) (by omega) dMo_entry_100 ?_
      refine mn_iastN (j := bg e + 3 + k) hSm rfl (by omega) (by omega) dMo_entry_101 ?_
      obtain ⟨g5, eg5⟩ : ∃ gg_, gg_ = mn_set g0 (mo + 2) (.inl (0, 1260, .inl (upd (fun j => nI ((apL sm (bg e) tl (suN tb 0 tl) tb k) j)) (bg e + 3 + k) (nI (tb k))))) := ⟨_, rfl⟩
      refine mn_R.toG eg5 ?_
      have hM_g5 : mn_at g5 mo (.inr (11, [.int 0, .ref (mo + 1), .int (nI tl), .ref (mo + 2), .ref (mo + 3), .int (nI e), .int (nI sz), .int (nI rp), .int (nI st), .ref (mo + 4), .ref (mo + 5), .ref (mo + 6), .int ir, .int (nI m), .int (nI r), .int (nI wd), .int (nI ag), .ref (mo + 7), .ref (mo + 8), .ref (mo + 9), .ref (mo + 10), .int (nI td), .int (nI om), .ref (mo + 11), .ref (mo + 12), .ref (mo + 13), .ref (mo + 14), .ref (mo + 15), .ref (mo + 16)])) := by rw [eg5]; exact hM.off (by omega)
      have hTa_g5 : mn_at g5 (mo + 1) (.inl (0, 60, .inl (fun j => nI (tb j)))) := by rw [eg5]; exact hTa.off (by omega)
      have hSm_g5 : mn_at g5 (mo + 2) (.inl (0, 1260, .inl (upd (fun j => nI ((apL sm (bg e) tl (suN tb 0 tl) tb k) j)) (bg e + 3 + k) (nI (tb k))))) := by rw [eg5]; exact hSm.same
      have hBg_g5 : mn_at g5 (mo + 3) (.inl (0, 21, .inl (fun j => nI (bg j)))) := by rw [eg5]; exact hBg.off (by omega)
      refine mn_iinc (v := nI (k + 1)) (ls' := [(0, .ref mo), (1, .int (nI (bg e))), (2, .int x2), (3, .int (nI (k + 1)))]) 3 dMo_entry_102 rfl (nI_add k 1) (by decide) rfl ?_
      refine mn_goto 78 dMo_entry_105 (by decide) ?_
      rw [upd_nI, apL_s] at hSm_g5
      exact ih (k + 1) g5 (by omega) (by omega) (hfr.set eg5 (by show (mo + 2) = mo ∨ (mo + 2) = mo + 2 ∨ (mo + 2) = mo + 3; omega)) hM_g5 hTa_g5 hSm_g5 hBg_g5
set_option maxRecDepth 100000 in
theorem c_M_entry {E : mn_En} {g : mn_H} {mo tl e sz rp st m r wd ag td om : Nat} {ir : Int32} {tb sm bg : Nat → Nat} (hM : mn_at g mo (.inr (11, [.int 0, .ref (mo + 1), .int (nI tl), .ref (mo + 2), .ref (mo + 3), .int (nI e), .int (nI sz), .int (nI rp), .int (nI st), .ref (mo + 4), .ref (mo + 5), .ref (mo + 6), .int ir, .int (nI m), .int (nI r), .int (nI wd), .int (nI ag), .ref (mo + 7), .ref (mo + 8), .ref (mo + 9), .ref (mo + 10), .int (nI td), .int (nI om), .ref (mo + 11), .ref (mo + 12), .ref (mo + 13), .ref (mo + 14), .ref (mo + 15), .ref (mo + 16)]))) (hTa : mn_at g (mo + 1) (.inl (0, 60, .inl (fun j => nI (tb j))))) (hSm : mn_at g (mo + 2) (.inl (0, 1260, .inl (fun j => nI (sm j))))) (hBg : mn_at g (mo + 3) (.inl (0, 21, .inl (fun j => nI (bg j))))) (he : e < 20) (hlen : bg e + 3 + tl ≤ 1260) (htl : tl ≤ 60) : mn_R E MMo_entry 2 45 0 0 0 [(0, .ref mo)] [] g (fun x g' => x = some (.int (nI e)) ∧ mn_fr (fun q => q = mo ∨ q = mo + 2 ∨ q = mo + 3) g g' ∧ mn_at g' mo (.inr (11, [.int 0, .ref (mo + 1), .int 0, .ref (mo + 2), .ref (mo + 3), .int (nI (e + 1)), .int (nI sz), .int (nI rp), .int (nI st), .ref (mo + 4), .ref (mo + 5), .ref (mo + 6), .int ir, .int (nI m), .int (nI r), .int (nI wd), .int (nI ag), .ref (mo + 7), .ref (mo + 8), .ref (mo + 9), .ref (mo + 10), .int (nI td), .int (nI om), .ref (mo + 11), .ref (mo + 12), .ref (mo + 13), .ref (mo + 14), .ref (mo + 15), .ref (mo + 16)])) ∧ mn_at g' (mo + 2) (.inl (0, 1260, .inl (fun j => nI (apL sm (bg e) tl (suN tb 0 tl) tb tl j)))) ∧ mn_at g' (mo + 3) (.inl (0, 21, .inl (fun j => nI (va_up bg (e + 1) (bg e + 3 + tl) j))))) := by
  have hsu := suN_lt tb 0 tl
  refine mn_aload_n 0 dMo_entry_0 rfl rfl ?_
  refine mn_iconst (v := 0) dMo_entry_1 (by decide) ?_
  refine mn_putf okMo 0 lMo_1 (by decide) rfl hM rfl rfl (Nat.le_of_ble_eq_true rfl) dMo_entry_2 ?_
  obtain ⟨g1, eg1⟩ : ∃ gg_, gg_ = mn_set g mo (.inr (11, [.int 0, .ref (mo + 1), .int (nI tl), .ref (mo + 2), .ref (mo + 3), .int (nI e), .int (nI sz), .int (nI rp), .int (nI st), .ref (mo + 4), .ref (mo + 5), .ref (mo + 6), .int ir, .int (nI m), .int (nI r), .int (nI wd), .int (nI ag), .ref (mo + 7), .ref (mo + 8), .ref (mo + 9), .ref (mo + 10), .int (nI td), .int (nI om), .ref (mo + 11), .ref (mo + 12), .ref (mo + 13), .ref (mo + 14), .ref (mo + 15), .ref (mo + 16)])) := ⟨_, rfl⟩
  refine mn_R.toG eg1 ?_
  have hM_g1 : mn_at g1 mo (.inr (11, [.int 0, .ref (mo + 1), .int (nI tl), .ref (mo + 2), .ref (mo + 3), .int (nI e), .int (nI sz), .int (nI rp), .int (nI st), .ref (mo + 4), .ref (mo + 5), .ref (mo + 6), .int ir, .int (nI m), .int (nI r), .int (nI wd), .int (nI ag), .ref (mo + 7), .ref (mo + 8), .ref (mo + 9), .ref (mo + 10), .int (nI td), .int (nI om), .ref (mo + 11), .ref (mo + 12), .ref (mo + 13), .ref (mo + 14), .ref (mo + 15), .ref (mo + 16)])) := by rw [eg1]; exact hM.same
  have hTa_g1 : mn_at g1 (mo + 1) (.inl (0, 60, .inl (fun j => nI (tb j)))) := by rw [eg1]; exact hTa.off (by omega)
  have hSm_g1 : mn_at g1 (mo + 2) (.inl (0, 1260, .inl (fun j => nI (sm j)))) := by rw [eg1]; exact hSm.off (by omega)
  have hBg_g1 : mn_at g1 (mo + 3) (.inl (0, 21, .inl (fun j => nI (bg j)))) := by rw [eg1]; exact hBg.off (by omega)
  refine mn_aload_n 0 dMo_entry_5 rfl rfl ?_
  refine mn_get okMo 5 lMo_77 (by decide) hM_g1 rfl dMo_entry_6 ?_
  refine mn_bipush (v := 20) dMo_entry_9 (by decide) ?_
  refine mn_icmp_ne 17 dMo_entry_11 (by decide) (fun c2 => ?_) (fun c2 => ?_)
  · have c2 := mt (nI_eq (a := e) (b := 20) (by omega) (by omega)).mpr c2
    refine mn_aload_n 0 dMo_entry_17 rfl rfl ?_
    refine mn_get okMo 4 lMo_20 (by decide) hM_g1 rfl dMo_entry_18 ?_
    refine mn_aload_n 0 dMo_entry_21 rfl rfl ?_
    refine mn_get okMo 5 lMo_77 (by decide) hM_g1 rfl dMo_entry_22 ?_
    refine mn_ialdN (j := e) hBg_g1 rfl (by omega) (by omega) dMo_entry_25 ?_
    refine mn_istore_n (ls' := [(0, .ref mo), (1, .int (nI (bg e)))]) dMo_entry_26 rfl (by decide) rfl ?_
    refine mn_aload_n 0 dMo_entry_27 rfl rfl ?_
    refine mn_get okMo 1 lMo_13 (by decide) hM_g1 rfl dMo_entry_28 ?_
    refine mn_iconst (v := 0) dMo_entry_31 (by decide) ?_
    refine mn_aload_n 0 dMo_entry_32 rfl rfl ?_
    refine mn_get okMo 2 lMo_65 (by decide) hM_g1 rfl dMo_entry_33 ?_
    refine mn_cS (d' := 1) (w' := 21) (As := [.ref (mo + 1), .int 0, .int (nI tl)]) (stk' := [.int (nI (suN tb 0 tl))]) okMo_sum lMo_80 dMo_entry_36 rfl rfl (Nat.le_of_ble_eq_true rfl) (Nat.le_of_ble_eq_true rfl) (by decide) (c_M_sumN hTa_g1 (fr := 0) (n := tl) (by omega) (by omega)) rfl ?_
    refine mn_istore_n (ls' := [(0, .ref mo), (1, .int (nI (bg e))), (2, .int (nI (suN tb 0 tl)))]) dMo_entry_39 rfl (by decide) rfl ?_
    refine mn_aload_n 0 dMo_entry_40 rfl rfl ?_
    refine mn_get okMo 3 lMo_17 (by decide) hM_g1 rfl dMo_entry_41 ?_
    refine mn_iload_n 1 dMo_entry_44 rfl rfl ?_
    refine mn_aload_n 0 dMo_entry_45 rfl rfl ?_
    refine mn_get okMo 2 lMo_65 (by decide) hM_g1 rfl dMo_entry_46 ?_
    refine mn_iastN (j := bg e) hSm_g1 rfl (by omega) (by omega) dMo_entry_49 ?_
    obtain ⟨g3, eg3⟩ : ∃ gg_, gg_ = mn_set g1 (mo + 2) (.inl (0, 1260, .inl (upd (fun j => nI (sm j)) (bg e) (nI tl)))) := ⟨_, rfl⟩
    refine mn_R.toG eg3 ?_
    have hM_g3 : mn_at g3 mo (.inr (11, [.int 0, .ref (mo + 1), .int (nI tl), .ref (mo + 2), .ref (mo + 3), .int (nI e), .int (nI sz), .int (nI rp), .int (nI st), .ref (mo + 4), .ref (mo + 5), .ref (mo + 6), .int ir, .int (nI m), .int (nI r), .int (nI wd), .int (nI ag), .ref (mo + 7), .ref (mo + 8), .ref (mo + 9), .ref (mo + 10), .int (nI td), .int (nI om), .ref (mo + 11), .ref (mo + 12), .ref (mo + 13), .ref (mo + 14), .ref (mo + 15), .ref (mo + 16)])) := by rw [eg3]; exact hM_g1.off (by omega)
    have hTa_g3 : mn_at g3 (mo + 1) (.inl (0, 60, .inl (fun j => nI (tb j)))) := by rw [eg3]; exact hTa_g1.off (by omega)
    have hSm_g3 : mn_at g3 (mo + 2) (.inl (0, 1260, .inl (upd (fun j => nI (sm j)) (bg e) (nI tl)))) := by rw [eg3]; exact hSm_g1.same
    have hBg_g3 : mn_at g3 (mo + 3) (.inl (0, 21, .inl (fun j => nI (bg j)))) := by rw [eg3]; exact hBg_g1.off (by omega)
    refine mn_aload_n 0 dMo_entry_50 rfl rfl ?_
    refine mn_get okMo 3 lMo_17 (by decide) hM_g3 rfl dMo_entry_51 ?_
    refine mn_iload_n 1 dMo_entry_54 rfl rfl ?_
    refine mn_iconst (v := 1) dMo_entry_55 (by decide) ?_
    refine mn_iadd (z := nI (bg e + 1)) dMo_entry_56 (nI_add (bg e) 1) ?_
    refine mn_iload_n 2 dMo_entry_57 rfl rfl ?_
    refine mn_sipush (v := 256) dMo_entry_58 (by decide) ?_
    refine mn_irem (z := nI ((suN tb 0 tl) % 256)) dMo_entry_61 (nI_ne0 (n := 256) (by omega) (by omega)) (pk_rem (a := suN tb 0 tl) (d := 256) (by omega) (by omega) (by omega)) ?_
    refine mn_iastN (j := bg e + 1) hSm_g3 rfl (by omega) (by omega) dMo_entry_62 ?_
    obtain ⟨g4, eg4⟩ : ∃ gg_, gg_ = mn_set g3 (mo + 2) (.inl (0, 1260, .inl (upd (upd (fun j => nI (sm j)) (bg e) (nI tl)) (bg e + 1) (nI ((suN tb 0 tl) % 256))))) := ⟨_, rfl⟩
    refine mn_R.toG eg4 ?_
    have hM_g4 : mn_at g4 mo (.inr (11, [.int 0, .ref (mo + 1), .int (nI tl), .ref (mo + 2), .ref (mo + 3), .int (nI e), .int (nI sz), .int (nI rp), .int (nI st), .ref (mo + 4), .ref (mo + 5), .ref (mo + 6), .int ir, .int (nI m), .int (nI r), .int (nI wd), .int (nI ag), .ref (mo + 7), .ref (mo + 8), .ref (mo + 9), .ref (mo + 10), .int (nI td), .int (nI om), .ref (mo + 11), .ref (mo + 12), .ref (mo + 13), .ref (mo + 14), .ref (mo + 15), .ref (mo + 16)])) := by rw [eg4]; exact hM_g3.off (by omega)
    have hTa_g4 : mn_at g4 (mo + 1) (.inl (0, 60, .inl (fun j => nI (tb j)))) := by rw [eg4]; exact hTa_g3.off (by omega)
    have hSm_g4 : mn_at g4 (mo + 2) (.inl (0, 1260, .inl (upd (upd (fun j => nI (sm j)) (bg e) (nI tl)) (bg e + 1) (nI ((suN tb 0 tl) % 256))))) := by rw [eg4]; exact hSm_g3.same
    have hBg_g4 : mn_at g4 (mo + 3) (.inl (0, 21, .inl (fun j => nI (bg j)))) := by rw [eg4]; exact hBg_g3.off (by omega)
    refine mn_aload_n 0 dMo_entry_63 rfl rfl ?_
    refine mn_get okMo 3 lMo_17 (by decide) hM_g4 rfl dMo_entry_64 ?_
    refine mn_iload_n 1 dMo_entry_67 rfl rfl ?_
    refine mn_iconst (v := 2) dMo_entry_68 (by decide) ?_
    refine mn_iadd (z := nI (bg e + 2)) dMo_entry_69 (nI_add (bg e) 2) ?_
    refine mn_iload_n 2 dMo_entry_70 rfl rfl ?_
    refine mn_sipush (v := 256) dMo_entry_71 (by decide) ?_
    refine mn_idiv (z := nI ((suN tb 0 tl) / 256)) dMo_entry_74 (nI_ne0 (n := 256) (by omega) (by omega)) (pk_div (a := suN tb 0 tl) (d := 256) (by omega) (by omega) (by omega)) ?_
    refine mn_iastN (j := bg e + 2) hSm_g4 rfl (by omega) (by omega) dMo_entry_75 ?_
    obtain ⟨g5, eg5⟩ : ∃ gg_, gg_ = mn_set g4 (mo + 2) (.inl (0, 1260, .inl (upd (upd (upd (fun j => nI (sm j)) (bg e) (nI tl)) (bg e + 1) (nI ((suN tb 0 tl) % 256))) (bg e + 2) (nI ((suN tb 0 tl) / 256))))) := ⟨_, rfl⟩
    refine mn_R.toG eg5 ?_
    have hM_g5 : mn_at g5 mo (.inr (11, [.int 0, .ref (mo + 1), .int (nI tl), .ref (mo + 2), .ref (mo + 3), .int (nI e), .int (nI sz), .int (nI rp), .int (nI st), .ref (mo + 4), .ref (mo + 5), .ref (mo + 6), .int ir, .int (nI m), .int (nI r), .int (nI wd), .int (nI ag), .ref (mo + 7), .ref (mo + 8), .ref (mo + 9), .ref (mo + 10), .int (nI td), .int (nI om), .ref (mo + 11), .ref (mo + 12), .ref (mo + 13), .ref (mo + 14), .ref (mo + 15), .ref (mo + 16)])) := by rw [eg5]; exact hM_g4.off (by omega)
    have hTa_g5 : mn_at g5 (mo + 1) (.inl (0, 60, .inl (fun j => nI (tb j)))) := by rw [eg5]; exact hTa_g4.off (by omega)
    have hSm_g5 : mn_at g5 (mo + 2) (.inl (0, 1260, .inl (upd (upd (upd (fun j => nI (sm j)) (bg e) (nI tl)) (bg e + 1) (nI ((suN tb 0 tl) % 256))) (bg e + 2) (nI ((suN tb 0 tl) / 256))))) := by rw [eg5]; exact hSm_g4.same
    have hBg_g5 : mn_at g5 (mo + 3) (.inl (0, 21, .inl (fun j => nI (bg j)))) := by rw [eg5]; exact hBg_g4.off (by omega)
    refine mn_iconst (v := 0) dMo_entry_76 (by decide) ?_
    refine mn_istore_n (ls' := [(0, .ref mo), (1, .int (nI (bg e))), (2, .int (nI (suN tb 0 tl))), (3, .int 0)]) dMo_entry_77 rfl (by decide) rfl ?_
    rw [upd_nI, upd_nI, upd_nI, apL_0 (tb := tb)] at hSm_g5
    exact c_M_entry_l he hlen htl (tl + 1) 0 g5 (by omega) (by omega) ((((mn_fr.rf.set eg1 (by show mo = mo ∨ mo = mo + 2 ∨ mo = mo + 3; omega)).set eg3 (by show (mo + 2) = mo ∨ (mo + 2) = mo + 2 ∨ (mo + 2) = mo + 3; omega)).set eg4 (by show (mo + 2) = mo ∨ (mo + 2) = mo + 2 ∨ (mo + 2) = mo + 3; omega)).set eg5 (by show (mo + 2) = mo ∨ (mo + 2) = mo + 2 ∨ (mo + 2) = mo + 3; omega)) hM_g5 hTa_g5 hSm_g5 hBg_g5
  · have c2 := (nI_eq (a := e) (b := 20) (by omega) (by omega)).mp c2
    refine mn_bipush (v := (-3)) dMo_entry_14 (by decide) ?_
    exact mn_iret rfl dMo_entry_16 (absurd he (by omega))
set_option maxRecDepth 100000 in
theorem c_M_clear {E : mn_En} {g : mn_H} {mo tl e sz rp st m r wd ag td om : Nat} {ir : Int32} (hM : mn_at g mo (.inr (11, [.int 0, .ref (mo + 1), .int (nI tl), .ref (mo + 2), .ref (mo + 3), .int (nI e), .int (nI sz), .int (nI rp), .int (nI st), .ref (mo + 4), .ref (mo + 5), .ref (mo + 6), .int ir, .int (nI m), .int (nI r), .int (nI wd), .int (nI ag), .ref (mo + 7), .ref (mo + 8), .ref (mo + 9), .ref (mo + 10), .int (nI td), .int (nI om), .ref (mo + 11), .ref (mo + 12), .ref (mo + 13), .ref (mo + 14), .ref (mo + 15), .ref (mo + 16)]))) : mn_R E MMo_clear 0 0 0 0 0 [(0, .ref mo)] [] g (fun x g' => x = some (.int (nI e)) ∧ mn_fr (fun q => q = mo) g g' ∧ mn_at g' mo (.inr (11, [.int 0, .ref (mo + 1), .int (nI tl), .ref (mo + 2), .ref (mo + 3), .int 0, .int (nI sz), .int (nI rp), .int (nI st), .ref (mo + 4), .ref (mo + 5), .ref (mo + 6), .int ir, .int (nI m), .int (nI r), .int (nI wd), .int (nI ag), .ref (mo + 7), .ref (mo + 8), .ref (mo + 9), .ref (mo + 10), .int (nI td), .int (nI om), .ref (mo + 11), .ref (mo + 12), .ref (mo + 13), .ref (mo + 14), .ref (mo + 15), .ref (mo + 16)]))) := by
  refine mn_aload_n 0 dMo_clear_0 rfl rfl ?_
  refine mn_iconst (v := 0) dMo_clear_1 (by decide) ?_
  refine mn_putf okMo 0 lMo_1 (by decide) rfl hM rfl rfl (Nat.le_of_ble_eq_true rfl) dMo_clear_2 ?_
  obtain ⟨g1, eg1⟩ : ∃ gg_, gg_ = mn_set g mo (.inr (11, [.int 0, .ref (mo + 1), .int (nI tl), .ref (mo + 2), .ref (mo + 3), .int (nI e), .int (nI sz), .int (nI rp), .int (nI st), .ref (mo + 4), .ref (mo + 5), .ref (mo + 6), .int ir, .int (nI m), .int (nI r), .int (nI wd), .int (nI ag), .ref (mo + 7), .ref (mo + 8), .ref (mo + 9), .ref (mo + 10), .int (nI td), .int (nI om), .ref (mo + 11), .ref (mo + 12), .ref (mo + 13), .ref (mo + 14), .ref (mo + 15), .ref (mo + 16)])) := ⟨_, rfl⟩
  refine mn_R.toG eg1 ?_
  have hM_g1 : mn_at g1 mo (.inr (11, [.int 0, .ref (mo + 1), .int (nI tl), .ref (mo + 2), .ref (mo + 3), .int (nI e), .int (nI sz), .int (nI rp), .int (nI st), .ref (mo + 4), .ref (mo + 5), .ref (mo + 6), .int ir, .int (nI m), .int (nI r), .int (nI wd), .int (nI ag), .ref (mo + 7), .ref (mo + 8), .ref (mo + 9), .ref (mo + 10), .int (nI td), .int (nI om), .ref (mo + 11), .ref (mo + 12), .ref (mo + 13), .ref (mo + 14), .ref (mo + 15), .ref (mo + 16)])) := by rw [eg1]; exact hM.same
  refine mn_aload_n 0 dMo_clear_5 rfl rfl ?_
  refine mn_get okMo 5 lMo_77 (by decide) hM_g1 rfl dMo_clear_6 ?_
  refine mn_istore_n (ls' := [(0, .ref mo), (1, .int (nI e))]) dMo_clear_9 rfl (by decide) rfl ?_
  refine mn_aload_n 0 dMo_clear_10 rfl rfl ?_
  refine mn_iconst (v := 0) dMo_clear_11 (by decide) ?_
  refine mn_putf okMo 5 lMo_77 (by decide) rfl hM_g1 rfl rfl (Nat.le_of_ble_eq_true rfl) dMo_clear_12 ?_
  obtain ⟨g2, eg2⟩ : ∃ gg_, gg_ = mn_set g1 mo (.inr (11, [.int 0, .ref (mo + 1), .int (nI tl), .ref (mo + 2), .ref (mo + 3), .int 0, .int (nI sz), .int (nI rp), .int (nI st), .ref (mo + 4), .ref (mo + 5), .ref (mo + 6), .int ir, .int (nI m), .int (nI r), .int (nI wd), .int (nI ag), .ref (mo + 7), .ref (mo + 8), .ref (mo + 9), .ref (mo + 10), .int (nI td), .int (nI om), .ref (mo + 11), .ref (mo + 12), .ref (mo + 13), .ref (mo + 14), .ref (mo + 15), .ref (mo + 16)])) := ⟨_, rfl⟩
  refine mn_R.toG eg2 ?_
  have hM_g2 : mn_at g2 mo (.inr (11, [.int 0, .ref (mo + 1), .int (nI tl), .ref (mo + 2), .ref (mo + 3), .int 0, .int (nI sz), .int (nI rp), .int (nI st), .ref (mo + 4), .ref (mo + 5), .ref (mo + 6), .int ir, .int (nI m), .int (nI r), .int (nI wd), .int (nI ag), .ref (mo + 7), .ref (mo + 8), .ref (mo + 9), .ref (mo + 10), .int (nI td), .int (nI om), .ref (mo + 11), .ref (mo + 12), .ref (mo + 13), .ref (mo + 14), .ref (mo + 15), .ref (mo + 16)])) := by rw [eg2]; exact hM_g1.same
  refine mn_iload_n 1 dMo_clear_15 rfl rfl ?_
  exact mn_iret rfl dMo_clear_16 ⟨rfl, ((mn_fr.rf.set eg1 (by show mo = mo; omega)).set eg2 (by show mo = mo; omega)), hM_g2⟩
set_option maxRecDepth 100000 in
theorem c_M_rule0 {E : mn_En} {g : mn_H} {mo tl e sz rp st m r wd ag td om : Nat} {ir : Int32} (hM : mn_at g mo (.inr (11, [.int 0, .ref (mo + 1), .int (nI tl), .ref (mo + 2), .ref (mo + 3), .int (nI e), .int (nI sz), .int (nI rp), .int (nI st), .ref (mo + 4), .ref (mo + 5), .ref (mo + 6), .int ir, .int (nI m), .int (nI r), .int (nI wd), .int (nI ag), .ref (mo + 7), .ref (mo + 8), .ref (mo + 9), .ref (mo + 10), .int (nI td), .int (nI om), .ref (mo + 11), .ref (mo + 12), .ref (mo + 13), .ref (mo + 14), .ref (mo + 15), .ref (mo + 16)]))) {k : Nat} (hk : 20 ≤ k) (hk2 : k ≤ 80) : mn_R E MMo_rule 1 22 0 0 0 [(0, .ref mo), (1, .int 0), (2, .int (nI k))] [] g (fun x g' => x = some (.int (nI sz)) ∧ mn_fr (fun q => q = mo) g g' ∧ mn_at g' mo (.inr (11, [.int 0, .ref (mo + 1), .int (nI tl), .ref (mo + 2), .ref (mo + 3), .int (nI e), .int (nI k), .int (nI rp), .int (nI st), .ref (mo + 4), .ref (mo + 5), .ref (mo + 6), .int ir, .int (nI m), .int (nI r), .int (nI wd), .int (nI ag), .ref (mo + 7), .ref (mo + 8), .ref (mo + 9), .ref (mo + 10), .int (nI td), .int (nI om), .ref (mo + 11), .ref (mo + 12), .ref (mo + 13), .ref (mo + 14), .ref (mo + 15), .ref (mo + 16)]))) := by
  refine mn_aload_n 0 dMo_rule_0 rfl rfl ?_
  refine mn_iconst (v := 0) dMo_rule_1 (by decide) ?_
  refine mn_putf okMo 0 lMo_1 (by decide) rfl hM rfl rfl (Nat.le_of_ble_eq_true rfl) dMo_rule_2 ?_
  obtain ⟨g1, eg1⟩ : ∃ gg_, gg_ = mn_set g mo (.inr (11, [.int 0, .ref (mo + 1), .int (nI tl), .ref (mo + 2), .ref (mo + 3), .int (nI e), .int (nI sz), .int (nI rp), .int (nI st), .ref (mo + 4), .ref (mo + 5), .ref (mo + 6), .int ir, .int (nI m), .int (nI r), .int (nI wd), .int (nI ag), .ref (mo + 7), .ref (mo + 8), .ref (mo + 9), .ref (mo + 10), .int (nI td), .int (nI om), .ref (mo + 11), .ref (mo + 12), .ref (mo + 13), .ref (mo + 14), .ref (mo + 15), .ref (mo + 16)])) := ⟨_, rfl⟩
  refine mn_R.toG eg1 ?_
  have hM_g1 : mn_at g1 mo (.inr (11, [.int 0, .ref (mo + 1), .int (nI tl), .ref (mo + 2), .ref (mo + 3), .int (nI e), .int (nI sz), .int (nI rp), .int (nI st), .ref (mo + 4), .ref (mo + 5), .ref (mo + 6), .int ir, .int (nI m), .int (nI r), .int (nI wd), .int (nI ag), .ref (mo + 7), .ref (mo + 8), .ref (mo + 9), .ref (mo + 10), .int (nI td), .int (nI om), .ref (mo + 11), .ref (mo + 12), .ref (mo + 13), .ref (mo + 14), .ref (mo + 15), .ref (mo + 16)])) := by rw [eg1]; exact hM.same
  refine mn_iload_n 1 dMo_rule_5 rfl rfl ?_
  refine mn_if_ne 20 dMo_rule_6 (by decide) (fun c2 => ?_) (fun c2 => ?_)
  · exact absurd c2 (by decide)
  · refine mn_iload_n 2 dMo_rule_9 rfl rfl ?_
    refine mn_bipush (v := 20) dMo_rule_10 (by decide) ?_
    refine mn_bipush (v := 80) dMo_rule_12 (by decide) ?_
    refine mn_cS (d' := 0) (w' := 0) (As := [.int (nI k), .int 20, .int 80]) (stk' := [.int 1]) okMo_in lMo_68 dMo_rule_14 rfl rfl (Nat.le_of_ble_eq_true rfl) (Nat.le_of_ble_eq_true rfl) (by decide) (c_M_in_y (ml_lt (a := 20) (b := k) (by omega) (by omega) hk) (ml_lt (a := k) (b := 80) (by omega) (by omega) hk2)) rfl ?_
    refine mn_goto 55 dMo_rule_17 (by decide) ?_
    refine mn_istore_n (ls' := [(0, .ref mo), (1, .int 0), (2, .int (nI k)), (3, .int 1)]) dMo_rule_55 rfl (by decide) rfl ?_
    refine mn_iload_n 3 dMo_rule_56 rfl rfl ?_
    refine mn_if_ne 62 dMo_rule_57 (by decide) (fun c3 => ?_) (fun c3 => ?_)
    · refine mn_iload_n 1 dMo_rule_62 rfl rfl ?_
      refine mn_if_ne 73 dMo_rule_63 (by decide) (fun c4 => ?_) (fun c4 => ?_)
      · exact absurd c4 (by decide)
      · refine mn_aload_n 0 dMo_rule_66 rfl rfl ?_
        refine mn_get okMo 6 lMo_23 (by decide) hM_g1 rfl dMo_rule_67 ?_
        refine mn_goto 89 dMo_rule_70 (by decide) ?_
        refine mn_istore (ls' := [(0, .ref mo), (1, .int 0), (2, .int (nI k)), (3, .int 1), (4, .int (nI sz))]) dMo_rule_89 (by decide) rfl ?_
        refine mn_aload_n 0 dMo_rule_91 rfl rfl ?_
        refine mn_iload_n 1 dMo_rule_92 rfl rfl ?_
        refine mn_if_ne 100 dMo_rule_93 (by decide) (fun c5 => ?_) (fun c5 => ?_)
        · exact absurd c5 (by decide)
        · refine mn_iload_n 2 dMo_rule_96 rfl rfl ?_
          refine mn_goto 104 dMo_rule_97 (by decide) ?_
          refine mn_putf okMo 6 lMo_23 (by decide) rfl hM_g1 rfl rfl (Nat.le_of_ble_eq_true rfl) dMo_rule_104 ?_
          obtain ⟨g6, eg6⟩ : ∃ gg_, gg_ = mn_set g1 mo (.inr (11, [.int 0, .ref (mo + 1), .int (nI tl), .ref (mo + 2), .ref (mo + 3), .int (nI e), .int (nI k), .int (nI rp), .int (nI st), .ref (mo + 4), .ref (mo + 5), .ref (mo + 6), .int ir, .int (nI m), .int (nI r), .int (nI wd), .int (nI ag), .ref (mo + 7), .ref (mo + 8), .ref (mo + 9), .ref (mo + 10), .int (nI td), .int (nI om), .ref (mo + 11), .ref (mo + 12), .ref (mo + 13), .ref (mo + 14), .ref (mo + 15), .ref (mo + 16)])) := ⟨_, rfl⟩
          refine mn_R.toG eg6 ?_
          have hM_g6 : mn_at g6 mo (.inr (11, [.int 0, .ref (mo + 1), .int (nI tl), .ref (mo + 2), .ref (mo + 3), .int (nI e), .int (nI k), .int (nI rp), .int (nI st), .ref (mo + 4), .ref (mo + 5), .ref (mo + 6), .int ir, .int (nI m), .int (nI r), .int (nI wd), .int (nI ag), .ref (mo + 7), .ref (mo + 8), .ref (mo + 9), .ref (mo + 10), .int (nI td), .int (nI om), .ref (mo + 11), .ref (mo + 12), .ref (mo + 13), .ref (mo + 14), .ref (mo + 15), .ref (mo + 16)])) := by rw [eg6]; exact hM_g1.same
          refine mn_aload_n 0 dMo_rule_107 rfl rfl ?_
          refine mn_iload_n 1 dMo_rule_108 rfl rfl ?_
          refine mn_iconst (v := 1) dMo_rule_109 (by decide) ?_
          refine mn_icmp_ne 117 dMo_rule_110 (by decide) (fun c7 => ?_) (fun c7 => ?_)
          · refine mn_aload_n 0 dMo_rule_117 rfl rfl ?_
            refine mn_get okMo 7 lMo_84 (by decide) hM_g6 rfl dMo_rule_118 ?_
            refine mn_putf okMo 7 lMo_84 (by decide) rfl hM_g6 rfl rfl (Nat.le_of_ble_eq_true rfl) dMo_rule_121 ?_
            obtain ⟨g8, eg8⟩ : ∃ gg_, gg_ = mn_set g6 mo (.inr (11, [.int 0, .ref (mo + 1), .int (nI tl), .ref (mo + 2), .ref (mo + 3), .int (nI e), .int (nI k), .int (nI rp), .int (nI st), .ref (mo + 4), .ref (mo + 5), .ref (mo + 6), .int ir, .int (nI m), .int (nI r), .int (nI wd), .int (nI ag), .ref (mo + 7), .ref (mo + 8), .ref (mo + 9), .ref (mo + 10), .int (nI td), .int (nI om), .ref (mo + 11), .ref (mo + 12), .ref (mo + 13), .ref (mo + 14), .ref (mo + 15), .ref (mo + 16)])) := ⟨_, rfl⟩
            refine mn_R.toG eg8 ?_
            have hM_g8 : mn_at g8 mo (.inr (11, [.int 0, .ref (mo + 1), .int (nI tl), .ref (mo + 2), .ref (mo + 3), .int (nI e), .int (nI k), .int (nI rp), .int (nI st), .ref (mo + 4), .ref (mo + 5), .ref (mo + 6), .int ir, .int (nI m), .int (nI r), .int (nI wd), .int (nI ag), .ref (mo + 7), .ref (mo + 8), .ref (mo + 9), .ref (mo + 10), .int (nI td), .int (nI om), .ref (mo + 11), .ref (mo + 12), .ref (mo + 13), .ref (mo + 14), .ref (mo + 15), .ref (mo + 16)])) := by rw [eg8]; exact hM_g6.same
            refine mn_aload_n 0 dMo_rule_124 rfl rfl ?_
            refine mn_iload_n 1 dMo_rule_125 rfl rfl ?_
            refine mn_iconst (v := 2) dMo_rule_126 (by decide) ?_
            refine mn_icmp_ne 134 dMo_rule_127 (by decide) (fun c9 => ?_) (fun c9 => ?_)
            · refine mn_aload_n 0 dMo_rule_134 rfl rfl ?_
              refine mn_get okMo 8 lMo_87 (by decide) hM_g8 rfl dMo_rule_135 ?_
              refine mn_putf okMo 8 lMo_87 (by decide) rfl hM_g8 rfl rfl (Nat.le_of_ble_eq_true rfl) dMo_rule_138 ?_
              obtain ⟨g10, eg10⟩ : ∃ gg_, gg_ = mn_set g8 mo (.inr (11, [.int 0, .ref (mo + 1), .int (nI tl), .ref (mo + 2), .ref (mo + 3), .int (nI e), .int (nI k), .int (nI rp), .int (nI st), .ref (mo + 4), .ref (mo + 5), .ref (mo + 6), .int ir, .int (nI m), .int (nI r), .int (nI wd), .int (nI ag), .ref (mo + 7), .ref (mo + 8), .ref (mo + 9), .ref (mo + 10), .int (nI td), .int (nI om), .ref (mo + 11), .ref (mo + 12), .ref (mo + 13), .ref (mo + 14), .ref (mo + 15), .ref (mo + 16)])) := ⟨_, rfl⟩
              refine mn_R.toG eg10 ?_
              have hM_g10 : mn_at g10 mo (.inr (11, [.int 0, .ref (mo + 1), .int (nI tl), .ref (mo + 2), .ref (mo + 3), .int (nI e), .int (nI k), .int (nI rp), .int (nI st), .ref (mo + 4), .ref (mo + 5), .ref (mo + 6), .int ir, .int (nI m), .int (nI r), .int (nI wd), .int (nI ag), .ref (mo + 7), .ref (mo + 8), .ref (mo + 9), .ref (mo + 10), .int (nI td), .int (nI om), .ref (mo + 11), .ref (mo + 12), .ref (mo + 13), .ref (mo + 14), .ref (mo + 15), .ref (mo + 16)])) := by rw [eg10]; exact hM_g8.same
              refine mn_iload 4 dMo_rule_141 rfl ?_
              exact mn_iret rfl dMo_rule_143 ⟨rfl, ((((mn_fr.rf.set eg1 (by show mo = mo; omega)).set eg6 (by show mo = mo; omega)).set eg8 (by show mo = mo; omega)).set eg10 (by show mo = mo; omega)), hM_g10⟩
            · exact absurd c9 (by decide)
          · exact absurd c7 (by decide)
    · exact absurd c3 (by decide)
set_option maxRecDepth 100000 in
theorem c_M_rule0_bad {E : mn_En} {g : mn_H} {mo tl e sz rp st m r wd ag td om : Nat} {ir : Int32} (hM : mn_at g mo (.inr (11, [.int 0, .ref (mo + 1), .int (nI tl), .ref (mo + 2), .ref (mo + 3), .int (nI e), .int (nI sz), .int (nI rp), .int (nI st), .ref (mo + 4), .ref (mo + 5), .ref (mo + 6), .int ir, .int (nI m), .int (nI r), .int (nI wd), .int (nI ag), .ref (mo + 7), .ref (mo + 8), .ref (mo + 9), .ref (mo + 10), .int (nI td), .int (nI om), .ref (mo + 11), .ref (mo + 12), .ref (mo + 13), .ref (mo + 14), .ref (mo + 15), .ref (mo + 16)]))) {x : Int32} (hx : x < 20 ∨ 80 < x) : mn_R E MMo_rule 1 22 0 0 0 [(0, .ref mo), (1, .int 0), (2, .int x)] [] g (fun x g' => x = some (.int (-1)) ∧ mn_fr (fun q => q = mo) g g' ∧ mn_at g' mo (.inr (11, [.int 0, .ref (mo + 1), .int (nI tl), .ref (mo + 2), .ref (mo + 3), .int (nI e), .int (nI sz), .int (nI rp), .int (nI st), .ref (mo + 4), .ref (mo + 5), .ref (mo + 6), .int ir, .int (nI m), .int (nI r), .int (nI wd), .int (nI ag), .ref (mo + 7), .ref (mo + 8), .ref (mo + 9), .ref (mo + 10), .int (nI td), .int (nI om), .ref (mo + 11), .ref (mo + 12), .ref (mo + 13), .ref (mo + 14), .ref (mo + 15), .ref (mo + 16)]))) := by
  refine mn_aload_n 0 dMo_rule_0 rfl rfl ?_
  refine mn_iconst (v := 0) dMo_rule_1 (by decide) ?_
  refine mn_putf okMo 0 lMo_1 (by decide) rfl hM rfl rfl (Nat.le_of_ble_eq_true rfl) dMo_rule_2 ?_
  obtain ⟨g1, eg1⟩ : ∃ gg_, gg_ = mn_set g mo (.inr (11, [.int 0, .ref (mo + 1), .int (nI tl), .ref (mo + 2), .ref (mo + 3), .int (nI e), .int (nI sz), .int (nI rp), .int (nI st), .ref (mo + 4), .ref (mo + 5), .ref (mo + 6), .int ir, .int (nI m), .int (nI r), .int (nI wd), .int (nI ag), .ref (mo + 7), .ref (mo + 8), .ref (mo + 9), .ref (mo + 10), .int (nI td), .int (nI om), .ref (mo + 11), .ref (mo + 12), .ref (mo + 13), .ref (mo + 14), .ref (mo + 15), .ref (mo + 16)])) := ⟨_, rfl⟩
  refine mn_R.toG eg1 ?_
  have hM_g1 : mn_at g1 mo (.inr (11, [.int 0, .ref (mo + 1), .int (nI tl), .ref (mo + 2), .ref (mo + 3), .int (nI e), .int (nI sz), .int (nI rp), .int (nI st), .ref (mo + 4), .ref (mo + 5), .ref (mo + 6), .int ir, .int (nI m), .int (nI r), .int (nI wd), .int (nI ag), .ref (mo + 7), .ref (mo + 8), .ref (mo + 9), .ref (mo + 10), .int (nI td), .int (nI om), .ref (mo + 11), .ref (mo + 12), .ref (mo + 13), .ref (mo + 14), .ref (mo + 15), .ref (mo + 16)])) := by rw [eg1]; exact hM.same
  refine mn_iload_n 1 dMo_rule_5 rfl rfl ?_
  refine mn_if_ne 20 dMo_rule_6 (by decide) (fun c2 => ?_) (fun c2 => ?_)
  · exact absurd c2 (by decide)
  · refine mn_iload_n 2 dMo_rule_9 rfl rfl ?_
    refine mn_bipush (v := 20) dMo_rule_10 (by decide) ?_
    refine mn_bipush (v := 80) dMo_rule_12 (by decide) ?_
    refine mn_cS (d' := 0) (w' := 0) (As := [.int x, .int 20, .int 80]) (stk' := [.int 0]) okMo_in lMo_68 dMo_rule_14 rfl rfl (Nat.le_of_ble_eq_true rfl) (Nat.le_of_ble_eq_true rfl) (by decide) (c_M_in_n hx) rfl ?_
    refine mn_goto 55 dMo_rule_17 (by decide) ?_
    refine mn_istore_n (ls' := [(0, .ref mo), (1, .int 0), (2, .int x), (3, .int 0)]) dMo_rule_55 rfl (by decide) rfl ?_
    refine mn_iload_n 3 dMo_rule_56 rfl rfl ?_
    refine mn_if_ne 62 dMo_rule_57 (by decide) (fun c3 => ?_) (fun c3 => ?_)
    · exact absurd c3 (by decide)
    · refine mn_iconst (v := -1) dMo_rule_60 (by decide) ?_
      exact mn_iret rfl dMo_rule_61 ⟨rfl, (mn_fr.rf.set eg1 (by show mo = mo; omega)), hM_g1⟩
set_option maxRecDepth 100000 in
theorem c_M_rule1 {E : mn_En} {g : mn_H} {mo tl e sz rp st m r wd ag td om : Nat} {ir : Int32} (hM : mn_at g mo (.inr (11, [.int 0, .ref (mo + 1), .int (nI tl), .ref (mo + 2), .ref (mo + 3), .int (nI e), .int (nI sz), .int (nI rp), .int (nI st), .ref (mo + 4), .ref (mo + 5), .ref (mo + 6), .int ir, .int (nI m), .int (nI r), .int (nI wd), .int (nI ag), .ref (mo + 7), .ref (mo + 8), .ref (mo + 9), .ref (mo + 10), .int (nI td), .int (nI om), .ref (mo + 11), .ref (mo + 12), .ref (mo + 13), .ref (mo + 14), .ref (mo + 15), .ref (mo + 16)]))) {k : Nat} (hk : 0 ≤ k) (hk2 : k ≤ 3) : mn_R E MMo_rule 1 22 0 0 0 [(0, .ref mo), (1, .int 1), (2, .int (nI k))] [] g (fun x g' => x = some (.int (nI rp)) ∧ mn_fr (fun q => q = mo) g g' ∧ mn_at g' mo (.inr (11, [.int 0, .ref (mo + 1), .int (nI tl), .ref (mo + 2), .ref (mo + 3), .int (nI e), .int (nI sz), .int (nI k), .int (nI st), .ref (mo + 4), .ref (mo + 5), .ref (mo + 6), .int ir, .int (nI m), .int (nI r), .int (nI wd), .int (nI ag), .ref (mo + 7), .ref (mo + 8), .ref (mo + 9), .ref (mo + 10), .int (nI td), .int (nI om), .ref (mo + 11), .ref (mo + 12), .ref (mo + 13), .ref (mo + 14), .ref (mo + 15), .ref (mo + 16)]))) := by
  refine mn_aload_n 0 dMo_rule_0 rfl rfl ?_
  refine mn_iconst (v := 0) dMo_rule_1 (by decide) ?_
  refine mn_putf okMo 0 lMo_1 (by decide) rfl hM rfl rfl (Nat.le_of_ble_eq_true rfl) dMo_rule_2 ?_
  obtain ⟨g1, eg1⟩ : ∃ gg_, gg_ = mn_set g mo (.inr (11, [.int 0, .ref (mo + 1), .int (nI tl), .ref (mo + 2), .ref (mo + 3), .int (nI e), .int (nI sz), .int (nI rp), .int (nI st), .ref (mo + 4), .ref (mo + 5), .ref (mo + 6), .int ir, .int (nI m), .int (nI r), .int (nI wd), .int (nI ag), .ref (mo + 7), .ref (mo + 8), .ref (mo + 9), .ref (mo + 10), .int (nI td), .int (nI om), .ref (mo + 11), .ref (mo + 12), .ref (mo + 13), .ref (mo + 14), .ref (mo + 15), .ref (mo + 16)])) := ⟨_, rfl⟩
  refine mn_R.toG eg1 ?_
  have hM_g1 : mn_at g1 mo (.inr (11, [.int 0, .ref (mo + 1), .int (nI tl), .ref (mo + 2), .ref (mo + 3), .int (nI e), .int (nI sz), .int (nI rp), .int (nI st), .ref (mo + 4), .ref (mo + 5), .ref (mo + 6), .int ir, .int (nI m), .int (nI r), .int (nI wd), .int (nI ag), .ref (mo + 7), .ref (mo + 8), .ref (mo + 9), .ref (mo + 10), .int (nI td), .int (nI om), .ref (mo + 11), .ref (mo + 12), .ref (mo + 13), .ref (mo + 14), .ref (mo + 15), .ref (mo + 16)])) := by rw [eg1]; exact hM.same
  refine mn_iload_n 1 dMo_rule_5 rfl rfl ?_
  refine mn_if_ne 20 dMo_rule_6 (by decide) (fun c2 => ?_) (fun c2 => ?_)
  · refine mn_iload_n 1 dMo_rule_20 rfl rfl ?_
    refine mn_iconst (v := 1) dMo_rule_21 (by decide) ?_
    refine mn_icmp_ne 34 dMo_rule_22 (by decide) (fun c3 => ?_) (fun c3 => ?_)
    · exact absurd c3 (by decide)
    · refine mn_iload_n 2 dMo_rule_25 rfl rfl ?_
      refine mn_iconst (v := 0) dMo_rule_26 (by decide) ?_
      refine mn_iconst (v := 3) dMo_rule_27 (by decide) ?_
      refine mn_cS (d' := 0) (w' := 0) (As := [.int (nI k), .int 0, .int 3]) (stk' := [.int 1]) okMo_in lMo_68 dMo_rule_28 rfl rfl (Nat.le_of_ble_eq_true rfl) (Nat.le_of_ble_eq_true rfl) (by decide) (c_M_in_y (ml_lt (a := 0) (b := k) (by omega) (by omega) hk) (ml_lt (a := k) (b := 3) (by omega) (by omega) hk2)) rfl ?_
      refine mn_goto 55 dMo_rule_31 (by decide) ?_
      refine mn_istore_n (ls' := [(0, .ref mo), (1, .int 1), (2, .int (nI k)), (3, .int 1)]) dMo_rule_55 rfl (by decide) rfl ?_
      refine mn_iload_n 3 dMo_rule_56 rfl rfl ?_
      refine mn_if_ne 62 dMo_rule_57 (by decide) (fun c4 => ?_) (fun c4 => ?_)
      · refine mn_iload_n 1 dMo_rule_62 rfl rfl ?_
        refine mn_if_ne 73 dMo_rule_63 (by decide) (fun c5 => ?_) (fun c5 => ?_)
        · refine mn_iload_n 1 dMo_rule_73 rfl rfl ?_
          refine mn_iconst (v := 1) dMo_rule_74 (by decide) ?_
          refine mn_icmp_ne 85 dMo_rule_75 (by decide) (fun c6 => ?_) (fun c6 => ?_)
          · exact absurd c6 (by decide)
          · refine mn_aload_n 0 dMo_rule_78 rfl rfl ?_
            refine mn_get okMo 7 lMo_84 (by decide) hM_g1 rfl dMo_rule_79 ?_
            refine mn_goto 89 dMo_rule_82 (by decide) ?_
            refine mn_istore (ls' := [(0, .ref mo), (1, .int 1), (2, .int (nI k)), (3, .int 1), (4, .int (nI rp))]) dMo_rule_89 (by decide) rfl ?_
            refine mn_aload_n 0 dMo_rule_91 rfl rfl ?_
            refine mn_iload_n 1 dMo_rule_92 rfl rfl ?_
            refine mn_if_ne 100 dMo_rule_93 (by decide) (fun c7 => ?_) (fun c7 => ?_)
            · refine mn_aload_n 0 dMo_rule_100 rfl rfl ?_
              refine mn_get okMo 6 lMo_23 (by decide) hM_g1 rfl dMo_rule_101 ?_
              refine mn_putf okMo 6 lMo_23 (by decide) rfl hM_g1 rfl rfl (Nat.le_of_ble_eq_true rfl) dMo_rule_104 ?_
              obtain ⟨g8, eg8⟩ : ∃ gg_, gg_ = mn_set g1 mo (.inr (11, [.int 0, .ref (mo + 1), .int (nI tl), .ref (mo + 2), .ref (mo + 3), .int (nI e), .int (nI sz), .int (nI rp), .int (nI st), .ref (mo + 4), .ref (mo + 5), .ref (mo + 6), .int ir, .int (nI m), .int (nI r), .int (nI wd), .int (nI ag), .ref (mo + 7), .ref (mo + 8), .ref (mo + 9), .ref (mo + 10), .int (nI td), .int (nI om), .ref (mo + 11), .ref (mo + 12), .ref (mo + 13), .ref (mo + 14), .ref (mo + 15), .ref (mo + 16)])) := ⟨_, rfl⟩
              refine mn_R.toG eg8 ?_
              have hM_g8 : mn_at g8 mo (.inr (11, [.int 0, .ref (mo + 1), .int (nI tl), .ref (mo + 2), .ref (mo + 3), .int (nI e), .int (nI sz), .int (nI rp), .int (nI st), .ref (mo + 4), .ref (mo + 5), .ref (mo + 6), .int ir, .int (nI m), .int (nI r), .int (nI wd), .int (nI ag), .ref (mo + 7), .ref (mo + 8), .ref (mo + 9), .ref (mo + 10), .int (nI td), .int (nI om), .ref (mo + 11), .ref (mo + 12), .ref (mo + 13), .ref (mo + 14), .ref (mo + 15), .ref (mo + 16)])) := by rw [eg8]; exact hM_g1.same
              refine mn_aload_n 0 dMo_rule_107 rfl rfl ?_
              refine mn_iload_n 1 dMo_rule_108 rfl rfl ?_
              refine mn_iconst (v := 1) dMo_rule_109 (by decide) ?_
              refine mn_icmp_ne 117 dMo_rule_110 (by decide) (fun c9 => ?_) (fun c9 => ?_)
              · exact absurd c9 (by decide)
              · refine mn_iload_n 2 dMo_rule_113 rfl rfl ?_
                refine mn_goto 121 dMo_rule_114 (by decide) ?_
                refine mn_putf okMo 7 lMo_84 (by decide) rfl hM_g8 rfl rfl (Nat.le_of_ble_eq_true rfl) dMo_rule_121 ?_
                obtain ⟨g10, eg10⟩ : ∃ gg_, gg_ = mn_set g8 mo (.inr (11, [.int 0, .ref (mo + 1), .int (nI tl), .ref (mo + 2), .ref (mo + 3), .int (nI e), .int (nI sz), .int (nI k), .int (nI st), .ref (mo + 4), .ref (mo + 5), .ref (mo + 6), .int ir, .int (nI m), .int (nI r), .int (nI wd), .int (nI ag), .ref (mo + 7), .ref (mo + 8), .ref (mo + 9), .ref (mo + 10), .int (nI td), .int (nI om), .ref (mo + 11), .ref (mo + 12), .ref (mo + 13), .ref (mo + 14), .ref (mo + 15), .ref (mo + 16)])) := ⟨_, rfl⟩
                refine mn_R.toG eg10 ?_
                have hM_g10 : mn_at g10 mo (.inr (11, [.int 0, .ref (mo + 1), .int (nI tl), .ref (mo + 2), .ref (mo + 3), .int (nI e), .int (nI sz), .int (nI k), .int (nI st), .ref (mo + 4), .ref (mo + 5), .ref (mo + 6), .int ir, .int (nI m), .int (nI r), .int (nI wd), .int (nI ag), .ref (mo + 7), .ref (mo + 8), .ref (mo + 9), .ref (mo + 10), .int (nI td), .int (nI om), .ref (mo + 11), .ref (mo + 12), .ref (mo + 13), .ref (mo + 14), .ref (mo + 15), .ref (mo + 16)])) := by rw [eg10]; exact hM_g8.same
                refine mn_aload_n 0 dMo_rule_124 rfl rfl ?_
                refine mn_iload_n 1 dMo_rule_125 rfl rfl ?_
                refine mn_iconst (v := 2) dMo_rule_126 (by decide) ?_
                refine mn_icmp_ne 134 dMo_rule_127 (by decide) (fun c11 => ?_) (fun c11 => ?_)
                · refine mn_aload_n 0 dMo_rule_134 rfl rfl ?_
                  refine mn_get okMo 8 lMo_87 (by decide) hM_g10 rfl dMo_rule_135 ?_
                  refine mn_putf okMo 8 lMo_87 (by decide) rfl hM_g10 rfl rfl (Nat.le_of_ble_eq_true rfl) dMo_rule_138 ?_
                  obtain ⟨g12, eg12⟩ : ∃ gg_, gg_ = mn_set g10 mo (.inr (11, [.int 0, .ref (mo + 1), .int (nI tl), .ref (mo + 2), .ref (mo + 3), .int (nI e), .int (nI sz), .int (nI k), .int (nI st), .ref (mo + 4), .ref (mo + 5), .ref (mo + 6), .int ir, .int (nI m), .int (nI r), .int (nI wd), .int (nI ag), .ref (mo + 7), .ref (mo + 8), .ref (mo + 9), .ref (mo + 10), .int (nI td), .int (nI om), .ref (mo + 11), .ref (mo + 12), .ref (mo + 13), .ref (mo + 14), .ref (mo + 15), .ref (mo + 16)])) := ⟨_, rfl⟩
                  refine mn_R.toG eg12 ?_
                  have hM_g12 : mn_at g12 mo (.inr (11, [.int 0, .ref (mo + 1), .int (nI tl), .ref (mo + 2), .ref (mo + 3), .int (nI e), .int (nI sz), .int (nI k), .int (nI st), .ref (mo + 4), .ref (mo + 5), .ref (mo + 6), .int ir, .int (nI m), .int (nI r), .int (nI wd), .int (nI ag), .ref (mo + 7), .ref (mo + 8), .ref (mo + 9), .ref (mo + 10), .int (nI td), .int (nI om), .ref (mo + 11), .ref (mo + 12), .ref (mo + 13), .ref (mo + 14), .ref (mo + 15), .ref (mo + 16)])) := by rw [eg12]; exact hM_g10.same
                  refine mn_iload 4 dMo_rule_141 rfl ?_
                  exact mn_iret rfl dMo_rule_143 ⟨rfl, ((((mn_fr.rf.set eg1 (by show mo = mo; omega)).set eg8 (by show mo = mo; omega)).set eg10 (by show mo = mo; omega)).set eg12 (by show mo = mo; omega)), hM_g12⟩
                · exact absurd c11 (by decide)
            · exact absurd c7 (by decide)
        · exact absurd c5 (by decide)
      · exact absurd c4 (by decide)
  · exact absurd c2 (by decide)
set_option maxRecDepth 100000 in
theorem c_M_rule1_bad {E : mn_En} {g : mn_H} {mo tl e sz rp st m r wd ag td om : Nat} {ir : Int32} (hM : mn_at g mo (.inr (11, [.int 0, .ref (mo + 1), .int (nI tl), .ref (mo + 2), .ref (mo + 3), .int (nI e), .int (nI sz), .int (nI rp), .int (nI st), .ref (mo + 4), .ref (mo + 5), .ref (mo + 6), .int ir, .int (nI m), .int (nI r), .int (nI wd), .int (nI ag), .ref (mo + 7), .ref (mo + 8), .ref (mo + 9), .ref (mo + 10), .int (nI td), .int (nI om), .ref (mo + 11), .ref (mo + 12), .ref (mo + 13), .ref (mo + 14), .ref (mo + 15), .ref (mo + 16)]))) {x : Int32} (hx : x < 0 ∨ 3 < x) : mn_R E MMo_rule 1 22 0 0 0 [(0, .ref mo), (1, .int 1), (2, .int x)] [] g (fun x g' => x = some (.int (-1)) ∧ mn_fr (fun q => q = mo) g g' ∧ mn_at g' mo (.inr (11, [.int 0, .ref (mo + 1), .int (nI tl), .ref (mo + 2), .ref (mo + 3), .int (nI e), .int (nI sz), .int (nI rp), .int (nI st), .ref (mo + 4), .ref (mo + 5), .ref (mo + 6), .int ir, .int (nI m), .int (nI r), .int (nI wd), .int (nI ag), .ref (mo + 7), .ref (mo + 8), .ref (mo + 9), .ref (mo + 10), .int (nI td), .int (nI om), .ref (mo + 11), .ref (mo + 12), .ref (mo + 13), .ref (mo + 14), .ref (mo + 15), .ref (mo + 16)]))) := by
  refine mn_aload_n 0 dMo_rule_0 rfl rfl ?_
  refine mn_iconst (v := 0) dMo_rule_1 (by decide) ?_
  refine mn_putf okMo 0 lMo_1 (by decide) rfl hM rfl rfl (Nat.le_of_ble_eq_true rfl) dMo_rule_2 ?_
  obtain ⟨g1, eg1⟩ : ∃ gg_, gg_ = mn_set g mo (.inr (11, [.int 0, .ref (mo + 1), .int (nI tl), .ref (mo + 2), .ref (mo + 3), .int (nI e), .int (nI sz), .int (nI rp), .int (nI st), .ref (mo + 4), .ref (mo + 5), .ref (mo + 6), .int ir, .int (nI m), .int (nI r), .int (nI wd), .int (nI ag), .ref (mo + 7), .ref (mo + 8), .ref (mo + 9), .ref (mo + 10), .int (nI td), .int (nI om), .ref (mo + 11), .ref (mo + 12), .ref (mo + 13), .ref (mo + 14), .ref (mo + 15), .ref (mo + 16)])) := ⟨_, rfl⟩
  refine mn_R.toG eg1 ?_
  have hM_g1 : mn_at g1 mo (.inr (11, [.int 0, .ref (mo + 1), .int (nI tl), .ref (mo + 2), .ref (mo + 3), .int (nI e), .int (nI sz), .int (nI rp), .int (nI st), .ref (mo + 4), .ref (mo + 5), .ref (mo + 6), .int ir, .int (nI m), .int (nI r), .int (nI wd), .int (nI ag), .ref (mo + 7), .ref (mo + 8), .ref (mo + 9), .ref (mo + 10), .int (nI td), .int (nI om), .ref (mo + 11), .ref (mo + 12), .ref (mo + 13), .ref (mo + 14), .ref (mo + 15), .ref (mo + 16)])) := by rw [eg1]; exact hM.same
  refine mn_iload_n 1 dMo_rule_5 rfl rfl ?_
  refine mn_if_ne 20 dMo_rule_6 (by decide) (fun c2 => ?_) (fun c2 => ?_)
  · refine mn_iload_n 1 dMo_rule_20 rfl rfl ?_
    refine mn_iconst (v := 1) dMo_rule_21 (by decide) ?_
    refine mn_icmp_ne 34 dMo_rule_22 (by decide) (fun c3 => ?_) (fun c3 => ?_)
    · exact absurd c3 (by decide)
    · refine mn_iload_n 2 dMo_rule_25 rfl rfl ?_
      refine mn_iconst (v := 0) dMo_rule_26 (by decide) ?_
      refine mn_iconst (v := 3) dMo_rule_27 (by decide) ?_
      refine mn_cS (d' := 0) (w' := 0) (As := [.int x, .int 0, .int 3]) (stk' := [.int 0]) okMo_in lMo_68 dMo_rule_28 rfl rfl (Nat.le_of_ble_eq_true rfl) (Nat.le_of_ble_eq_true rfl) (by decide) (c_M_in_n hx) rfl ?_
      refine mn_goto 55 dMo_rule_31 (by decide) ?_
      refine mn_istore_n (ls' := [(0, .ref mo), (1, .int 1), (2, .int x), (3, .int 0)]) dMo_rule_55 rfl (by decide) rfl ?_
      refine mn_iload_n 3 dMo_rule_56 rfl rfl ?_
      refine mn_if_ne 62 dMo_rule_57 (by decide) (fun c4 => ?_) (fun c4 => ?_)
      · exact absurd c4 (by decide)
      · refine mn_iconst (v := -1) dMo_rule_60 (by decide) ?_
        exact mn_iret rfl dMo_rule_61 ⟨rfl, (mn_fr.rf.set eg1 (by show mo = mo; omega)), hM_g1⟩
  · exact absurd c2 (by decide)
set_option maxRecDepth 100000 in
theorem c_M_rule2 {E : mn_En} {g : mn_H} {mo tl e sz rp st m r wd ag td om : Nat} {ir : Int32} (hM : mn_at g mo (.inr (11, [.int 0, .ref (mo + 1), .int (nI tl), .ref (mo + 2), .ref (mo + 3), .int (nI e), .int (nI sz), .int (nI rp), .int (nI st), .ref (mo + 4), .ref (mo + 5), .ref (mo + 6), .int ir, .int (nI m), .int (nI r), .int (nI wd), .int (nI ag), .ref (mo + 7), .ref (mo + 8), .ref (mo + 9), .ref (mo + 10), .int (nI td), .int (nI om), .ref (mo + 11), .ref (mo + 12), .ref (mo + 13), .ref (mo + 14), .ref (mo + 15), .ref (mo + 16)]))) {k : Nat} (hk : 0 ≤ k) (hk2 : k ≤ 255) : mn_R E MMo_rule 1 22 0 0 0 [(0, .ref mo), (1, .int 2), (2, .int (nI k))] [] g (fun x g' => x = some (.int (nI st)) ∧ mn_fr (fun q => q = mo) g g' ∧ mn_at g' mo (.inr (11, [.int 0, .ref (mo + 1), .int (nI tl), .ref (mo + 2), .ref (mo + 3), .int (nI e), .int (nI sz), .int (nI rp), .int (nI k), .ref (mo + 4), .ref (mo + 5), .ref (mo + 6), .int ir, .int (nI m), .int (nI r), .int (nI wd), .int (nI ag), .ref (mo + 7), .ref (mo + 8), .ref (mo + 9), .ref (mo + 10), .int (nI td), .int (nI om), .ref (mo + 11), .ref (mo + 12), .ref (mo + 13), .ref (mo + 14), .ref (mo + 15), .ref (mo + 16)]))) := by
  refine mn_aload_n 0 dMo_rule_0 rfl rfl ?_
  refine mn_iconst (v := 0) dMo_rule_1 (by decide) ?_
  refine mn_putf okMo 0 lMo_1 (by decide) rfl hM rfl rfl (Nat.le_of_ble_eq_true rfl) dMo_rule_2 ?_
  obtain ⟨g1, eg1⟩ : ∃ gg_, gg_ = mn_set g mo (.inr (11, [.int 0, .ref (mo + 1), .int (nI tl), .ref (mo + 2), .ref (mo + 3), .int (nI e), .int (nI sz), .int (nI rp), .int (nI st), .ref (mo + 4), .ref (mo + 5), .ref (mo + 6), .int ir, .int (nI m), .int (nI r), .int (nI wd), .int (nI ag), .ref (mo + 7), .ref (mo + 8), .ref (mo + 9), .ref (mo + 10), .int (nI td), .int (nI om), .ref (mo + 11), .ref (mo + 12), .ref (mo + 13), .ref (mo + 14), .ref (mo + 15), .ref (mo + 16)])) := ⟨_, rfl⟩
  refine mn_R.toG eg1 ?_
  have hM_g1 : mn_at g1 mo (.inr (11, [.int 0, .ref (mo + 1), .int (nI tl), .ref (mo + 2), .ref (mo + 3), .int (nI e), .int (nI sz), .int (nI rp), .int (nI st), .ref (mo + 4), .ref (mo + 5), .ref (mo + 6), .int ir, .int (nI m), .int (nI r), .int (nI wd), .int (nI ag), .ref (mo + 7), .ref (mo + 8), .ref (mo + 9), .ref (mo + 10), .int (nI td), .int (nI om), .ref (mo + 11), .ref (mo + 12), .ref (mo + 13), .ref (mo + 14), .ref (mo + 15), .ref (mo + 16)])) := by rw [eg1]; exact hM.same
  refine mn_iload_n 1 dMo_rule_5 rfl rfl ?_
  refine mn_if_ne 20 dMo_rule_6 (by decide) (fun c2 => ?_) (fun c2 => ?_)
  · refine mn_iload_n 1 dMo_rule_20 rfl rfl ?_
    refine mn_iconst (v := 1) dMo_rule_21 (by decide) ?_
    refine mn_icmp_ne 34 dMo_rule_22 (by decide) (fun c3 => ?_) (fun c3 => ?_)
    · refine mn_iload_n 1 dMo_rule_34 rfl rfl ?_
      refine mn_iconst (v := 2) dMo_rule_35 (by decide) ?_
      refine mn_icmp_ne 54 dMo_rule_36 (by decide) (fun c4 => ?_) (fun c4 => ?_)
      · exact absurd c4 (by decide)
      · refine mn_iload_n 2 dMo_rule_39 rfl rfl ?_
        refine mn_iconst (v := 0) dMo_rule_40 (by decide) ?_
        refine mn_sipush (v := 255) dMo_rule_41 (by decide) ?_
        refine mn_cS (d' := 0) (w' := 0) (As := [.int (nI k), .int 0, .int 255]) (stk' := [.int 1]) okMo_in lMo_68 dMo_rule_44 rfl rfl (Nat.le_of_ble_eq_true rfl) (Nat.le_of_ble_eq_true rfl) (by decide) (c_M_in_y (ml_lt (a := 0) (b := k) (by omega) (by omega) hk) (ml_lt (a := k) (b := 255) (by omega) (by omega) hk2)) rfl ?_
        refine mn_if_eq 54 dMo_rule_47 (by decide) (fun c5 => ?_) (fun c5 => ?_)
        · exact absurd c5 (by decide)
        · refine mn_iconst (v := 1) dMo_rule_50 (by decide) ?_
          refine mn_goto 55 dMo_rule_51 (by decide) ?_
          refine mn_istore_n (ls' := [(0, .ref mo), (1, .int 2), (2, .int (nI k)), (3, .int 1)]) dMo_rule_55 rfl (by decide) rfl ?_
          refine mn_iload_n 3 dMo_rule_56 rfl rfl ?_
          refine mn_if_ne 62 dMo_rule_57 (by decide) (fun c6 => ?_) (fun c6 => ?_)
          · refine mn_iload_n 1 dMo_rule_62 rfl rfl ?_
            refine mn_if_ne 73 dMo_rule_63 (by decide) (fun c7 => ?_) (fun c7 => ?_)
            · refine mn_iload_n 1 dMo_rule_73 rfl rfl ?_
              refine mn_iconst (v := 1) dMo_rule_74 (by decide) ?_
              refine mn_icmp_ne 85 dMo_rule_75 (by decide) (fun c8 => ?_) (fun c8 => ?_)
              · refine mn_aload_n 0 dMo_rule_85 rfl rfl ?_
                refine mn_get okMo 8 lMo_87 (by decide) hM_g1 rfl dMo_rule_86 ?_
                refine mn_istore (ls' := [(0, .ref mo), (1, .int 2), (2, .int (nI k)), (3, .int 1), (4, .int (nI st))]) dMo_rule_89 (by decide) rfl ?_
                refine mn_aload_n 0 dMo_rule_91 rfl rfl ?_
                refine mn_iload_n 1 dMo_rule_92 rfl rfl ?_
                refine mn_if_ne 100 dMo_rule_93 (by decide) (fun c9 => ?_) (fun c9 => ?_)
                · refine mn_aload_n 0 dMo_rule_100 rfl rfl ?_
                  refine mn_get okMo 6 lMo_23 (by decide) hM_g1 rfl dMo_rule_101 ?_
                  refine mn_putf okMo 6 lMo_23 (by decide) rfl hM_g1 rfl rfl (Nat.le_of_ble_eq_true rfl) dMo_rule_104 ?_
                  obtain ⟨g10, eg10⟩ : ∃ gg_, gg_ = mn_set g1 mo (.inr (11, [.int 0, .ref (mo + 1), .int (nI tl), .ref (mo + 2), .ref (mo + 3), .int (nI e), .int (nI sz), .int (nI rp), .int (nI st), .ref (mo + 4), .ref (mo + 5), .ref (mo + 6), .int ir, .int (nI m), .int (nI r), .int (nI wd), .int (nI ag), .ref (mo + 7), .ref (mo + 8), .ref (mo + 9), .ref (mo + 10), .int (nI td), .int (nI om), .ref (mo + 11), .ref (mo + 12), .ref (mo + 13), .ref (mo + 14), .ref (mo + 15), .ref (mo + 16)])) := ⟨_, rfl⟩
                  refine mn_R.toG eg10 ?_
                  have hM_g10 : mn_at g10 mo (.inr (11, [.int 0, .ref (mo + 1), .int (nI tl), .ref (mo + 2), .ref (mo + 3), .int (nI e), .int (nI sz), .int (nI rp), .int (nI st), .ref (mo + 4), .ref (mo + 5), .ref (mo + 6), .int ir, .int (nI m), .int (nI r), .int (nI wd), .int (nI ag), .ref (mo + 7), .ref (mo + 8), .ref (mo + 9), .ref (mo + 10), .int (nI td), .int (nI om), .ref (mo + 11), .ref (mo + 12), .ref (mo + 13), .ref (mo + 14), .ref (mo + 15), .ref (mo + 16)])) := by rw [eg10]; exact hM_g1.same
                  refine mn_aload_n 0 dMo_rule_107 rfl rfl ?_
                  refine mn_iload_n 1 dMo_rule_108 rfl rfl ?_
                  refine mn_iconst (v := 1) dMo_rule_109 (by decide) ?_
                  refine mn_icmp_ne 117 dMo_rule_110 (by decide) (fun c11 => ?_) (fun c11 => ?_)
                  · refine mn_aload_n 0 dMo_rule_117 rfl rfl ?_
                    refine mn_get okMo 7 lMo_84 (by decide) hM_g10 rfl dMo_rule_118 ?_
                    refine mn_putf okMo 7 lMo_84 (by decide) rfl hM_g10 rfl rfl (Nat.le_of_ble_eq_true rfl) dMo_rule_121 ?_
                    obtain ⟨g12, eg12⟩ : ∃ gg_, gg_ = mn_set g10 mo (.inr (11, [.int 0, .ref (mo + 1), .int (nI tl), .ref (mo + 2), .ref (mo + 3), .int (nI e), .int (nI sz), .int (nI rp), .int (nI st), .ref (mo + 4), .ref (mo + 5), .ref (mo + 6), .int ir, .int (nI m), .int (nI r), .int (nI wd), .int (nI ag), .ref (mo + 7), .ref (mo + 8), .ref (mo + 9), .ref (mo + 10), .int (nI td), .int (nI om), .ref (mo + 11), .ref (mo + 12), .ref (mo + 13), .ref (mo + 14), .ref (mo + 15), .ref (mo + 16)])) := ⟨_, rfl⟩
                    refine mn_R.toG eg12 ?_
                    have hM_g12 : mn_at g12 mo (.inr (11, [.int 0, .ref (mo + 1), .int (nI tl), .ref (mo + 2), .ref (mo + 3), .int (nI e), .int (nI sz), .int (nI rp), .int (nI st), .ref (mo + 4), .ref (mo + 5), .ref (mo + 6), .int ir, .int (nI m), .int (nI r), .int (nI wd), .int (nI ag), .ref (mo + 7), .ref (mo + 8), .ref (mo + 9), .ref (mo + 10), .int (nI td), .int (nI om), .ref (mo + 11), .ref (mo + 12), .ref (mo + 13), .ref (mo + 14), .ref (mo + 15), .ref (mo + 16)])) := by rw [eg12]; exact hM_g10.same
                    refine mn_aload_n 0 dMo_rule_124 rfl rfl ?_
                    refine mn_iload_n 1 dMo_rule_125 rfl rfl ?_
                    refine mn_iconst (v := 2) dMo_rule_126 (by decide) ?_
                    refine mn_icmp_ne 134 dMo_rule_127 (by decide) (fun c13 => ?_) (fun c13 => ?_)
                    · exact absurd c13 (by decide)
                    · refine mn_iload_n 2 dMo_rule_130 rfl rfl ?_
                      refine mn_goto 138 dMo_rule_131 (by decide) ?_
                      refine mn_putf okMo 8 lMo_87 (by decide) rfl hM_g12 rfl rfl (Nat.le_of_ble_eq_true rfl) dMo_rule_138 ?_
                      obtain ⟨g14, eg14⟩ : ∃ gg_, gg_ = mn_set g12 mo (.inr (11, [.int 0, .ref (mo + 1), .int (nI tl), .ref (mo + 2), .ref (mo + 3), .int (nI e), .int (nI sz), .int (nI rp), .int (nI k), .ref (mo + 4), .ref (mo + 5), .ref (mo + 6), .int ir, .int (nI m), .int (nI r), .int (nI wd), .int (nI ag), .ref (mo + 7), .ref (mo + 8), .ref (mo + 9), .ref (mo + 10), .int (nI td), .int (nI om), .ref (mo + 11), .ref (mo + 12), .ref (mo + 13), .ref (mo + 14), .ref (mo + 15), .ref (mo + 16)])) := ⟨_, rfl⟩
                      refine mn_R.toG eg14 ?_
                      have hM_g14 : mn_at g14 mo (.inr (11, [.int 0, .ref (mo + 1), .int (nI tl), .ref (mo + 2), .ref (mo + 3), .int (nI e), .int (nI sz), .int (nI rp), .int (nI k), .ref (mo + 4), .ref (mo + 5), .ref (mo + 6), .int ir, .int (nI m), .int (nI r), .int (nI wd), .int (nI ag), .ref (mo + 7), .ref (mo + 8), .ref (mo + 9), .ref (mo + 10), .int (nI td), .int (nI om), .ref (mo + 11), .ref (mo + 12), .ref (mo + 13), .ref (mo + 14), .ref (mo + 15), .ref (mo + 16)])) := by rw [eg14]; exact hM_g12.same
                      refine mn_iload 4 dMo_rule_141 rfl ?_
                      exact mn_iret rfl dMo_rule_143 ⟨rfl, ((((mn_fr.rf.set eg1 (by show mo = mo; omega)).set eg10 (by show mo = mo; omega)).set eg12 (by show mo = mo; omega)).set eg14 (by show mo = mo; omega)), hM_g14⟩
                  · exact absurd c11 (by decide)
                · exact absurd c9 (by decide)
              · exact absurd c8 (by decide)
            · exact absurd c7 (by decide)
          · exact absurd c6 (by decide)
    · exact absurd c3 (by decide)
  · exact absurd c2 (by decide)
set_option maxRecDepth 100000 in
theorem c_M_rule2_bad {E : mn_En} {g : mn_H} {mo tl e sz rp st m r wd ag td om : Nat} {ir : Int32} (hM : mn_at g mo (.inr (11, [.int 0, .ref (mo + 1), .int (nI tl), .ref (mo + 2), .ref (mo + 3), .int (nI e), .int (nI sz), .int (nI rp), .int (nI st), .ref (mo + 4), .ref (mo + 5), .ref (mo + 6), .int ir, .int (nI m), .int (nI r), .int (nI wd), .int (nI ag), .ref (mo + 7), .ref (mo + 8), .ref (mo + 9), .ref (mo + 10), .int (nI td), .int (nI om), .ref (mo + 11), .ref (mo + 12), .ref (mo + 13), .ref (mo + 14), .ref (mo + 15), .ref (mo + 16)]))) {x : Int32} (hx : x < 0 ∨ 255 < x) : mn_R E MMo_rule 1 22 0 0 0 [(0, .ref mo), (1, .int 2), (2, .int x)] [] g (fun x g' => x = some (.int (-1)) ∧ mn_fr (fun q => q = mo) g g' ∧ mn_at g' mo (.inr (11, [.int 0, .ref (mo + 1), .int (nI tl), .ref (mo + 2), .ref (mo + 3), .int (nI e), .int (nI sz), .int (nI rp), .int (nI st), .ref (mo + 4), .ref (mo + 5), .ref (mo + 6), .int ir, .int (nI m), .int (nI r), .int (nI wd), .int (nI ag), .ref (mo + 7), .ref (mo + 8), .ref (mo + 9), .ref (mo + 10), .int (nI td), .int (nI om), .ref (mo + 11), .ref (mo + 12), .ref (mo + 13), .ref (mo + 14), .ref (mo + 15), .ref (mo + 16)]))) := by
  refine mn_aload_n 0 dMo_rule_0 rfl rfl ?_
  refine mn_iconst (v := 0) dMo_rule_1 (by decide) ?_
  refine mn_putf okMo 0 lMo_1 (by decide) rfl hM rfl rfl (Nat.le_of_ble_eq_true rfl) dMo_rule_2 ?_
  obtain ⟨g1, eg1⟩ : ∃ gg_, gg_ = mn_set g mo (.inr (11, [.int 0, .ref (mo + 1), .int (nI tl), .ref (mo + 2), .ref (mo + 3), .int (nI e), .int (nI sz), .int (nI rp), .int (nI st), .ref (mo + 4), .ref (mo + 5), .ref (mo + 6), .int ir, .int (nI m), .int (nI r), .int (nI wd), .int (nI ag), .ref (mo + 7), .ref (mo + 8), .ref (mo + 9), .ref (mo + 10), .int (nI td), .int (nI om), .ref (mo + 11), .ref (mo + 12), .ref (mo + 13), .ref (mo + 14), .ref (mo + 15), .ref (mo + 16)])) := ⟨_, rfl⟩
  refine mn_R.toG eg1 ?_
  have hM_g1 : mn_at g1 mo (.inr (11, [.int 0, .ref (mo + 1), .int (nI tl), .ref (mo + 2), .ref (mo + 3), .int (nI e), .int (nI sz), .int (nI rp), .int (nI st), .ref (mo + 4), .ref (mo + 5), .ref (mo + 6), .int ir, .int (nI m), .int (nI r), .int (nI wd), .int (nI ag), .ref (mo + 7), .ref (mo + 8), .ref (mo + 9), .ref (mo + 10), .int (nI td), .int (nI om), .ref (mo + 11), .ref (mo + 12), .ref (mo + 13), .ref (mo + 14), .ref (mo + 15), .ref (mo + 16)])) := by rw [eg1]; exact hM.same
  refine mn_iload_n 1 dMo_rule_5 rfl rfl ?_
  refine mn_if_ne 20 dMo_rule_6 (by decide) (fun c2 => ?_) (fun c2 => ?_)
  · refine mn_iload_n 1 dMo_rule_20 rfl rfl ?_
    refine mn_iconst (v := 1) dMo_rule_21 (by decide) ?_
    refine mn_icmp_ne 34 dMo_rule_22 (by decide) (fun c3 => ?_) (fun c3 => ?_)
    · refine mn_iload_n 1 dMo_rule_34 rfl rfl ?_
      refine mn_iconst (v := 2) dMo_rule_35 (by decide) ?_
      refine mn_icmp_ne 54 dMo_rule_36 (by decide) (fun c4 => ?_) (fun c4 => ?_)
      · exact absurd c4 (by decide)
      · refine mn_iload_n 2 dMo_rule_39 rfl rfl ?_
        refine mn_iconst (v := 0) dMo_rule_40 (by decide) ?_
        refine mn_sipush (v := 255) dMo_rule_41 (by decide) ?_
        refine mn_cS (d' := 0) (w' := 0) (As := [.int x, .int 0, .int 255]) (stk' := [.int 0]) okMo_in lMo_68 dMo_rule_44 rfl rfl (Nat.le_of_ble_eq_true rfl) (Nat.le_of_ble_eq_true rfl) (by decide) (c_M_in_n hx) rfl ?_
        refine mn_if_eq 54 dMo_rule_47 (by decide) (fun c5 => ?_) (fun c5 => ?_)
        · refine mn_iconst (v := 0) dMo_rule_54 (by decide) ?_
          refine mn_istore_n (ls' := [(0, .ref mo), (1, .int 2), (2, .int x), (3, .int 0)]) dMo_rule_55 rfl (by decide) rfl ?_
          refine mn_iload_n 3 dMo_rule_56 rfl rfl ?_
          refine mn_if_ne 62 dMo_rule_57 (by decide) (fun c6 => ?_) (fun c6 => ?_)
          · exact absurd c6 (by decide)
          · refine mn_iconst (v := -1) dMo_rule_60 (by decide) ?_
            exact mn_iret rfl dMo_rule_61 ⟨rfl, (mn_fr.rf.set eg1 (by show mo = mo; omega)), hM_g1⟩
        · exact absurd c5 (by decide)
    · exact absurd c3 (by decide)
  · exact absurd c2 (by decide)
set_option maxRecDepth 100000 in
theorem c_M_rule_bad {E : mn_En} {g : mn_H} {mo tl e sz rp st m r wd ag td om : Nat} {ir : Int32} (hM : mn_at g mo (.inr (11, [.int 0, .ref (mo + 1), .int (nI tl), .ref (mo + 2), .ref (mo + 3), .int (nI e), .int (nI sz), .int (nI rp), .int (nI st), .ref (mo + 4), .ref (mo + 5), .ref (mo + 6), .int ir, .int (nI m), .int (nI r), .int (nI wd), .int (nI ag), .ref (mo + 7), .ref (mo + 8), .ref (mo + 9), .ref (mo + 10), .int (nI td), .int (nI om), .ref (mo + 11), .ref (mo + 12), .ref (mo + 13), .ref (mo + 14), .ref (mo + 15), .ref (mo + 16)]))) {x y : Int32} (h0 : ¬ y = 0) (h1 : ¬ y = 1) (h2 : ¬ y = 2) : mn_R E MMo_rule 1 22 0 0 0 [(0, .ref mo), (1, .int y), (2, .int x)] [] g (fun x g' => x = some (.int (-1)) ∧ mn_fr (fun q => q = mo) g g' ∧ mn_at g' mo (.inr (11, [.int 0, .ref (mo + 1), .int (nI tl), .ref (mo + 2), .ref (mo + 3), .int (nI e), .int (nI sz), .int (nI rp), .int (nI st), .ref (mo + 4), .ref (mo + 5), .ref (mo + 6), .int ir, .int (nI m), .int (nI r), .int (nI wd), .int (nI ag), .ref (mo + 7), .ref (mo + 8), .ref (mo + 9), .ref (mo + 10), .int (nI td), .int (nI om), .ref (mo + 11), .ref (mo + 12), .ref (mo + 13), .ref (mo + 14), .ref (mo + 15), .ref (mo + 16)]))) := by
  refine mn_aload_n 0 dMo_rule_0 rfl rfl ?_
  refine mn_iconst (v := 0) dMo_rule_1 (by decide) ?_
  refine mn_putf okMo 0 lMo_1 (by decide) rfl hM rfl rfl (Nat.le_of_ble_eq_true rfl) dMo_rule_2 ?_
  obtain ⟨g1, eg1⟩ : ∃ gg_, gg_ = mn_set g mo (.inr (11, [.int 0, .ref (mo + 1), .int (nI tl), .ref (mo + 2), .ref (mo + 3), .int (nI e), .int (nI sz), .int (nI rp), .int (nI st), .ref (mo + 4), .ref (mo + 5), .ref (mo + 6), .int ir, .int (nI m), .int (nI r), .int (nI wd), .int (nI ag), .ref (mo + 7), .ref (mo + 8), .ref (mo + 9), .ref (mo + 10), .int (nI td), .int (nI om), .ref (mo + 11), .ref (mo + 12), .ref (mo + 13), .ref (mo + 14), .ref (mo + 15), .ref (mo + 16)])) := ⟨_, rfl⟩
  refine mn_R.toG eg1 ?_
  have hM_g1 : mn_at g1 mo (.inr (11, [.int 0, .ref (mo + 1), .int (nI tl), .ref (mo + 2), .ref (mo + 3), .int (nI e), .int (nI sz), .int (nI rp), .int (nI st), .ref (mo + 4), .ref (mo + 5), .ref (mo + 6), .int ir, .int (nI m), .int (nI r), .int (nI wd), .int (nI ag), .ref (mo + 7), .ref (mo + 8), .ref (mo + 9), .ref (mo + 10), .int (nI td), .int (nI om), .ref (mo + 11), .ref (mo + 12), .ref (mo + 13), .ref (mo + 14), .ref (mo + 15), .ref (mo + 16)])) := by rw [eg1]; exact hM.same
  refine mn_iload_n 1 dMo_rule_5 rfl rfl ?_
  refine mn_if_ne 20 dMo_rule_6 (by decide) (fun c2 => ?_) (fun c2 => ?_)
  · refine mn_iload_n 1 dMo_rule_20 rfl rfl ?_
    refine mn_iconst (v := 1) dMo_rule_21 (by decide) ?_
    refine mn_icmp_ne 34 dMo_rule_22 (by decide) (fun c3 => ?_) (fun c3 => ?_)
    · refine mn_iload_n 1 dMo_rule_34 rfl rfl ?_
      refine mn_iconst (v := 2) dMo_rule_35 (by decide) ?_
      refine mn_icmp_ne 54 dMo_rule_36 (by decide) (fun c4 => ?_) (fun c4 => ?_)
      · refine mn_iconst (v := 0) dMo_rule_54 (by decide) ?_
        refine mn_istore_n (ls' := [(0, .ref mo), (1, .int y), (2, .int x), (3, .int 0)]) dMo_rule_55 rfl (by decide) rfl ?_
        refine mn_iload_n 3 dMo_rule_56 rfl rfl ?_
        refine mn_if_ne 62 dMo_rule_57 (by decide) (fun c5 => ?_) (fun c5 => ?_)
        · exact absurd c5 (by decide)
        · refine mn_iconst (v := -1) dMo_rule_60 (by decide) ?_
          exact mn_iret rfl dMo_rule_61 ⟨rfl, (mn_fr.rf.set eg1 (by show mo = mo; omega)), hM_g1⟩
      · exact absurd c4 h2
    · exact absurd c3 h1
  · exact absurd c2 h0
set_option maxRecDepth 100000 in
theorem c_M_length {E : mn_En} {g : mn_H} {mo tl e sz rp st m r wd ag td om : Nat} {ir : Int32} {bg : Nat → Nat} (hM : mn_at g mo (.inr (11, [.int 0, .ref (mo + 1), .int (nI tl), .ref (mo + 2), .ref (mo + 3), .int (nI e), .int (nI sz), .int (nI rp), .int (nI st), .ref (mo + 4), .ref (mo + 5), .ref (mo + 6), .int ir, .int (nI m), .int (nI r), .int (nI wd), .int (nI ag), .ref (mo + 7), .ref (mo + 8), .ref (mo + 9), .ref (mo + 10), .int (nI td), .int (nI om), .ref (mo + 11), .ref (mo + 12), .ref (mo + 13), .ref (mo + 14), .ref (mo + 15), .ref (mo + 16)]))) (hBg : mn_at g (mo + 3) (.inl (0, 21, .inl (fun j => nI (bg j))))) (he : e ≤ 20) : mn_R E MMo_length 0 0 0 0 0 [(0, .ref mo)] [] g (mn_is (some (.int (nI (bg e)))) g) := by
  refine mn_aload_n 0 dMo_length_0 rfl rfl ?_
  refine mn_get okMo 4 lMo_20 (by decide) hM rfl dMo_length_1 ?_
  refine mn_aload_n 0 dMo_length_4 rfl rfl ?_
  refine mn_get okMo 5 lMo_77 (by decide) hM rfl dMo_length_5 ?_
  refine mn_ialdN (j := e) hBg rfl (by omega) (by omega) dMo_length_8 ?_
  exact mn_iret rfl dMo_length_9 ⟨rfl, rfl⟩
set_option maxRecDepth 100000 in
theorem c_M_piece {E : mn_En} {g : mn_H} {mo tl e sz rp st m r wd ag td om : Nat} {ir : Int32} (hM : mn_at g mo (.inr (11, [.int 0, .ref (mo + 1), .int (nI tl), .ref (mo + 2), .ref (mo + 3), .int (nI e), .int (nI sz), .int (nI rp), .int (nI st), .ref (mo + 4), .ref (mo + 5), .ref (mo + 6), .int ir, .int (nI m), .int (nI r), .int (nI wd), .int (nI ag), .ref (mo + 7), .ref (mo + 8), .ref (mo + 9), .ref (mo + 10), .int (nI td), .int (nI om), .ref (mo + 11), .ref (mo + 12), .ref (mo + 13), .ref (mo + 14), .ref (mo + 15), .ref (mo + 16)]))) (hsz : 20 ≤ sz) : mn_R E MMo_piece 0 0 0 0 0 [(0, .ref mo)] [] g (mn_is (some (.int (nI (sz - 12)))) g) := by
  refine mn_aload_n 0 dMo_piece_0 rfl rfl ?_
  refine mn_get okMo 6 lMo_23 (by decide) hM rfl dMo_piece_1 ?_
  refine mn_bipush (v := 12) dMo_piece_4 (by decide) ?_
  refine mn_isub (z := nI (sz - 12)) dMo_piece_6 (pk_sub (a := sz) (b := 12) (by omega)) ?_
  exact mn_iret rfl dMo_piece_7 ⟨rfl, rfl⟩
theorem pcN_0 {w : Nat} (hw : 0 < w) : pcN 0 w = 1 := by
  unfold pcN
  rw [Nat.zero_add, Nat.div_eq_of_lt (by omega)]
  rfl
theorem pcN_p {len w : Nat} (hw : 0 < w) (hl : len ≠ 0) : pcN len w = (len + w - 1) / w := by
  unfold pcN
  refine Nat.max_eq_right ?_
  rw [Nat.le_div_iff_mul_le hw]
  omega
set_option maxRecDepth 100000 in
theorem c_M_pieces {E : mn_En} {g : mn_H} {mo tl e sz rp st m r wd ag td om : Nat} {ir : Int32} {bg : Nat → Nat} (hM : mn_at g mo (.inr (11, [.int 0, .ref (mo + 1), .int (nI tl), .ref (mo + 2), .ref (mo + 3), .int (nI e), .int (nI sz), .int (nI rp), .int (nI st), .ref (mo + 4), .ref (mo + 5), .ref (mo + 6), .int ir, .int (nI m), .int (nI r), .int (nI wd), .int (nI ag), .ref (mo + 7), .ref (mo + 8), .ref (mo + 9), .ref (mo + 10), .int (nI td), .int (nI om), .ref (mo + 11), .ref (mo + 12), .ref (mo + 13), .ref (mo + 14), .ref (mo + 15), .ref (mo + 16)]))) (hBg : mn_at g (mo + 3) (.inl (0, 21, .inl (fun j => nI (bg j))))) (he : e ≤ 20) (hsz : 20 ≤ sz) (hsz2 : sz ≤ 80) (hlen : bg e ≤ 1260) : mn_R E MMo_pieces 1 20 0 0 0 [(0, .ref mo)] [] g (mn_is (some (.int (nI (pcN (bg e) (sz - 12))))) g) := by
  refine mn_aload_n 0 dMo_pieces_0 rfl rfl ?_
  refine mn_cV (d' := 0) (w' := 0) (As := []) (stk' := [.int (nI (bg e))]) okMo_length lMo_90 dMo_pieces_1 hM rfl rfl rfl rfl (Nat.le_of_ble_eq_true rfl) (Nat.le_of_ble_eq_true rfl) (by decide) (c_M_length hM hBg he) rfl ?_
  refine mn_if_ne 11 dMo_pieces_4 (by decide) (fun c1 => ?_) (fun c1 => ?_)
  · have c1 := mt (nI_eq (a := (bg e)) (b := 0) (by omega) (by omega)).mpr c1
    refine mn_aload_n 0 dMo_pieces_11 rfl rfl ?_
    refine mn_cV (d' := 0) (w' := 0) (As := []) (stk' := [.int (nI (bg e))]) okMo_length lMo_90 dMo_pieces_12 hM rfl rfl rfl rfl (Nat.le_of_ble_eq_true rfl) (Nat.le_of_ble_eq_true rfl) (by decide) (c_M_length hM hBg he) rfl ?_
    refine mn_aload_n 0 dMo_pieces_15 rfl rfl ?_
    refine mn_cV (d' := 0) (w' := 0) (As := []) (stk' := [.int (nI (sz - 12)), .int (nI (bg e))]) okMo_piece lMo_94 dMo_pieces_16 hM rfl rfl rfl rfl (Nat.le_of_ble_eq_true rfl) (Nat.le_of_ble_eq_true rfl) (by decide) (c_M_piece hM hsz) rfl ?_
    refine mn_iadd (z := nI (bg e + (sz - 12))) dMo_pieces_19 (nI_add (bg e) (sz - 12)) ?_
    refine mn_iconst (v := 1) dMo_pieces_20 (by decide) ?_
    refine mn_isub (z := nI (bg e + (sz - 12) - 1)) dMo_pieces_21 (pk_sub (a := bg e + (sz - 12)) (b := 1) (by omega)) ?_
    refine mn_aload_n 0 dMo_pieces_22 rfl rfl ?_
    refine mn_cV (d' := 0) (w' := 0) (As := []) (stk' := [.int (nI (sz - 12)), .int (nI (bg e + (sz - 12) - 1))]) okMo_piece lMo_94 dMo_pieces_23 hM rfl rfl rfl rfl (Nat.le_of_ble_eq_true rfl) (Nat.le_of_ble_eq_true rfl) (by decide) (c_M_piece hM hsz) rfl ?_
    refine mn_idiv (z := nI ((bg e + (sz - 12) - 1) / (sz - 12))) dMo_pieces_26 (nI_ne0 (n := sz - 12) (by omega) (by omega)) (pk_div (a := bg e + (sz - 12) - 1) (d := sz - 12) (by omega) (by omega) (by omega)) ?_
    exact mn_iret rfl dMo_pieces_27 ⟨by rw [pcN_p (by omega) c1], rfl⟩
  · have c1 := (nI_eq (a := (bg e)) (b := 0) (by omega) (by omega)).mp c1
    refine mn_iconst (v := 1) dMo_pieces_7 (by decide) ?_
    refine mn_goto 27 dMo_pieces_8 (by decide) ?_
    exact mn_iret rfl dMo_pieces_27 ⟨by rw [c1, pcN_0 (by omega)]; rfl, rfl⟩
set_option maxRecDepth 100000 in
theorem c_M_volumes_full {E : mn_En} {g : mn_H} {mo tl e sz rp st m r wd ag td om : Nat} {ir : Int32} {bg : Nat → Nat} (hM : mn_at g mo (.inr (11, [.int 0, .ref (mo + 1), .int (nI tl), .ref (mo + 2), .ref (mo + 3), .int (nI e), .int (nI sz), .int (nI rp), .int (nI st), .ref (mo + 4), .ref (mo + 5), .ref (mo + 6), .int ir, .int (nI m), .int (nI r), .int (nI wd), .int (nI ag), .ref (mo + 7), .ref (mo + 8), .ref (mo + 9), .ref (mo + 10), .int (nI td), .int (nI om), .ref (mo + 11), .ref (mo + 12), .ref (mo + 13), .ref (mo + 14), .ref (mo + 15), .ref (mo + 16)]))) (hBg : mn_at g (mo + 3) (.inl (0, 21, .inl (fun j => nI (bg j))))) (he : e ≤ 20) (hsz : 20 ≤ sz) (hsz2 : sz ≤ 80) (hrp : rp ≤ 3) (hlen : bg e ≤ 1260) (hf : 60 < pcN (bg e) (sz - 12) + rp) : mn_R E MMo_volumes 2 40 0 0 0 [(0, .ref mo)] [] g (fun x g' => x = some (.int (-3)) ∧ mn_fr (fun q => q = mo) g g' ∧ mn_at g' mo (.inr (11, [.int 0, .ref (mo + 1), .int (nI tl), .ref (mo + 2), .ref (mo + 3), .int (nI e), .int (nI sz), .int (nI rp), .int (nI st), .ref (mo + 4), .ref (mo + 5), .ref (mo + 6), .int ir, .int (nI m), .int (nI r), .int (nI wd), .int (nI ag), .ref (mo + 7), .ref (mo + 8), .ref (mo + 9), .ref (mo + 10), .int (nI td), .int (nI om), .ref (mo + 11), .ref (mo + 12), .ref (mo + 13), .ref (mo + 14), .ref (mo + 15), .ref (mo + 16)]))) := by
  have hpc : pcN (bg e) (sz - 12) < 100000 := by unfold pcN; have := Nat.div_le_self (bg e + (sz - 12) - 1) (sz - 12); rw [Nat.max_def]; split <;> omega
  refine mn_aload_n 0 dMo_volumes_0 rfl rfl ?_
  refine mn_iconst (v := 0) dMo_volumes_1 (by decide) ?_
  refine mn_putf okMo 0 lMo_1 (by decide) rfl hM rfl rfl (Nat.le_of_ble_eq_true rfl) dMo_volumes_2 ?_
  obtain ⟨g1, eg1⟩ : ∃ gg_, gg_ = mn_set g mo (.inr (11, [.int 0, .ref (mo + 1), .int (nI tl), .ref (mo + 2), .ref (mo + 3), .int (nI e), .int (nI sz), .int (nI rp), .int (nI st), .ref (mo + 4), .ref (mo + 5), .ref (mo + 6), .int ir, .int (nI m), .int (nI r), .int (nI wd), .int (nI ag), .ref (mo + 7), .ref (mo + 8), .ref (mo + 9), .ref (mo + 10), .int (nI td), .int (nI om), .ref (mo + 11), .ref (mo + 12), .ref (mo + 13), .ref (mo + 14), .ref (mo + 15), .ref (mo + 16)])) := ⟨_, rfl⟩
  refine mn_R.toG eg1 ?_
  have hM_g1 : mn_at g1 mo (.inr (11, [.int 0, .ref (mo + 1), .int (nI tl), .ref (mo + 2), .ref (mo + 3), .int (nI e), .int (nI sz), .int (nI rp), .int (nI st), .ref (mo + 4), .ref (mo + 5), .ref (mo + 6), .int ir, .int (nI m), .int (nI r), .int (nI wd), .int (nI ag), .ref (mo + 7), .ref (mo + 8), .ref (mo + 9), .ref (mo + 10), .int (nI td), .int (nI om), .ref (mo + 11), .ref (mo + 12), .ref (mo + 13), .ref (mo + 14), .ref (mo + 15), .ref (mo + 16)])) := by rw [eg1]; exact hM.same
  have hBg_g1 : mn_at g1 (mo + 3) (.inl (0, 21, .inl (fun j => nI (bg j)))) := by rw [eg1]; exact hBg.off (by omega)
  refine mn_aload_n 0 dMo_volumes_5 rfl rfl ?_
  refine mn_cV (d' := 1) (w' := 20) (As := []) (stk' := [.int (nI (pcN (bg e) (sz - 12)))]) okMo_pieces lMo_97 dMo_volumes_6 hM_g1 rfl rfl rfl rfl (Nat.le_of_ble_eq_true rfl) (Nat.le_of_ble_eq_true rfl) (by decide) (c_M_pieces hM_g1 hBg_g1 he hsz hsz2 hlen) rfl ?_
  refine mn_aload_n 0 dMo_volumes_9 rfl rfl ?_
  refine mn_get okMo 7 lMo_84 (by decide) hM_g1 rfl dMo_volumes_10 ?_
  refine mn_iadd (z := nI (pcN (bg e) (sz - 12) + rp)) dMo_volumes_13 (nI_add (pcN (bg e) (sz - 12)) rp) ?_
  refine mn_bipush (v := 60) dMo_volumes_14 (by decide) ?_
  refine mn_icmp_le 24 dMo_volumes_16 (by decide) (fun c2 => ?_) (fun c2 => ?_)
  · have c2 := (nI_leI (a := (pcN (bg e) (sz - 12) + rp)) (b := 60) (by omega) (by omega)).mp c2
    refine mn_aload_n 0 dMo_volumes_24 rfl rfl ?_
    refine mn_cV (d' := 1) (w' := 20) (As := []) (stk' := [.int (nI (pcN (bg e) (sz - 12)))]) okMo_pieces lMo_97 dMo_volumes_25 hM_g1 rfl rfl rfl rfl (Nat.le_of_ble_eq_true rfl) (Nat.le_of_ble_eq_true rfl) (by decide) (c_M_pieces hM_g1 hBg_g1 he hsz hsz2 hlen) rfl ?_
    refine mn_aload_n 0 dMo_volumes_28 rfl rfl ?_
    refine mn_get okMo 7 lMo_84 (by decide) hM_g1 rfl dMo_volumes_29 ?_
    refine mn_iadd (z := nI (pcN (bg e) (sz - 12) + rp)) dMo_volumes_32 (nI_add (pcN (bg e) (sz - 12)) rp) ?_
    exact mn_iret rfl dMo_volumes_33 (absurd hf (by omega))
  · have c2 := mt (nI_leI (a := (pcN (bg e) (sz - 12) + rp)) (b := 60) (by omega) (by omega)).mpr c2
    refine mn_bipush (v := (-3)) dMo_volumes_19 (by decide) ?_
    refine mn_goto 33 dMo_volumes_21 (by decide) ?_
    exact mn_iret rfl dMo_volumes_33 ⟨rfl, (mn_fr.rf.set eg1 (by show mo = mo; omega)), hM_g1⟩
set_option maxRecDepth 100000 in
theorem c_M_volumes {E : mn_En} {g : mn_H} {mo tl e sz rp st m r wd ag td om : Nat} {ir : Int32} {bg : Nat → Nat} (hM : mn_at g mo (.inr (11, [.int 0, .ref (mo + 1), .int (nI tl), .ref (mo + 2), .ref (mo + 3), .int (nI e), .int (nI sz), .int (nI rp), .int (nI st), .ref (mo + 4), .ref (mo + 5), .ref (mo + 6), .int ir, .int (nI m), .int (nI r), .int (nI wd), .int (nI ag), .ref (mo + 7), .ref (mo + 8), .ref (mo + 9), .ref (mo + 10), .int (nI td), .int (nI om), .ref (mo + 11), .ref (mo + 12), .ref (mo + 13), .ref (mo + 14), .ref (mo + 15), .ref (mo + 16)]))) (hBg : mn_at g (mo + 3) (.inl (0, 21, .inl (fun j => nI (bg j))))) (he : e ≤ 20) (hsz : 20 ≤ sz) (hsz2 : sz ≤ 80) (hrp : rp ≤ 3) (hlen : bg e ≤ 1260) (hf : pcN (bg e) (sz - 12) + rp ≤ 60) : mn_R E MMo_volumes 2 40 0 0 0 [(0, .ref mo)] [] g (fun x g' => x = some (.int (nI (pcN (bg e) (sz - 12) + rp))) ∧ mn_fr (fun q => q = mo) g g' ∧ mn_at g' mo (.inr (11, [.int 0, .ref (mo + 1), .int (nI tl), .ref (mo + 2), .ref (mo + 3), .int (nI e), .int (nI sz), .int (nI rp), .int (nI st), .ref (mo + 4), .ref (mo + 5), .ref (mo + 6), .int ir, .int (nI m), .int (nI r), .int (nI wd), .int (nI ag), .ref (mo + 7), .ref (mo + 8), .ref (mo + 9), .ref (mo + 10), .int (nI td), .int (nI om), .ref (mo + 11), .ref (mo + 12), .ref (mo + 13), .ref (mo + 14), .ref (mo + 15), .ref (mo + 16)]))) := by
  have hpc : pcN (bg e) (sz - 12) < 100000 := by unfold pcN; have := Nat.div_le_self (bg e + (sz - 12) - 1) (sz - 12); rw [Nat.max_def]; split <;> omega
  refine mn_aload_n 0 dMo_volumes_0 rfl rfl ?_
  refine mn_iconst (v := 0) dMo_volumes_1 (by decide) ?_
  refine mn_putf okMo 0 lMo_1 (by decide) rfl hM rfl rfl (Nat.le_of_ble_eq_true rfl) dMo_volumes_2 ?_
  obtain ⟨g1, eg1⟩ : ∃ gg_, gg_ = mn_set g mo (.inr (11, [.int 0, .ref (mo + 1), .int (nI tl), .ref (mo + 2), .ref (mo + 3), .int (nI e), .int (nI sz), .int (nI rp), .int (nI st), .ref (mo + 4), .ref (mo + 5), .ref (mo + 6), .int ir, .int (nI m), .int (nI r), .int (nI wd), .int (nI ag), .ref (mo + 7), .ref (mo + 8), .ref (mo + 9), .ref (mo + 10), .int (nI td), .int (nI om), .ref (mo + 11), .ref (mo + 12), .ref (mo + 13), .ref (mo + 14), .ref (mo + 15), .ref (mo + 16)])) := ⟨_, rfl⟩
  refine mn_R.toG eg1 ?_
  have hM_g1 : mn_at g1 mo (.inr (11, [.int 0, .ref (mo + 1), .int (nI tl), .ref (mo + 2), .ref (mo + 3), .int (nI e), .int (nI sz), .int (nI rp), .int (nI st), .ref (mo + 4), .ref (mo + 5), .ref (mo + 6), .int ir, .int (nI m), .int (nI r), .int (nI wd), .int (nI ag), .ref (mo + 7), .ref (mo + 8), .ref (mo + 9), .ref (mo + 10), .int (nI td), .int (nI om), .ref (mo + 11), .ref (mo + 12), .ref (mo + 13), .ref (mo + 14), .ref (mo + 15), .ref (mo + 16)])) := by rw [eg1]; exact hM.same
  have hBg_g1 : mn_at g1 (mo + 3) (.inl (0, 21, .inl (fun j => nI (bg j)))) := by rw [eg1]; exact hBg.off (by omega)
  refine mn_aload_n 0 dMo_volumes_5 rfl rfl ?_
  refine mn_cV (d' := 1) (w' := 20) (As := []) (stk' := [.int (nI (pcN (bg e) (sz - 12)))]) okMo_pieces lMo_97 dMo_volumes_6 hM_g1 rfl rfl rfl rfl (Nat.le_of_ble_eq_true rfl) (Nat.le_of_ble_eq_true rfl) (by decide) (c_M_pieces hM_g1 hBg_g1 he hsz hsz2 hlen) rfl ?_
  refine mn_aload_n 0 dMo_volumes_9 rfl rfl ?_
  refine mn_get okMo 7 lMo_84 (by decide) hM_g1 rfl dMo_volumes_10 ?_
  refine mn_iadd (z := nI (pcN (bg e) (sz - 12) + rp)) dMo_volumes_13 (nI_add (pcN (bg e) (sz - 12)) rp) ?_
  refine mn_bipush (v := 60) dMo_volumes_14 (by decide) ?_
  refine mn_icmp_le 24 dMo_volumes_16 (by decide) (fun c2 => ?_) (fun c2 => ?_)
  · have c2 := (nI_leI (a := (pcN (bg e) (sz - 12) + rp)) (b := 60) (by omega) (by omega)).mp c2
    refine mn_aload_n 0 dMo_volumes_24 rfl rfl ?_
    refine mn_cV (d' := 1) (w' := 20) (As := []) (stk' := [.int (nI (pcN (bg e) (sz - 12)))]) okMo_pieces lMo_97 dMo_volumes_25 hM_g1 rfl rfl rfl rfl (Nat.le_of_ble_eq_true rfl) (Nat.le_of_ble_eq_true rfl) (by decide) (c_M_pieces hM_g1 hBg_g1 he hsz hsz2 hlen) rfl ?_
    refine mn_aload_n 0 dMo_volumes_28 rfl rfl ?_
    refine mn_get okMo 7 lMo_84 (by decide) hM_g1 rfl dMo_volumes_29 ?_
    refine mn_iadd (z := nI (pcN (bg e) (sz - 12) + rp)) dMo_volumes_32 (nI_add (pcN (bg e) (sz - 12)) rp) ?_
    exact mn_iret rfl dMo_volumes_33 ⟨rfl, (mn_fr.rf.set eg1 (by show mo = mo; omega)), hM_g1⟩
  · have c2 := mt (nI_leI (a := (pcN (bg e) (sz - 12) + rp)) (b := 60) (by omega) (by omega)).mpr c2
    refine mn_bipush (v := (-3)) dMo_volumes_19 (by decide) ?_
    refine mn_goto 33 dMo_volumes_21 (by decide) ?_
    exact mn_iret rfl dMo_volumes_33 (absurd hf (by omega))
