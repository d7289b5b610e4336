theorem stN_0 {b : Nat → Nat} {s : Nat} : stN b s = 0 ↔ s = 0 := by
  unfold stN
  constructor
  · intro h
    split at h
    · assumption
    · split at h
      · split at h <;> cases h
      · cases h
  · intro h; rw [if_pos h]
theorem stN_y {b : Nat → Nat} {s : Nat} (h : hdN b s) : 1 ≤ stN b s ∧ stN b s ≤ 2 := by
  unfold stN
  rw [if_neg (by have := h.1; omega), if_pos h]
  split <;> decide
theorem stN_n {b : Nat → Nat} {s : Nat} (h : ¬ hdN b s) : stN b s < 1 ∨ 2 < stN b s := by
  unfold stN
  split
  · exact Or.inl (by decide)
  · exact Or.inr (by decide)
/-- the lengths of what is there -/
def eL (pm : Nat → Option Nat) (ml : Nat → Nat) : Nat → Nat := fun n => match pm n with
  | none => 0
  | some _ => ml n
theorem eL_n {pm : Nat → Option Nat} {ml : Nat → Nat} {n : Nat} (h : pm n = none) : eL pm ml n = 0 := by unfold eL; rw [h]
theorem eL_y {pm : Nat → Option Nat} {ml : Nat → Nat} {n : Nat} (h : ¬ pm n = none) : eL pm ml n = ml n := by
  unfold eL
  cases hp : pm n with
  | none => exact absurd hp h
  | some q => rfl
theorem eL_lt {pm : Nat → Option Nat} {ml : Nat → Nat} (h : ∀ j, ml j < 256) : ∀ n, eL pm ml n < 256 := by
  intro n
  by_cases hp : pm n = none
  · rw [eL_n hp]; decide
  · rw [eL_y hp]; exact h n
theorem mod_sub (p w : Nat) : p % w = p - p / w * w := by
  have := Nat.div_add_mod p w
  rw [Nat.mul_comm] at this
  omega
set_option maxRecDepth 100000 in
theorem c_M_slot_bad {E : mn_En} {g : mn_H} {mo tl e sz rp st m r wd ag td om : Nat} {ir : Int32} (hM : mn_at g mo (.inr (11, [.int 0, .ref (mo + 1), .int (nI tl), .ref (mo + 2), .ref (mo + 3), .int (nI e), .int (nI sz), .int (nI rp), .int (nI st), .ref (mo + 4), .ref (mo + 5), .ref (mo + 6), .int ir, .int (nI m), .int (nI r), .int (nI wd), .int (nI ag), .ref (mo + 7), .ref (mo + 8), .ref (mo + 9), .ref (mo + 10), .int (nI td), .int (nI om), .ref (mo + 11), .ref (mo + 12), .ref (mo + 13), .ref (mo + 14), .ref (mo + 15), .ref (mo + 16)]))) {x x2 : Int32} (hx : x < 0 ∨ 60 ≤ x) : mn_R E MMo_slot 3 68 0 0 0 [(0, .ref mo), (1, .int x), (2, .int x2)] [] g (fun x g' => x = some (.int (-1)) ∧ mn_fr (fun q => q = mo) g g' ∧ mn_at g' mo (.inr (11, [.int 0, .ref (mo + 1), .int (nI tl), .ref (mo + 2), .ref (mo + 3), .int (nI e), .int (nI sz), .int (nI rp), .int (nI st), .ref (mo + 4), .ref (mo + 5), .ref (mo + 6), .int ir, .int (nI m), .int (nI r), .int (nI wd), .int (nI ag), .ref (mo + 7), .ref (mo + 8), .ref (mo + 9), .ref (mo + 10), .int (nI td), .int (nI om), .ref (mo + 11), .ref (mo + 12), .ref (mo + 13), .ref (mo + 14), .ref (mo + 15), .ref (mo + 16)]))) := by
  refine mn_aload_n 0 dMo_slot_0 rfl rfl ?_
  refine mn_iconst (v := 0) dMo_slot_1 (by decide) ?_
  refine mn_putf okMo 0 lMo_1 (by decide) rfl hM rfl rfl (Nat.le_of_ble_eq_true rfl) dMo_slot_2 ?_
  obtain ⟨g1, eg1⟩ : ∃ gg_, gg_ = mn_set g mo (.inr (11, [.int 0, .ref (mo + 1), .int (nI tl), .ref (mo + 2), .ref (mo + 3), .int (nI e), .int (nI sz), .int (nI rp), .int (nI st), .ref (mo + 4), .ref (mo + 5), .ref (mo + 6), .int ir, .int (nI m), .int (nI r), .int (nI wd), .int (nI ag), .ref (mo + 7), .ref (mo + 8), .ref (mo + 9), .ref (mo + 10), .int (nI td), .int (nI om), .ref (mo + 11), .ref (mo + 12), .ref (mo + 13), .ref (mo + 14), .ref (mo + 15), .ref (mo + 16)])) := ⟨_, rfl⟩
  refine mn_R.toG eg1 ?_
  have hM_g1 : mn_at g1 mo (.inr (11, [.int 0, .ref (mo + 1), .int (nI tl), .ref (mo + 2), .ref (mo + 3), .int (nI e), .int (nI sz), .int (nI rp), .int (nI st), .ref (mo + 4), .ref (mo + 5), .ref (mo + 6), .int ir, .int (nI m), .int (nI r), .int (nI wd), .int (nI ag), .ref (mo + 7), .ref (mo + 8), .ref (mo + 9), .ref (mo + 10), .int (nI td), .int (nI om), .ref (mo + 11), .ref (mo + 12), .ref (mo + 13), .ref (mo + 14), .ref (mo + 15), .ref (mo + 16)])) := by rw [eg1]; exact hM.same
  refine mn_aload_n 0 dMo_slot_5 rfl rfl ?_
  refine mn_iload_n 1 dMo_slot_6 rfl rfl ?_
  refine mn_cV (d' := 1) (w' := 22) (As := [.int x]) (stk' := [.int 1]) okMo_noSlot lMo_130 dMo_slot_7 hM_g1 rfl rfl rfl rfl (Nat.le_of_ble_eq_true rfl) (Nat.le_of_ble_eq_true rfl) (by decide) (c_M_noSlot_y hM_g1 hx) rfl ?_
  refine mn_if_ne 22 dMo_slot_10 (by decide) (fun c2 => ?_) (fun c2 => ?_)
  · refine mn_iconst (v := -1) dMo_slot_22 (by decide) ?_
    exact mn_iret rfl dMo_slot_23 ⟨rfl, (mn_fr.rf.set eg1 (by show mo = mo; omega)), hM_g1⟩
  · exact absurd c2 (by decide)
set_option maxRecDepth 100000 in
theorem c_M_slot_what {E : mn_En} {g : mn_H} {mo tl e sz rp st m r wd ag td om : Nat} {ir : Int32} (hM : mn_at g mo (.inr (11, [.int 0, .ref (mo + 1), .int (nI tl), .ref (mo + 2), .ref (mo + 3), .int (nI e), .int (nI sz), .int (nI rp), .int (nI st), .ref (mo + 4), .ref (mo + 5), .ref (mo + 6), .int ir, .int (nI m), .int (nI r), .int (nI wd), .int (nI ag), .ref (mo + 7), .ref (mo + 8), .ref (mo + 9), .ref (mo + 10), .int (nI td), .int (nI om), .ref (mo + 11), .ref (mo + 12), .ref (mo + 13), .ref (mo + 14), .ref (mo + 15), .ref (mo + 16)]))) {k : Nat} (hk : k < 60) {x : Int32} (hx : x < 0 ∨ 5 < x) : mn_R E MMo_slot 3 68 0 0 0 [(0, .ref mo), (1, .int (nI k)), (2, .int x)] [] g (fun x g' => x = some (.int (-1)) ∧ mn_fr (fun q => q = mo) g g' ∧ mn_at g' mo (.inr (11, [.int 0, .ref (mo + 1), .int (nI tl), .ref (mo + 2), .ref (mo + 3), .int (nI e), .int (nI sz), .int (nI rp), .int (nI st), .ref (mo + 4), .ref (mo + 5), .ref (mo + 6), .int ir, .int (nI m), .int (nI r), .int (nI wd), .int (nI ag), .ref (mo + 7), .ref (mo + 8), .ref (mo + 9), .ref (mo + 10), .int (nI td), .int (nI om), .ref (mo + 11), .ref (mo + 12), .ref (mo + 13), .ref (mo + 14), .ref (mo + 15), .ref (mo + 16)]))) := by
  refine mn_aload_n 0 dMo_slot_0 rfl rfl ?_
  refine mn_iconst (v := 0) dMo_slot_1 (by decide) ?_
  refine mn_putf okMo 0 lMo_1 (by decide) rfl hM rfl rfl (Nat.le_of_ble_eq_true rfl) dMo_slot_2 ?_
  obtain ⟨g1, eg1⟩ : ∃ gg_, gg_ = mn_set g mo (.inr (11, [.int 0, .ref (mo + 1), .int (nI tl), .ref (mo + 2), .ref (mo + 3), .int (nI e), .int (nI sz), .int (nI rp), .int (nI st), .ref (mo + 4), .ref (mo + 5), .ref (mo + 6), .int ir, .int (nI m), .int (nI r), .int (nI wd), .int (nI ag), .ref (mo + 7), .ref (mo + 8), .ref (mo + 9), .ref (mo + 10), .int (nI td), .int (nI om), .ref (mo + 11), .ref (mo + 12), .ref (mo + 13), .ref (mo + 14), .ref (mo + 15), .ref (mo + 16)])) := ⟨_, rfl⟩
  refine mn_R.toG eg1 ?_
  have hM_g1 : mn_at g1 mo (.inr (11, [.int 0, .ref (mo + 1), .int (nI tl), .ref (mo + 2), .ref (mo + 3), .int (nI e), .int (nI sz), .int (nI rp), .int (nI st), .ref (mo + 4), .ref (mo + 5), .ref (mo + 6), .int ir, .int (nI m), .int (nI r), .int (nI wd), .int (nI ag), .ref (mo + 7), .ref (mo + 8), .ref (mo + 9), .ref (mo + 10), .int (nI td), .int (nI om), .ref (mo + 11), .ref (mo + 12), .ref (mo + 13), .ref (mo + 14), .ref (mo + 15), .ref (mo + 16)])) := by rw [eg1]; exact hM.same
  refine mn_aload_n 0 dMo_slot_5 rfl rfl ?_
  refine mn_iload_n 1 dMo_slot_6 rfl rfl ?_
  refine mn_cV (d' := 1) (w' := 22) (As := [.int (nI k)]) (stk' := [.int 0]) okMo_noSlot lMo_130 dMo_slot_7 hM_g1 rfl rfl rfl rfl (Nat.le_of_ble_eq_true rfl) (Nat.le_of_ble_eq_true rfl) (by decide) (c_M_noSlot_n hM_g1 (k := k) (by omega)) rfl ?_
  refine mn_if_ne 22 dMo_slot_10 (by decide) (fun c2 => ?_) (fun c2 => ?_)
  · exact absurd c2 (by decide)
  · refine mn_iload_n 2 dMo_slot_13 rfl rfl ?_
    refine mn_iconst (v := 0) dMo_slot_14 (by decide) ?_
    refine mn_iconst (v := 5) dMo_slot_15 (by decide) ?_
    refine mn_cS (d' := 0) (w' := 0) (As := [.int x, .int 0, .int 5]) (stk' := [.int 0]) okMo_in lMo_68 dMo_slot_16 rfl rfl (Nat.le_of_ble_eq_true rfl) (Nat.le_of_ble_eq_true rfl) (by decide) (c_M_in_n hx) rfl ?_
    refine mn_if_ne 24 dMo_slot_19 (by decide) (fun c3 => ?_) (fun c3 => ?_)
    · exact absurd c3 (by decide)
    · refine mn_iconst (v := -1) dMo_slot_22 (by decide) ?_
      exact mn_iret rfl dMo_slot_23 ⟨rfl, (mn_fr.rf.set eg1 (by show mo = mo; omega)), hM_g1⟩
set_option maxRecDepth 100000 in
theorem c_M_slot0 {E : mn_En} {g : mn_H} {mo tl e sz rp st m r wd ag td om : Nat} {ir : Int32} {sl ss : Nat → Nat} (hM : mn_at g mo (.inr (11, [.int 0, .ref (mo + 1), .int (nI tl), .ref (mo + 2), .ref (mo + 3), .int (nI e), .int (nI sz), .int (nI rp), .int (nI st), .ref (mo + 4), .ref (mo + 5), .ref (mo + 6), .int ir, .int (nI m), .int (nI r), .int (nI wd), .int (nI ag), .ref (mo + 7), .ref (mo + 8), .ref (mo + 9), .ref (mo + 10), .int (nI td), .int (nI om), .ref (mo + 11), .ref (mo + 12), .ref (mo + 13), .ref (mo + 14), .ref (mo + 15), .ref (mo + 16)]))) (hSo : mn_at g (mo + 4) (.inl (0, 4800, .inl (fun j => nI (sl j))))) (hSs : mn_at g (mo + 5) (.inl (0, 60, .inl (fun j => nI (ss j))))) (hss : ∀ k, ss k ≤ 80) (hs20 : ∀ k, ss k = 0 ∨ 20 ≤ ss k) (hslb : ∀ j, sl j < 256) {k : Nat} (hk : k < 60) : mn_R E MMo_slot 3 68 0 0 0 [(0, .ref mo), (1, .int (nI k)), (2, .int 0)] [] g (fun x g' => x = some (.int (nI (stN (sbS sl k) (ss k)))) ∧ mn_fr (fun q => q = mo) g g' ∧ mn_at g' mo (.inr (11, [.int 0, .ref (mo + 1), .int (nI tl), .ref (mo + 2), .ref (mo + 3), .int (nI e), .int (nI sz), .int (nI rp), .int (nI st), .ref (mo + 4), .ref (mo + 5), .ref (mo + 6), .int ir, .int (nI m), .int (nI r), .int (nI wd), .int (nI ag), .ref (mo + 7), .ref (mo + 8), .ref (mo + 9), .ref (mo + 10), .int (nI td), .int (nI om), .ref (mo + 11), .ref (mo + 12), .ref (mo + 13), .ref (mo + 14), .ref (mo + 15), .ref (mo + 16)]))) := by
  have hssk := hss k
  have hstl := stN_lt (sbS sl k) (ss k)
  refine mn_aload_n 0 dMo_slot_0 rfl rfl ?_
  refine mn_iconst (v := 0) dMo_slot_1 (by decide) ?_
  refine mn_putf okMo 0 lMo_1 (by decide) rfl hM rfl rfl (Nat.le_of_ble_eq_true rfl) dMo_slot_2 ?_
  obtain ⟨g1, eg1⟩ : ∃ gg_, gg_ = mn_set g mo (.inr (11, [.int 0, .ref (mo + 1), .int (nI tl), .ref (mo + 2), .ref (mo + 3), .int (nI e), .int (nI sz), .int (nI rp), .int (nI st), .ref (mo + 4), .ref (mo + 5), .ref (mo + 6), .int ir, .int (nI m), .int (nI r), .int (nI wd), .int (nI ag), .ref (mo + 7), .ref (mo + 8), .ref (mo + 9), .ref (mo + 10), .int (nI td), .int (nI om), .ref (mo + 11), .ref (mo + 12), .ref (mo + 13), .ref (mo + 14), .ref (mo + 15), .ref (mo + 16)])) := ⟨_, rfl⟩
  refine mn_R.toG eg1 ?_
  have hM_g1 : mn_at g1 mo (.inr (11, [.int 0, .ref (mo + 1), .int (nI tl), .ref (mo + 2), .ref (mo + 3), .int (nI e), .int (nI sz), .int (nI rp), .int (nI st), .ref (mo + 4), .ref (mo + 5), .ref (mo + 6), .int ir, .int (nI m), .int (nI r), .int (nI wd), .int (nI ag), .ref (mo + 7), .ref (mo + 8), .ref (mo + 9), .ref (mo + 10), .int (nI td), .int (nI om), .ref (mo + 11), .ref (mo + 12), .ref (mo + 13), .ref (mo + 14), .ref (mo + 15), .ref (mo + 16)])) := by rw [eg1]; exact hM.same
  have hSo_g1 : mn_at g1 (mo + 4) (.inl (0, 4800, .inl (fun j => nI (sl j)))) := by rw [eg1]; exact hSo.off (by omega)
  have hSs_g1 : mn_at g1 (mo + 5) (.inl (0, 60, .inl (fun j => nI (ss j)))) := by rw [eg1]; exact hSs.off (by omega)
  refine mn_aload_n 0 dMo_slot_5 rfl rfl ?_
  refine mn_iload_n 1 dMo_slot_6 rfl rfl ?_
  refine mn_cV (d' := 1) (w' := 22) (As := [.int (nI k)]) (stk' := [.int 0]) okMo_noSlot lMo_130 dMo_slot_7 hM_g1 rfl rfl rfl rfl (Nat.le_of_ble_eq_true rfl) (Nat.le_of_ble_eq_true rfl) (by decide) (c_M_noSlot_n hM_g1 (k := k) (by omega)) rfl ?_
  refine mn_if_ne 22 dMo_slot_10 (by decide) (fun c2 => ?_) (fun c2 => ?_)
  · exact absurd c2 (by decide)
  · refine mn_iload_n 2 dMo_slot_13 rfl rfl ?_
    refine mn_iconst (v := 0) dMo_slot_14 (by decide) ?_
    refine mn_iconst (v := 5) dMo_slot_15 (by decide) ?_
    refine mn_cS (d' := 0) (w' := 0) (As := [.int 0, .int 0, .int 5]) (stk' := [.int 1]) okMo_in lMo_68 dMo_slot_16 rfl rfl (Nat.le_of_ble_eq_true rfl) (Nat.le_of_ble_eq_true rfl) (by decide) (c_M_in_y (by decide) (by decide)) rfl ?_
    refine mn_if_ne 24 dMo_slot_19 (by decide) (fun c3 => ?_) (fun c3 => ?_)
    · refine mn_aload_n 0 dMo_slot_24 rfl rfl ?_
      refine mn_iload_n 1 dMo_slot_25 rfl rfl ?_
      refine mn_cV (d' := 2) (w' := 45) (As := [.int (nI k)]) (stk' := [.int (nI (stN (sbS sl k) (ss k)))]) okMo_state lMo_137 dMo_slot_26 hM_g1 rfl rfl rfl rfl (Nat.le_of_ble_eq_true rfl) (Nat.le_of_ble_eq_true rfl) (by decide) (c_M_state hM_g1 hSo_g1 hSs_g1 hss hs20 hslb (s := k) (by omega)) rfl ?_
      refine mn_istore_n (ls' := [(0, .ref mo), (1, .int (nI k)), (2, .int 0), (3, .int (nI (stN (sbS sl k) (ss k))))]) dMo_slot_29 rfl (by decide) rfl ?_
      refine mn_iload_n 2 dMo_slot_30 rfl rfl ?_
      refine mn_if_ne 36 dMo_slot_31 (by decide) (fun c4 => ?_) (fun c4 => ?_)
      · exact absurd c4 (by decide)
      · refine mn_iload_n 3 dMo_slot_34 rfl rfl ?_
        exact mn_iret rfl dMo_slot_35 ⟨rfl, (mn_fr.rf.set eg1 (by show mo = mo; omega)), hM_g1⟩
    · exact absurd c3 (by decide)
set_option maxRecDepth 100000 in
theorem c_M_slot5e {E : mn_En} {g : mn_H} {mo tl e sz rp st m r wd ag td om : Nat} {ir : Int32} {sl ss : Nat → Nat} (hM : mn_at g mo (.inr (11, [.int 0, .ref (mo + 1), .int (nI tl), .ref (mo + 2), .ref (mo + 3), .int (nI e), .int (nI sz), .int (nI rp), .int (nI st), .ref (mo + 4), .ref (mo + 5), .ref (mo + 6), .int ir, .int (nI m), .int (nI r), .int (nI wd), .int (nI ag), .ref (mo + 7), .ref (mo + 8), .ref (mo + 9), .ref (mo + 10), .int (nI td), .int (nI om), .ref (mo + 11), .ref (mo + 12), .ref (mo + 13), .ref (mo + 14), .ref (mo + 15), .ref (mo + 16)]))) (hSo : mn_at g (mo + 4) (.inl (0, 4800, .inl (fun j => nI (sl j))))) (hSs : mn_at g (mo + 5) (.inl (0, 60, .inl (fun j => nI (ss j))))) (hss : ∀ k, ss k ≤ 80) (hs20 : ∀ k, ss k = 0 ∨ 20 ≤ ss k) (hslb : ∀ j, sl j < 256) {k : Nat} (hk : k < 60) (h0 : ss k = 0) : mn_R E MMo_slot 3 68 0 0 0 [(0, .ref mo), (1, .int (nI k)), (2, .int 5)] [] g (fun x g' => x = some (.int (-2)) ∧ mn_fr (fun q => q = mo) g g' ∧ mn_at g' mo (.inr (11, [.int 0, .ref (mo + 1), .int (nI tl), .ref (mo + 2), .ref (mo + 3), .int (nI e), .int (nI sz), .int (nI rp), .int (nI st), .ref (mo + 4), .ref (mo + 5), .ref (mo + 6), .int ir, .int (nI m), .int (nI r), .int (nI wd), .int (nI ag), .ref (mo + 7), .ref (mo + 8), .ref (mo + 9), .ref (mo + 10), .int (nI td), .int (nI om), .ref (mo + 11), .ref (mo + 12), .ref (mo + 13), .ref (mo + 14), .ref (mo + 15), .ref (mo + 16)]))) := by
  have hssk := hss k
  have hstl := stN_lt (sbS sl k) (ss k)
  refine mn_aload_n 0 dMo_slot_0 rfl rfl ?_
  refine mn_iconst (v := 0) dMo_slot_1 (by decide) ?_
  refine mn_putf okMo 0 lMo_1 (by decide) rfl hM rfl rfl (Nat.le_of_ble_eq_true rfl) dMo_slot_2 ?_
  obtain ⟨g1, eg1⟩ : ∃ gg_, gg_ = mn_set g mo (.inr (11, [.int 0, .ref (mo + 1), .int (nI tl), .ref (mo + 2), .ref (mo + 3), .int (nI e), .int (nI sz), .int (nI rp), .int (nI st), .ref (mo + 4), .ref (mo + 5), .ref (mo + 6), .int ir, .int (nI m), .int (nI r), .int (nI wd), .int (nI ag), .ref (mo + 7), .ref (mo + 8), .ref (mo + 9), .ref (mo + 10), .int (nI td), .int (nI om), .ref (mo + 11), .ref (mo + 12), .ref (mo + 13), .ref (mo + 14), .ref (mo + 15), .ref (mo + 16)])) := ⟨_, rfl⟩
  refine mn_R.toG eg1 ?_
  have hM_g1 : mn_at g1 mo (.inr (11, [.int 0, .ref (mo + 1), .int (nI tl), .ref (mo + 2), .ref (mo + 3), .int (nI e), .int (nI sz), .int (nI rp), .int (nI st), .ref (mo + 4), .ref (mo + 5), .ref (mo + 6), .int ir, .int (nI m), .int (nI r), .int (nI wd), .int (nI ag), .ref (mo + 7), .ref (mo + 8), .ref (mo + 9), .ref (mo + 10), .int (nI td), .int (nI om), .ref (mo + 11), .ref (mo + 12), .ref (mo + 13), .ref (mo + 14), .ref (mo + 15), .ref (mo + 16)])) := by rw [eg1]; exact hM.same
  have hSo_g1 : mn_at g1 (mo + 4) (.inl (0, 4800, .inl (fun j => nI (sl j)))) := by rw [eg1]; exact hSo.off (by omega)
  have hSs_g1 : mn_at g1 (mo + 5) (.inl (0, 60, .inl (fun j => nI (ss j)))) := by rw [eg1]; exact hSs.off (by omega)
  refine mn_aload_n 0 dMo_slot_5 rfl rfl ?_
  refine mn_iload_n 1 dMo_slot_6 rfl rfl ?_
  refine mn_cV (d' := 1) (w' := 22) (As := [.int (nI k)]) (stk' := [.int 0]) okMo_noSlot lMo_130 dMo_slot_7 hM_g1 rfl rfl rfl rfl (Nat.le_of_ble_eq_true rfl) (Nat.le_of_ble_eq_true rfl) (by decide) (c_M_noSlot_n hM_g1 (k := k) (by omega)) rfl ?_
  refine mn_if_ne 22 dMo_slot_10 (by decide) (fun c2 => ?_) (fun c2 => ?_)
  · exact absurd c2 (by decide)
  · refine mn_iload_n 2 dMo_slot_13 rfl rfl ?_
    refine mn_iconst (v := 0) dMo_slot_14 (by decide) ?_
    refine mn_iconst (v := 5) dMo_slot_15 (by decide) ?_
    refine mn_cS (d' := 0) (w' := 0) (As := [.int 5, .int 0, .int 5]) (stk' := [.int 1]) okMo_in lMo_68 dMo_slot_16 rfl rfl (Nat.le_of_ble_eq_true rfl) (Nat.le_of_ble_eq_true rfl) (by decide) (c_M_in_y (by decide) (by decide)) rfl ?_
    refine mn_if_ne 24 dMo_slot_19 (by decide) (fun c3 => ?_) (fun c3 => ?_)
    · refine mn_aload_n 0 dMo_slot_24 rfl rfl ?_
      refine mn_iload_n 1 dMo_slot_25 rfl rfl ?_
      refine mn_cV (d' := 2) (w' := 45) (As := [.int (nI k)]) (stk' := [.int (nI (stN (sbS sl k) (ss k)))]) okMo_state lMo_137 dMo_slot_26 hM_g1 rfl rfl rfl rfl (Nat.le_of_ble_eq_true rfl) (Nat.le_of_ble_eq_true rfl) (by decide) (c_M_state hM_g1 hSo_g1 hSs_g1 hss hs20 hslb (s := k) (by omega)) rfl ?_
      refine mn_istore_n (ls' := [(0, .ref mo), (1, .int (nI k)), (2, .int 5), (3, .int (nI (stN (sbS sl k) (ss k))))]) dMo_slot_29 rfl (by decide) rfl ?_
      refine mn_iload_n 2 dMo_slot_30 rfl rfl ?_
      refine mn_if_ne 36 dMo_slot_31 (by decide) (fun c4 => ?_) (fun c4 => ?_)
      · refine mn_iload_n 2 dMo_slot_36 rfl rfl ?_
        refine mn_iconst (v := 5) dMo_slot_37 (by decide) ?_
        refine mn_icmp_ne 57 dMo_slot_38 (by decide) (fun c5 => ?_) (fun c5 => ?_)
        · exact absurd c5 (by decide)
        · refine mn_iload_n 3 dMo_slot_41 rfl rfl ?_
          refine mn_if_ne 50 dMo_slot_42 (by decide) (fun c6 => ?_) (fun c6 => ?_)
          · have c6 := mt (nI_eq (a := (stN (sbS sl k) (ss k))) (b := 0) (by omega) (by omega)).mpr c6
            refine mn_aload_n 0 dMo_slot_50 rfl rfl ?_
            refine mn_get okMo 10 lMo_29 (by decide) hM_g1 rfl dMo_slot_51 ?_
            refine mn_iload_n 1 dMo_slot_54 rfl rfl ?_
            refine mn_ialdN (j := k) hSs_g1 rfl (by omega) (by omega) dMo_slot_55 ?_
            exact mn_iret rfl dMo_slot_56 (absurd (stN_0.mpr h0) c6)
          · have c6 := (nI_eq (a := (stN (sbS sl k) (ss k))) (b := 0) (by omega) (by omega)).mp c6
            refine mn_bipush (v := (-2)) dMo_slot_45 (by decide) ?_
            refine mn_goto 56 dMo_slot_47 (by decide) ?_
            exact mn_iret rfl dMo_slot_56 ⟨rfl, (mn_fr.rf.set eg1 (by show mo = mo; omega)), hM_g1⟩
      · exact absurd c4 (by decide)
    · exact absurd c3 (by decide)
set_option maxRecDepth 100000 in
theorem c_M_slot5 {E : mn_En} {g : mn_H} {mo tl e sz rp st m r wd ag td om : Nat} {ir : Int32} {sl ss : Nat → Nat} (hM : mn_at g mo (.inr (11, [.int 0, .ref (mo + 1), .int (nI tl), .ref (mo + 2), .ref (mo + 3), .int (nI e), .int (nI sz), .int (nI rp), .int (nI st), .ref (mo + 4), .ref (mo + 5), .ref (mo + 6), .int ir, .int (nI m), .int (nI r), .int (nI wd), .int (nI ag), .ref (mo + 7), .ref (mo + 8), .ref (mo + 9), .ref (mo + 10), .int (nI td), .int (nI om), .ref (mo + 11), .ref (mo + 12), .ref (mo + 13), .ref (mo + 14), .ref (mo + 15), .ref (mo + 16)]))) (hSo : mn_at g (mo + 4) (.inl (0, 4800, .inl (fun j => nI (sl j))))) (hSs : mn_at g (mo + 5) (.inl (0, 60, .inl (fun j => nI (ss j))))) (hss : ∀ k, ss k ≤ 80) (hs20 : ∀ k, ss k = 0 ∨ 20 ≤ ss k) (hslb : ∀ j, sl j < 256) {k : Nat} (hk : k < 60) (h0 : ¬ ss k = 0) : mn_R E MMo_slot 3 68 0 0 0 [(0, .ref mo), (1, .int (nI k)), (2, .int 5)] [] g (fun x g' => x = some (.int (nI (ss k))) ∧ mn_fr (fun q => q = mo) g g' ∧ mn_at g' mo (.inr (11, [.int 0, .ref (mo + 1), .int (nI tl), .ref (mo + 2), .ref (mo + 3), .int (nI e), .int (nI sz), .int (nI rp), .int (nI st), .ref (mo + 4), .ref (mo + 5), .ref (mo + 6), .int ir, .int (nI m), .int (nI r), .int (nI wd), .int (nI ag), .ref (mo + 7), .ref (mo + 8), .ref (mo + 9), .ref (mo + 10), .int (nI td), .int (nI om), .ref (mo + 11), .ref (mo + 12), .ref (mo + 13), .ref (mo + 14), .ref (mo + 15), .ref (mo + 16)]))) := by
  have hssk := hss k
  have hstl := stN_lt (sbS sl k) (ss k)
  refine mn_aload_n 0 dMo_slot_0 rfl rfl ?_
  refine mn_iconst (v := 0) dMo_slot_1 (by decide) ?_
  refine mn_putf okMo 0 lMo_1 (by decide) rfl hM rfl rfl (Nat.le_of_ble_eq_true rfl) dMo_slot_2 ?_
  obtain ⟨g1, eg1⟩ : ∃ gg_, gg_ = mn_set g mo (.inr (11, [.int 0, .ref (mo + 1), .int (nI tl), .ref (mo + 2), .ref (mo + 3), .int (nI e), .int (nI sz), .int (nI rp), .int (nI st), .ref (mo + 4), .ref (mo + 5), .ref (mo + 6), .int ir, .int (nI m), .int (nI r), .int (nI wd), .int (nI ag), .ref (mo + 7), .ref (mo + 8), .ref (mo + 9), .ref (mo + 10), .int (nI td), .int (nI om), .ref (mo + 11), .ref (mo + 12), .ref (mo + 13), .ref (mo + 14), .ref (mo + 15), .ref (mo + 16)])) := ⟨_, rfl⟩
  refine mn_R.toG eg1 ?_
  have hM_g1 : mn_at g1 mo (.inr (11, [.int 0, .ref (mo + 1), .int (nI tl), .ref (mo + 2), .ref (mo + 3), .int (nI e), .int (nI sz), .int (nI rp), .int (nI st), .ref (mo + 4), .ref (mo + 5), .ref (mo + 6), .int ir, .int (nI m), .int (nI r), .int (nI wd), .int (nI ag), .ref (mo + 7), .ref (mo + 8), .ref (mo + 9), .ref (mo + 10), .int (nI td), .int (nI om), .ref (mo + 11), .ref (mo + 12), .ref (mo + 13), .ref (mo + 14), .ref (mo + 15), .ref (mo + 16)])) := by rw [eg1]; exact hM.same
  have hSo_g1 : mn_at g1 (mo + 4) (.inl (0, 4800, .inl (fun j => nI (sl j)))) := by rw [eg1]; exact hSo.off (by omega)
  have hSs_g1 : mn_at g1 (mo + 5) (.inl (0, 60, .inl (fun j => nI (ss j)))) := by rw [eg1]; exact hSs.off (by omega)
  refine mn_aload_n 0 dMo_slot_5 rfl rfl ?_
  refine mn_iload_n 1 dMo_slot_6 rfl rfl ?_
  refine mn_cV (d' := 1) (w' := 22) (As := [.int (nI k)]) (stk' := [.int 0]) okMo_noSlot lMo_130 dMo_slot_7 hM_g1 rfl rfl rfl rfl (Nat.le_of_ble_eq_true rfl) (Nat.le_of_ble_eq_true rfl) (by decide) (c_M_noSlot_n hM_g1 (k := k) (by omega)) rfl ?_
  refine mn_if_ne 22 dMo_slot_10 (by decide) (fun c2 => ?_) (fun c2 => ?_)
  · exact absurd c2 (by decide)
  · refine mn_iload_n 2 dMo_slot_13 rfl rfl ?_
    refine mn_iconst (v := 0) dMo_slot_14 (by decide) ?_
    refine mn_iconst (v := 5) dMo_slot_15 (by decide) ?_
    refine mn_cS (d' := 0) (w' := 0) (As := [.int 5, .int 0, .int 5]) (stk' := [.int 1]) okMo_in lMo_68 dMo_slot_16 rfl rfl (Nat.le_of_ble_eq_true rfl) (Nat.le_of_ble_eq_true rfl) (by decide) (c_M_in_y (by decide) (by decide)) rfl ?_
    refine mn_if_ne 24 dMo_slot_19 (by decide) (fun c3 => ?_) (fun c3 => ?_)
    · refine mn_aload_n 0 dMo_slot_24 rfl rfl ?_
      refine mn_iload_n 1 dMo_slot_25 rfl rfl ?_
      refine mn_cV (d' := 2) (w' := 45) (As := [.int (nI k)]) (stk' := [.int (nI (stN (sbS sl k) (ss k)))]) okMo_state lMo_137 dMo_slot_26 hM_g1 rfl rfl rfl rfl (Nat.le_of_ble_eq_true rfl) (Nat.le_of_ble_eq_true rfl) (by decide) (c_M_state hM_g1 hSo_g1 hSs_g1 hss hs20 hslb (s := k) (by omega)) rfl ?_
      refine mn_istore_n (ls' := [(0, .ref mo), (1, .int (nI k)), (2, .int 5), (3, .int (nI (stN (sbS sl k) (ss k))))]) dMo_slot_29 rfl (by decide) rfl ?_
      refine mn_iload_n 2 dMo_slot_30 rfl rfl ?_
      refine mn_if_ne 36 dMo_slot_31 (by decide) (fun c4 => ?_) (fun c4 => ?_)
      · refine mn_iload_n 2 dMo_slot_36 rfl rfl ?_
        refine mn_iconst (v := 5) dMo_slot_37 (by decide) ?_
        refine mn_icmp_ne 57 dMo_slot_38 (by decide) (fun c5 => ?_) (fun c5 => ?_)
        · exact absurd c5 (by decide)
        · refine mn_iload_n 3 dMo_slot_41 rfl rfl ?_
          refine mn_if_ne 50 dMo_slot_42 (by decide) (fun c6 => ?_) (fun c6 => ?_)
          · have c6 := mt (nI_eq (a := (stN (sbS sl k) (ss k))) (b := 0) (by omega) (by omega)).mpr c6
            refine mn_aload_n 0 dMo_slot_50 rfl rfl ?_
            refine mn_get okMo 10 lMo_29 (by decide) hM_g1 rfl dMo_slot_51 ?_
            refine mn_iload_n 1 dMo_slot_54 rfl rfl ?_
            refine mn_ialdN (j := k) hSs_g1 rfl (by omega) (by omega) dMo_slot_55 ?_
            exact mn_iret rfl dMo_slot_56 ⟨rfl, (mn_fr.rf.set eg1 (by show mo = mo; omega)), hM_g1⟩
          · have c6 := (nI_eq (a := (stN (sbS sl k) (ss k))) (b := 0) (by omega) (by omega)).mp c6
            refine mn_bipush (v := (-2)) dMo_slot_45 (by decide) ?_
            refine mn_goto 56 dMo_slot_47 (by decide) ?_
            exact mn_iret rfl dMo_slot_56 (absurd (stN_0.mp c6) h0)
      · exact absurd c4 (by decide)
    · exact absurd c3 (by decide)
set_option maxRecDepth 100000 in
theorem c_M_slot1y {E : mn_En} {g : mn_H} {mo tl e sz rp st m r wd ag td om : Nat} {ir : Int32} {sl ss : Nat → Nat} (hM : mn_at g mo (.inr (11, [.int 0, .ref (mo + 1), .int (nI tl), .ref (mo + 2), .ref (mo + 3), .int (nI e), .int (nI sz), .int (nI rp), .int (nI st), .ref (mo + 4), .ref (mo + 5), .ref (mo + 6), .int ir, .int (nI m), .int (nI r), .int (nI wd), .int (nI ag), .ref (mo + 7), .ref (mo + 8), .ref (mo + 9), .ref (mo + 10), .int (nI td), .int (nI om), .ref (mo + 11), .ref (mo + 12), .ref (mo + 13), .ref (mo + 14), .ref (mo + 15), .ref (mo + 16)]))) (hSo : mn_at g (mo + 4) (.inl (0, 4800, .inl (fun j => nI (sl j))))) (hSs : mn_at g (mo + 5) (.inl (0, 60, .inl (fun j => nI (ss j))))) (hss : ∀ k, ss k ≤ 80) (hs20 : ∀ k, ss k = 0 ∨ 20 ≤ ss k) (hslb : ∀ j, sl j < 256) {k : Nat} (hk : k < 60) (hh0 : hdN (sbS sl k) (ss k)) : mn_R E MMo_slot 3 68 0 0 0 [(0, .ref mo), (1, .int (nI k)), (2, .int 1)] [] g (fun x g' => x = some (.int (nI (sbS sl k 2))) ∧ mn_fr (fun q => q = mo) g g' ∧ mn_at g' mo (.inr (11, [.int 0, .ref (mo + 1), .int (nI tl), .ref (mo + 2), .ref (mo + 3), .int (nI e), .int (nI sz), .int (nI rp), .int (nI st), .ref (mo + 4), .ref (mo + 5), .ref (mo + 6), .int ir, .int (nI m), .int (nI r), .int (nI wd), .int (nI ag), .ref (mo + 7), .ref (mo + 8), .ref (mo + 9), .ref (mo + 10), .int (nI td), .int (nI om), .ref (mo + 11), .ref (mo + 12), .ref (mo + 13), .ref (mo + 14), .ref (mo + 15), .ref (mo + 16)]))) := by
  have hssk := hss k
  have hstl := stN_lt (sbS sl k) (ss k)
  have hy := stN_y hh0
  refine mn_aload_n 0 dMo_slot_0 rfl rfl ?_
  refine mn_iconst (v := 0) dMo_slot_1 (by decide) ?_
  refine mn_putf okMo 0 lMo_1 (by decide) rfl hM rfl rfl (Nat.le_of_ble_eq_true rfl) dMo_slot_2 ?_
  obtain ⟨g1, eg1⟩ : ∃ gg_, gg_ = mn_set g mo (.inr (11, [.int 0, .ref (mo + 1), .int (nI tl), .ref (mo + 2), .ref (mo + 3), .int (nI e), .int (nI sz), .int (nI rp), .int (nI st), .ref (mo + 4), .ref (mo + 5), .ref (mo + 6), .int ir, .int (nI m), .int (nI r), .int (nI wd), .int (nI ag), .ref (mo + 7), .ref (mo + 8), .ref (mo + 9), .ref (mo + 10), .int (nI td), .int (nI om), .ref (mo + 11), .ref (mo + 12), .ref (mo + 13), .ref (mo + 14), .ref (mo + 15), .ref (mo + 16)])) := ⟨_, rfl⟩
  refine mn_R.toG eg1 ?_
  have hM_g1 : mn_at g1 mo (.inr (11, [.int 0, .ref (mo + 1), .int (nI tl), .ref (mo + 2), .ref (mo + 3), .int (nI e), .int (nI sz), .int (nI rp), .int (nI st), .ref (mo + 4), .ref (mo + 5), .ref (mo + 6), .int ir, .int (nI m), .int (nI r), .int (nI wd), .int (nI ag), .ref (mo + 7), .ref (mo + 8), .ref (mo + 9), .ref (mo + 10), .int (nI td), .int (nI om), .ref (mo + 11), .ref (mo + 12), .ref (mo + 13), .ref (mo + 14), .ref (mo + 15), .ref (mo + 16)])) := by rw [eg1]; exact hM.same
  have hSo_g1 : mn_at g1 (mo + 4) (.inl (0, 4800, .inl (fun j => nI (sl j)))) := by rw [eg1]; exact hSo.off (by omega)
  have hSs_g1 : mn_at g1 (mo + 5) (.inl (0, 60, .inl (fun j => nI (ss j)))) := by rw [eg1]; exact hSs.off (by omega)
  refine mn_aload_n 0 dMo_slot_5 rfl rfl ?_
  refine mn_iload_n 1 dMo_slot_6 rfl rfl ?_
  refine mn_cV (d' := 1) (w' := 22) (As := [.int (nI k)]) (stk' := [.int 0]) okMo_noSlot lMo_130 dMo_slot_7 hM_g1 rfl rfl rfl rfl (Nat.le_of_ble_eq_true rfl) (Nat.le_of_ble_eq_true rfl) (by decide) (c_M_noSlot_n hM_g1 (k := k) (by omega)) rfl ?_
  refine mn_if_ne 22 dMo_slot_10 (by decide) (fun c2 => ?_) (fun c2 => ?_)
  · exact absurd c2 (by decide)
  · refine mn_iload_n 2 dMo_slot_13 rfl rfl ?_
    refine mn_iconst (v := 0) dMo_slot_14 (by decide) ?_
    refine mn_iconst (v := 5) dMo_slot_15 (by decide) ?_
    refine mn_cS (d' := 0) (w' := 0) (As := [.int 1, .int 0, .int 5]) (stk' := [.int 1]) okMo_in lMo_68 dMo_slot_16 rfl rfl (Nat.le_of_ble_eq_true rfl) (Nat.le_of_ble_eq_true rfl) (by decide) (c_M_in_y (by decide) (by decide)) rfl ?_
    refine mn_if_ne 24 dMo_slot_19 (by decide) (fun c3 => ?_) (fun c3 => ?_)
    · refine mn_aload_n 0 dMo_slot_24 rfl rfl ?_
      refine mn_iload_n 1 dMo_slot_25 rfl rfl ?_
      refine mn_cV (d' := 2) (w' := 45) (As := [.int (nI k)]) (stk' := [.int (nI (stN (sbS sl k) (ss k)))]) okMo_state lMo_137 dMo_slot_26 hM_g1 rfl rfl rfl rfl (Nat.le_of_ble_eq_true rfl) (Nat.le_of_ble_eq_true rfl) (by decide) (c_M_state hM_g1 hSo_g1 hSs_g1 hss hs20 hslb (s := k) (by omega)) rfl ?_
      refine mn_istore_n (ls' := [(0, .ref mo), (1, .int (nI k)), (2, .int 1), (3, .int (nI (stN (sbS sl k) (ss k))))]) dMo_slot_29 rfl (by decide) rfl ?_
      refine mn_iload_n 2 dMo_slot_30 rfl rfl ?_
      refine mn_if_ne 36 dMo_slot_31 (by decide) (fun c4 => ?_) (fun c4 => ?_)
      · refine mn_iload_n 2 dMo_slot_36 rfl rfl ?_
        refine mn_iconst (v := 5) dMo_slot_37 (by decide) ?_
        refine mn_icmp_ne 57 dMo_slot_38 (by decide) (fun c5 => ?_) (fun c5 => ?_)
        · refine mn_iload_n 3 dMo_slot_57 rfl rfl ?_
          refine mn_iconst (v := 1) dMo_slot_58 (by decide) ?_
          refine mn_iconst (v := 2) dMo_slot_59 (by decide) ?_
          refine mn_cS (d' := 0) (w' := 0) (As := [.int (nI (stN (sbS sl k) (ss k))), .int 1, .int 2]) (stk' := [.int 1]) okMo_in lMo_68 dMo_slot_60 rfl rfl (Nat.le_of_ble_eq_true rfl) (Nat.le_of_ble_eq_true rfl) (by decide) (c_M_in_y (ml_lt (a := 1) (b := stN (sbS sl k) (ss k)) (by omega) (by omega) hy.1) (ml_lt (a := stN (sbS sl k) (ss k)) (b := 2) (by omega) (by omega) hy.2)) rfl ?_
          refine mn_if_eq 82 dMo_slot_63 (by decide) (fun c6 => ?_) (fun c6 => ?_)
          · exact absurd c6 (by decide)
          · refine mn_aload_n 0 dMo_slot_66 rfl rfl ?_
            refine mn_get okMo 9 lMo_26 (by decide) hM_g1 rfl dMo_slot_67 ?_
            refine mn_bipush (v := 80) dMo_slot_70 (by decide) ?_
            refine mn_iload_n 1 dMo_slot_72 rfl rfl ?_
            refine mn_imul (z := nI (80 * k)) dMo_slot_73 (pk_mul 80 k) ?_
            refine mn_iconst (v := 1) dMo_slot_74 (by decide) ?_
            refine mn_iadd (z := nI (80 * k + 1)) dMo_slot_75 (nI_add (80 * k) 1) ?_
            refine mn_iload_n 2 dMo_slot_76 rfl rfl ?_
            refine mn_iadd (z := nI (80 * k + 1 + 1)) dMo_slot_77 (nI_add (80 * k + 1) 1) ?_
            refine mn_ialdN (j := 80 * k + 1 + 1) hSo_g1 rfl (by omega) (by omega) dMo_slot_78 ?_
            refine mn_goto 84 dMo_slot_79 (by decide) ?_
            exact mn_iret rfl dMo_slot_84 ⟨rfl, (mn_fr.rf.set eg1 (by show mo = mo; omega)), hM_g1⟩
        · exact absurd c5 (by decide)
      · exact absurd c4 (by decide)
    · exact absurd c3 (by decide)
set_option maxRecDepth 100000 in
theorem c_M_slot1n {E : mn_En} {g : mn_H} {mo tl e sz rp st m r wd ag td om : Nat} {ir : Int32} {sl ss : Nat → Nat} (hM : mn_at g mo (.inr (11, [.int 0, .ref (mo + 1), .int (nI tl), .ref (mo + 2), .ref (mo + 3), .int (nI e), .int (nI sz), .int (nI rp), .int (nI st), .ref (mo + 4), .ref (mo + 5), .ref (mo + 6), .int ir, .int (nI m), .int (nI r), .int (nI wd), .int (nI ag), .ref (mo + 7), .ref (mo + 8), .ref (mo + 9), .ref (mo + 10), .int (nI td), .int (nI om), .ref (mo + 11), .ref (mo + 12), .ref (mo + 13), .ref (mo + 14), .ref (mo + 15), .ref (mo + 16)]))) (hSo : mn_at g (mo + 4) (.inl (0, 4800, .inl (fun j => nI (sl j))))) (hSs : mn_at g (mo + 5) (.inl (0, 60, .inl (fun j => nI (ss j))))) (hss : ∀ k, ss k ≤ 80) (hs20 : ∀ k, ss k = 0 ∨ 20 ≤ ss k) (hslb : ∀ j, sl j < 256) {k : Nat} (hk : k < 60) (hh0 : ¬ hdN (sbS sl k) (ss k)) : mn_R E MMo_slot 3 68 0 0 0 [(0, .ref mo), (1, .int (nI k)), (2, .int 1)] [] g (fun x g' => x = some (.int (-2)) ∧ mn_fr (fun q => q = mo) g g' ∧ mn_at g' mo (.inr (11, [.int 0, .ref (mo + 1), .int (nI tl), .ref (mo + 2), .ref (mo + 3), .int (nI e), .int (nI sz), .int (nI rp), .int (nI st), .ref (mo + 4), .ref (mo + 5), .ref (mo + 6), .int ir, .int (nI m), .int (nI r), .int (nI wd), .int (nI ag), .ref (mo + 7), .ref (mo + 8), .ref (mo + 9), .ref (mo + 10), .int (nI td), .int (nI om), .ref (mo + 11), .ref (mo + 12), .ref (mo + 13), .ref (mo + 14), .ref (mo + 15), .ref (mo + 16)]))) := by
  have hssk := hss k
  have hstl := stN_lt (sbS sl k) (ss k)
  have hy := stN_n hh0
  refine mn_aload_n 0 dMo_slot_0 rfl rfl ?_
  refine mn_iconst (v := 0) dMo_slot_1 (by decide) ?_
  refine mn_putf okMo 0 lMo_1 (by decide) rfl hM rfl rfl (Nat.le_of_ble_eq_true rfl) dMo_slot_2 ?_
  obtain ⟨g1, eg1⟩ : ∃ gg_, gg_ = mn_set g mo (.inr (11, [.int 0, .ref (mo + 1), .int (nI tl), .ref (mo + 2), .ref (mo + 3), .int (nI e), .int (nI sz), .int (nI rp), .int (nI st), .ref (mo + 4), .ref (mo + 5), .ref (mo + 6), .int ir, .int (nI m), .int (nI r), .int (nI wd), .int (nI ag), .ref (mo + 7), .ref (mo + 8), .ref (mo + 9), .ref (mo + 10), .int (nI td), .int (nI om), .ref (mo + 11), .ref (mo + 12), .ref (mo + 13), .ref (mo + 14), .ref (mo + 15), .ref (mo + 16)])) := ⟨_, rfl⟩
  refine mn_R.toG eg1 ?_
  have hM_g1 : mn_at g1 mo (.inr (11, [.int 0, .ref (mo + 1), .int (nI tl), .ref (mo + 2), .ref (mo + 3), .int (nI e), .int (nI sz), .int (nI rp), .int (nI st), .ref (mo + 4), .ref (mo + 5), .ref (mo + 6), .int ir, .int (nI m), .int (nI r), .int (nI wd), .int (nI ag), .ref (mo + 7), .ref (mo + 8), .ref (mo + 9), .ref (mo + 10), .int (nI td), .int (nI om), .ref (mo + 11), .ref (mo + 12), .ref (mo + 13), .ref (mo + 14), .ref (mo + 15), .ref (mo + 16)])) := by rw [eg1]; exact hM.same
  have hSo_g1 : mn_at g1 (mo + 4) (.inl (0, 4800, .inl (fun j => nI (sl j)))) := by rw [eg1]; exact hSo.off (by omega)
  have hSs_g1 : mn_at g1 (mo + 5) (.inl (0, 60, .inl (fun j => nI (ss j)))) := by rw [eg1]; exact hSs.off (by omega)
  refine mn_aload_n 0 dMo_slot_5 rfl rfl ?_
  refine mn_iload_n 1 dMo_slot_6 rfl rfl ?_
  refine mn_cV (d' := 1) (w' := 22) (As := [.int (nI k)]) (stk' := [.int 0]) okMo_noSlot lMo_130 dMo_slot_7 hM_g1 rfl rfl rfl rfl (Nat.le_of_ble_eq_true rfl) (Nat.le_of_ble_eq_true rfl) (by decide) (c_M_noSlot_n hM_g1 (k := k) (by omega)) rfl ?_
  refine mn_if_ne 22 dMo_slot_10 (by decide) (fun c2 => ?_) (fun c2 => ?_)
  · exact absurd c2 (by decide)
  · refine mn_iload_n 2 dMo_slot_13 rfl rfl ?_
    refine mn_iconst (v := 0) dMo_slot_14 (by decide) ?_
    refine mn_iconst (v := 5) dMo_slot_15 (by decide) ?_
    refine mn_cS (d' := 0) (w' := 0) (As := [.int 1, .int 0, .int 5]) (stk' := [.int 1]) okMo_in lMo_68 dMo_slot_16 rfl rfl (Nat.le_of_ble_eq_true rfl) (Nat.le_of_ble_eq_true rfl) (by decide) (c_M_in_y (by decide) (by decide)) rfl ?_
    refine mn_if_ne 24 dMo_slot_19 (by decide) (fun c3 => ?_) (fun c3 => ?_)
    · refine mn_aload_n 0 dMo_slot_24 rfl rfl ?_
      refine mn_iload_n 1 dMo_slot_25 rfl rfl ?_
      refine mn_cV (d' := 2) (w' := 45) (As := [.int (nI k)]) (stk' := [.int (nI (stN (sbS sl k) (ss k)))]) okMo_state lMo_137 dMo_slot_26 hM_g1 rfl rfl rfl rfl (Nat.le_of_ble_eq_true rfl) (Nat.le_of_ble_eq_true rfl) (by decide) (c_M_state hM_g1 hSo_g1 hSs_g1 hss hs20 hslb (s := k) (by omega)) rfl ?_
      refine mn_istore_n (ls' := [(0, .ref mo), (1, .int (nI k)), (2, .int 1), (3, .int (nI (stN (sbS sl k) (ss k))))]) dMo_slot_29 rfl (by decide) rfl ?_
      refine mn_iload_n 2 dMo_slot_30 rfl rfl ?_
      refine mn_if_ne 36 dMo_slot_31 (by decide) (fun c4 => ?_) (fun c4 => ?_)
      · refine mn_iload_n 2 dMo_slot_36 rfl rfl ?_
        refine mn_iconst (v := 5) dMo_slot_37 (by decide) ?_
        refine mn_icmp_ne 57 dMo_slot_38 (by decide) (fun c5 => ?_) (fun c5 => ?_)
        · refine mn_iload_n 3 dMo_slot_57 rfl rfl ?_
          refine mn_iconst (v := 1) dMo_slot_58 (by decide) ?_
          refine mn_iconst (v := 2) dMo_slot_59 (by decide) ?_
          refine mn_cS (d' := 0) (w' := 0) (As := [.int (nI (stN (sbS sl k) (ss k))), .int 1, .int 2]) (stk' := [.int 0]) okMo_in lMo_68 dMo_slot_60 rfl rfl (Nat.le_of_ble_eq_true rfl) (Nat.le_of_ble_eq_true rfl) (by decide) (c_M_in_n (hy.elim (fun q => Or.inl ((nI_ltI (a := stN (sbS sl k) (ss k)) (b := 1) (by omega) (by omega)).mpr q)) (fun q => Or.inr ((nI_ltI (a := 2) (b := stN (sbS sl k) (ss k)) (by omega) (by omega)).mpr q)))) rfl ?_
          refine mn_if_eq 82 dMo_slot_63 (by decide) (fun c6 => ?_) (fun c6 => ?_)
          · refine mn_bipush (v := (-2)) dMo_slot_82 (by decide) ?_
            exact mn_iret rfl dMo_slot_84 ⟨rfl, (mn_fr.rf.set eg1 (by show mo = mo; omega)), hM_g1⟩
          · exact absurd c6 (by decide)
        · exact absurd c5 (by decide)
      · exact absurd c4 (by decide)
    · exact absurd c3 (by decide)
set_option maxRecDepth 100000 in
theorem c_M_slot2y {E : mn_En} {g : mn_H} {mo tl e sz rp st m r wd ag td om : Nat} {ir : Int32} {sl ss : Nat → Nat} (hM : mn_at g mo (.inr (11, [.int 0, .ref (mo + 1), .int (nI tl), .ref (mo + 2), .ref (mo + 3), .int (nI e), .int (nI sz), .int (nI rp), .int (nI st), .ref (mo + 4), .ref (mo + 5), .ref (mo + 6), .int ir, .int (nI m), .int (nI r), .int (nI wd), .int (nI ag), .ref (mo + 7), .ref (mo + 8), .ref (mo + 9), .ref (mo + 10), .int (nI td), .int (nI om), .ref (mo + 11), .ref (mo + 12), .ref (mo + 13), .ref (mo + 14), .ref (mo + 15), .ref (mo + 16)]))) (hSo : mn_at g (mo + 4) (.inl (0, 4800, .inl (fun j => nI (sl j))))) (hSs : mn_at g (mo + 5) (.inl (0, 60, .inl (fun j => nI (ss j))))) (hss : ∀ k, ss k ≤ 80) (hs20 : ∀ k, ss k = 0 ∨ 20 ≤ ss k) (hslb : ∀ j, sl j < 256) {k : Nat} (hk : k < 60) (hh0 : hdN (sbS sl k) (ss k)) : mn_R E MMo_slot 3 68 0 0 0 [(0, .ref mo), (1, .int (nI k)), (2, .int 2)] [] g (fun x g' => x = some (.int (nI (sbS sl k 3))) ∧ mn_fr (fun q => q = mo) g g' ∧ mn_at g' mo (.inr (11, [.int 0, .ref (mo + 1), .int (nI tl), .ref (mo + 2), .ref (mo + 3), .int (nI e), .int (nI sz), .int (nI rp), .int (nI st), .ref (mo + 4), .ref (mo + 5), .ref (mo + 6), .int ir, .int (nI m), .int (nI r), .int (nI wd), .int (nI ag), .ref (mo + 7), .ref (mo + 8), .ref (mo + 9), .ref (mo + 10), .int (nI td), .int (nI om), .ref (mo + 11), .ref (mo + 12), .ref (mo + 13), .ref (mo + 14), .ref (mo + 15), .ref (mo + 16)]))) := by
  have hssk := hss k
  have hstl := stN_lt (sbS sl k) (ss k)
  have hy := stN_y hh0
  refine mn_aload_n 0 dMo_slot_0 rfl rfl ?_
  refine mn_iconst (v := 0) dMo_slot_1 (by decide) ?_
  refine mn_putf okMo 0 lMo_1 (by decide) rfl hM rfl rfl (Nat.le_of_ble_eq_true rfl) dMo_slot_2 ?_
  obtain ⟨g1, eg1⟩ : ∃ gg_, gg_ = mn_set g mo (.inr (11, [.int 0, .ref (mo + 1), .int (nI tl), .ref (mo + 2), .ref (mo + 3), .int (nI e), .int (nI sz), .int (nI rp), .int (nI st), .ref (mo + 4), .ref (mo + 5), .ref (mo + 6), .int ir, .int (nI m), .int (nI r), .int (nI wd), .int (nI ag), .ref (mo + 7), .ref (mo + 8), .ref (mo + 9), .ref (mo + 10), .int (nI td), .int (nI om), .ref (mo + 11), .ref (mo + 12), .ref (mo + 13), .ref (mo + 14), .ref (mo + 15), .ref (mo + 16)])) := ⟨_, rfl⟩
  refine mn_R.toG eg1 ?_
  have hM_g1 : mn_at g1 mo (.inr (11, [.int 0, .ref (mo + 1), .int (nI tl), .ref (mo + 2), .ref (mo + 3), .int (nI e), .int (nI sz), .int (nI rp), .int (nI st), .ref (mo + 4), .ref (mo + 5), .ref (mo + 6), .int ir, .int (nI m), .int (nI r), .int (nI wd), .int (nI ag), .ref (mo + 7), .ref (mo + 8), .ref (mo + 9), .ref (mo + 10), .int (nI td), .int (nI om), .ref (mo + 11), .ref (mo + 12), .ref (mo + 13), .ref (mo + 14), .ref (mo + 15), .ref (mo + 16)])) := by rw [eg1]; exact hM.same
  have hSo_g1 : mn_at g1 (mo + 4) (.inl (0, 4800, .inl (fun j => nI (sl j)))) := by rw [eg1]; exact hSo.off (by omega)
  have hSs_g1 : mn_at g1 (mo + 5) (.inl (0, 60, .inl (fun j => nI (ss j)))) := by rw [eg1]; exact hSs.off (by omega)
  refine mn_aload_n 0 dMo_slot_5 rfl rfl ?_
  refine mn_iload_n 1 dMo_slot_6 rfl rfl ?_
  refine mn_cV (d' := 1) (w' := 22) (As := [.int (nI k)]) (stk' := [.int 0]) okMo_noSlot lMo_130 dMo_slot_7 hM_g1 rfl rfl rfl rfl (Nat.le_of_ble_eq_true rfl) (Nat.le_of_ble_eq_true rfl) (by decide) (c_M_noSlot_n hM_g1 (k := k) (by omega)) rfl ?_
  refine mn_if_ne 22 dMo_slot_10 (by decide) (fun c2 => ?_) (fun c2 => ?_)
  · exact absurd c2 (by decide)
  · refine mn_iload_n 2 dMo_slot_13 rfl rfl ?_
    refine mn_iconst (v := 0) dMo_slot_14 (by decide) ?_
    refine mn_iconst (v := 5) dMo_slot_15 (by decide) ?_
    refine mn_cS (d' := 0) (w' := 0) (As := [.int 2, .int 0, .int 5]) (stk' := [.int 1]) okMo_in lMo_68 dMo_slot_16 rfl rfl (Nat.le_of_ble_eq_true rfl) (Nat.le_of_ble_eq_true rfl) (by decide) (c_M_in_y (by decide) (by decide)) rfl ?_
    refine mn_if_ne 24 dMo_slot_19 (by decide) (fun c3 => ?_) (fun c3 => ?_)
    · refine mn_aload_n 0 dMo_slot_24 rfl rfl ?_
      refine mn_iload_n 1 dMo_slot_25 rfl rfl ?_
      refine mn_cV (d' := 2) (w' := 45) (As := [.int (nI k)]) (stk' := [.int (nI (stN (sbS sl k) (ss k)))]) okMo_state lMo_137 dMo_slot_26 hM_g1 rfl rfl rfl rfl (Nat.le_of_ble_eq_true rfl) (Nat.le_of_ble_eq_true rfl) (by decide) (c_M_state hM_g1 hSo_g1 hSs_g1 hss hs20 hslb (s := k) (by omega)) rfl ?_
      refine mn_istore_n (ls' := [(0, .ref mo), (1, .int (nI k)), (2, .int 2), (3, .int (nI (stN (sbS sl k) (ss k))))]) dMo_slot_29 rfl (by decide) rfl ?_
      refine mn_iload_n 2 dMo_slot_30 rfl rfl ?_
      refine mn_if_ne 36 dMo_slot_31 (by decide) (fun c4 => ?_) (fun c4 => ?_)
      · refine mn_iload_n 2 dMo_slot_36 rfl rfl ?_
        refine mn_iconst (v := 5) dMo_slot_37 (by decide) ?_
        refine mn_icmp_ne 57 dMo_slot_38 (by decide) (fun c5 => ?_) (fun c5 => ?_)
        · refine mn_iload_n 3 dMo_slot_57 rfl rfl ?_
          refine mn_iconst (v := 1) dMo_slot_58 (by decide) ?_
          refine mn_iconst (v := 2) dMo_slot_59 (by decide) ?_
          refine mn_cS (d' := 0) (w' := 0) (As := [.int (nI (stN (sbS sl k) (ss k))), .int 1, .int 2]) (stk' := [.int 1]) okMo_in lMo_68 dMo_slot_60 rfl rfl (Nat.le_of_ble_eq_true rfl) (Nat.le_of_ble_eq_true rfl) (by decide) (c_M_in_y (ml_lt (a := 1) (b := stN (sbS sl k) (ss k)) (by omega) (by omega) hy.1) (ml_lt (a := stN (sbS sl k) (ss k)) (b := 2) (by omega) (by omega) hy.2)) rfl ?_
          refine mn_if_eq 82 dMo_slot_63 (by decide) (fun c6 => ?_) (fun c6 => ?_)
          · exact absurd c6 (by decide)
          · refine mn_aload_n 0 dMo_slot_66 rfl rfl ?_
            refine mn_get okMo 9 lMo_26 (by decide) hM_g1 rfl dMo_slot_67 ?_
            refine mn_bipush (v := 80) dMo_slot_70 (by decide) ?_
            refine mn_iload_n 1 dMo_slot_72 rfl rfl ?_
            refine mn_imul (z := nI (80 * k)) dMo_slot_73 (pk_mul 80 k) ?_
            refine mn_iconst (v := 1) dMo_slot_74 (by decide) ?_
            refine mn_iadd (z := nI (80 * k + 1)) dMo_slot_75 (nI_add (80 * k) 1) ?_
            refine mn_iload_n 2 dMo_slot_76 rfl rfl ?_
            refine mn_iadd (z := nI (80 * k + 1 + 2)) dMo_slot_77 (nI_add (80 * k + 1) 2) ?_
            refine mn_ialdN (j := 80 * k + 1 + 2) hSo_g1 rfl (by omega) (by omega) dMo_slot_78 ?_
            refine mn_goto 84 dMo_slot_79 (by decide) ?_
            exact mn_iret rfl dMo_slot_84 ⟨rfl, (mn_fr.rf.set eg1 (by show mo = mo; omega)), hM_g1⟩
        · exact absurd c5 (by decide)
      · exact absurd c4 (by decide)
    · exact absurd c3 (by decide)
set_option maxRecDepth 100000 in
theorem c_M_slot2n {E : mn_En} {g : mn_H} {mo tl e sz rp st m r wd ag td om : Nat} {ir : Int32} {sl ss : Nat → Nat} (hM : mn_at g mo (.inr (11, [.int 0, .ref (mo + 1), .int (nI tl), .ref (mo + 2), .ref (mo + 3), .int (nI e), .int (nI sz), .int (nI rp), .int (nI st), .ref (mo + 4), .ref (mo + 5), .ref (mo + 6), .int ir, .int (nI m), .int (nI r), .int (nI wd), .int (nI ag), .ref (mo + 7), .ref (mo + 8), .ref (mo + 9), .ref (mo + 10), .int (nI td), .int (nI om), .ref (mo + 11), .ref (mo + 12), .ref (mo + 13), .ref (mo + 14), .ref (mo + 15), .ref (mo + 16)]))) (hSo : mn_at g (mo + 4) (.inl (0, 4800, .inl (fun j => nI (sl j))))) (hSs : mn_at g (mo + 5) (.inl (0, 60, .inl (fun j => nI (ss j))))) (hss : ∀ k, ss k ≤ 80) (hs20 : ∀ k, ss k = 0 ∨ 20 ≤ ss k) (hslb : ∀ j, sl j < 256) {k : Nat} (hk : k < 60) (hh0 : ¬ hdN (sbS sl k) (ss k)) : mn_R E MMo_slot 3 68 0 0 0 [(0, .ref mo), (1, .int (nI k)), (2, .int 2)] [] g (fun x g' => x = some (.int (-2)) ∧ mn_fr (fun q => q = mo) g g' ∧ mn_at g' mo (.inr (11, [.int 0, .ref (mo + 1), .int (nI tl), .ref (mo + 2), .ref (mo + 3), .int (nI e), .int (nI sz), .int (nI rp), .int (nI st), .ref (mo + 4), .ref (mo + 5), .ref (mo + 6), .int ir, .int (nI m), .int (nI r), .int (nI wd), .int (nI ag), .ref (mo + 7), .ref (mo + 8), .ref (mo + 9), .ref (mo + 10), .int (nI td), .int (nI om), .ref (mo + 11), .ref (mo + 12), .ref (mo + 13), .ref (mo + 14), .ref (mo + 15), .ref (mo + 16)]))) := by
  have hssk := hss k
  have hstl := stN_lt (sbS sl k) (ss k)
  have hy := stN_n hh0
  refine mn_aload_n 0 dMo_slot_0 rfl rfl ?_
  refine mn_iconst (v := 0) dMo_slot_1 (by decide) ?_
  refine mn_putf okMo 0 lMo_1 (by decide) rfl hM rfl rfl (Nat.le_of_ble_eq_true rfl) dMo_slot_2 ?_
  obtain ⟨g1, eg1⟩ : ∃ gg_, gg_ = mn_set g mo (.inr (11, [.int 0, .ref (mo + 1), .int (nI tl), .ref (mo + 2), .ref (mo + 3), .int (nI e), .int (nI sz), .int (nI rp), .int (nI st), .ref (mo + 4), .ref (mo + 5), .ref (mo + 6), .int ir, .int (nI m), .int (nI r), .int (nI wd), .int (nI ag), .ref (mo + 7), .ref (mo + 8), .ref (mo + 9), .ref (mo + 10), .int (nI td), .int (nI om), .ref (mo + 11), .ref (mo + 12), .ref (mo + 13), .ref (mo + 14), .ref (mo + 15), .ref (mo + 16)])) := ⟨_, rfl⟩
  refine mn_R.toG eg1 ?_
  have hM_g1 : mn_at g1 mo (.inr (11, [.int 0, .ref (mo + 1), .int (nI tl), .ref (mo + 2), .ref (mo + 3), .int (nI e), .int (nI sz), .int (nI rp), .int (nI st), .ref (mo + 4), .ref (mo + 5), .ref (mo + 6), .int ir, .int (nI m), .int (nI r), .int (nI wd), .int (nI ag), .ref (mo + 7), .ref (mo + 8), .ref (mo + 9), .ref (mo + 10), .int (nI td), .int (nI om), .ref (mo + 11), .ref (mo + 12), .ref (mo + 13), .ref (mo + 14), .ref (mo + 15), .ref (mo + 16)])) := by rw [eg1]; exact hM.same
  have hSo_g1 : mn_at g1 (mo + 4) (.inl (0, 4800, .inl (fun j => nI (sl j)))) := by rw [eg1]; exact hSo.off (by omega)
  have hSs_g1 : mn_at g1 (mo + 5) (.inl (0, 60, .inl (fun j => nI (ss j)))) := by rw [eg1]; exact hSs.off (by omega)
  refine mn_aload_n 0 dMo_slot_5 rfl rfl ?_
  refine mn_iload_n 1 dMo_slot_6 rfl rfl ?_
  refine mn_cV (d' := 1) (w' := 22) (As := [.int (nI k)]) (stk' := [.int 0]) okMo_noSlot lMo_130 dMo_slot_7 hM_g1 rfl rfl rfl rfl (Nat.le_of_ble_eq_true rfl) (Nat.le_of_ble_eq_true rfl) (by decide) (c_M_noSlot_n hM_g1 (k := k) (by omega)) rfl ?_
  refine mn_if_ne 22 dMo_slot_10 (by decide) (fun c2 => ?_) (fun c2 => ?_)
  · exact absurd c2 (by decide)
  · refine mn_iload_n 2 dMo_slot_13 rfl rfl ?_
    refine mn_iconst (v := 0) dMo_slot_14 (by decide) ?_
    refine mn_iconst (v := 5) dMo_slot_15 (by decide) ?_
    refine mn_cS (d' := 0) (w' := 0) (As := [.int 2, .int 0, .int 5]) (stk' := [.int 1]) okMo_in lMo_68 dMo_slot_16 rfl rfl (Nat.le_of_ble_eq_true rfl) (Nat.le_of_ble_eq_true rfl) (by decide) (c_M_in_y (by decide) (by decide)) rfl ?_
    refine mn_if_ne 24 dMo_slot_19 (by decide) (fun c3 => ?_) (fun c3 => ?_)
    · refine mn_aload_n 0 dMo_slot_24 rfl rfl ?_
      refine mn_iload_n 1 dMo_slot_25 rfl rfl ?_
      refine mn_cV (d' := 2) (w' := 45) (As := [.int (nI k)]) (stk' := [.int (nI (stN (sbS sl k) (ss k)))]) okMo_state lMo_137 dMo_slot_26 hM_g1 rfl rfl rfl rfl (Nat.le_of_ble_eq_true rfl) (Nat.le_of_ble_eq_true rfl) (by decide) (c_M_state hM_g1 hSo_g1 hSs_g1 hss hs20 hslb (s := k) (by omega)) rfl ?_
      refine mn_istore_n (ls' := [(0, .ref mo), (1, .int (nI k)), (2, .int 2), (3, .int (nI (stN (sbS sl k) (ss k))))]) dMo_slot_29 rfl (by decide) rfl ?_
      refine mn_iload_n 2 dMo_slot_30 rfl rfl ?_
      refine mn_if_ne 36 dMo_slot_31 (by decide) (fun c4 => ?_) (fun c4 => ?_)
      · refine mn_iload_n 2 dMo_slot_36 rfl rfl ?_
        refine mn_iconst (v := 5) dMo_slot_37 (by decide) ?_
        refine mn_icmp_ne 57 dMo_slot_38 (by decide) (fun c5 => ?_) (fun c5 => ?_)
        · refine mn_iload_n 3 dMo_slot_57 rfl rfl ?_
          refine mn_iconst (v := 1) dMo_slot_58 (by decide) ?_
          refine mn_iconst (v := 2) dMo_slot_59 (by decide) ?_
          refine mn_cS (d' := 0) (w' := 0) (As := [.int (nI (stN (sbS sl k) (ss k))), .int 1, .int 2]) (stk' := [.int 0]) okMo_in lMo_68 dMo_slot_60 rfl rfl (Nat.le_of_ble_eq_true rfl) (Nat.le_of_ble_eq_true rfl) (by decide) (c_M_in_n (hy.elim (fun q => Or.inl ((nI_ltI (a := stN (sbS sl k) (ss k)) (b := 1) (by omega) (by omega)).mpr q)) (fun q => Or.inr ((nI_ltI (a := 2) (b := stN (sbS sl k) (ss k)) (by omega) (by omega)).mpr q)))) rfl ?_
          refine mn_if_eq 82 dMo_slot_63 (by decide) (fun c6 => ?_) (fun c6 => ?_)
          · refine mn_bipush (v := (-2)) dMo_slot_82 (by decide) ?_
            exact mn_iret rfl dMo_slot_84 ⟨rfl, (mn_fr.rf.set eg1 (by show mo = mo; omega)), hM_g1⟩
          · exact absurd c6 (by decide)
        · exact absurd c5 (by decide)
      · exact absurd c4 (by decide)
    · exact absurd c3 (by decide)
set_option maxRecDepth 100000 in
theorem c_M_slot3y {E : mn_En} {g : mn_H} {mo tl e sz rp st m r wd ag td om : Nat} {ir : Int32} {sl ss : Nat → Nat} (hM : mn_at g mo (.inr (11, [.int 0, .ref (mo + 1), .int (nI tl), .ref (mo + 2), .ref (mo + 3), .int (nI e), .int (nI sz), .int (nI rp), .int (nI st), .ref (mo + 4), .ref (mo + 5), .ref (mo + 6), .int ir, .int (nI m), .int (nI r), .int (nI wd), .int (nI ag), .ref (mo + 7), .ref (mo + 8), .ref (mo + 9), .ref (mo + 10), .int (nI td), .int (nI om), .ref (mo + 11), .ref (mo + 12), .ref (mo + 13), .ref (mo + 14), .ref (mo + 15), .ref (mo + 16)]))) (hSo : mn_at g (mo + 4) (.inl (0, 4800, .inl (fun j => nI (sl j))))) (hSs : mn_at g (mo + 5) (.inl (0, 60, .inl (fun j => nI (ss j))))) (hss : ∀ k, ss k ≤ 80) (hs20 : ∀ k, ss k = 0 ∨ 20 ≤ ss k) (hslb : ∀ j, sl j < 256) {k : Nat} (hk : k < 60) (hh0 : hdN (sbS sl k) (ss k)) : mn_R E MMo_slot 3 68 0 0 0 [(0, .ref mo), (1, .int (nI k)), (2, .int 3)] [] g (fun x g' => x = some (.int (nI (sbS sl k 4))) ∧ mn_fr (fun q => q = mo) g g' ∧ mn_at g' mo (.inr (11, [.int 0, .ref (mo + 1), .int (nI tl), .ref (mo + 2), .ref (mo + 3), .int (nI e), .int (nI sz), .int (nI rp), .int (nI st), .ref (mo + 4), .ref (mo + 5), .ref (mo + 6), .int ir, .int (nI m), .int (nI r), .int (nI wd), .int (nI ag), .ref (mo + 7), .ref (mo + 8), .ref (mo + 9), .ref (mo + 10), .int (nI td), .int (nI om), .ref (mo + 11), .ref (mo + 12), .ref (mo + 13), .ref (mo + 14), .ref (mo + 15), .ref (mo + 16)]))) := by
  have hssk := hss k
  have hstl := stN_lt (sbS sl k) (ss k)
  have hy := stN_y hh0
  refine mn_aload_n 0 dMo_slot_0 rfl rfl ?_
  refine mn_iconst (v := 0) dMo_slot_1 (by decide) ?_
  refine mn_putf okMo 0 lMo_1 (by decide) rfl hM rfl rfl (Nat.le_of_ble_eq_true rfl) dMo_slot_2 ?_
  obtain ⟨g1, eg1⟩ : ∃ gg_, gg_ = mn_set g mo (.inr (11, [.int 0, .ref (mo + 1), .int (nI tl), .ref (mo + 2), .ref (mo + 3), .int (nI e), .int (nI sz), .int (nI rp), .int (nI st), .ref (mo + 4), .ref (mo + 5), .ref (mo + 6), .int ir, .int (nI m), .int (nI r), .int (nI wd), .int (nI ag), .ref (mo + 7), .ref (mo + 8), .ref (mo + 9), .ref (mo + 10), .int (nI td), .int (nI om), .ref (mo + 11), .ref (mo + 12), .ref (mo + 13), .ref (mo + 14), .ref (mo + 15), .ref (mo + 16)])) := ⟨_, rfl⟩
  refine mn_R.toG eg1 ?_
  have hM_g1 : mn_at g1 mo (.inr (11, [.int 0, .ref (mo + 1), .int (nI tl), .ref (mo + 2), .ref (mo + 3), .int (nI e), .int (nI sz), .int (nI rp), .int (nI st), .ref (mo + 4), .ref (mo + 5), .ref (mo + 6), .int ir, .int (nI m), .int (nI r), .int (nI wd), .int (nI ag), .ref (mo + 7), .ref (mo + 8), .ref (mo + 9), .ref (mo + 10), .int (nI td), .int (nI om), .ref (mo + 11), .ref (mo + 12), .ref (mo + 13), .ref (mo + 14), .ref (mo + 15), .ref (mo + 16)])) := by rw [eg1]; exact hM.same
  have hSo_g1 : mn_at g1 (mo + 4) (.inl (0, 4800, .inl (fun j => nI (sl j)))) := by rw [eg1]; exact hSo.off (by omega)
  have hSs_g1 : mn_at g1 (mo + 5) (.inl (0, 60, .inl (fun j => nI (ss j)))) := by rw [eg1]; exact hSs.off (by omega)
  refine mn_aload_n 0 dMo_slot_5 rfl rfl ?_
  refine mn_iload_n 1 dMo_slot_6 rfl rfl ?_
  refine mn_cV (d' := 1) (w' := 22) (As := [.int (nI k)]) (stk' := [.int 0]) okMo_noSlot lMo_130 dMo_slot_7 hM_g1 rfl rfl rfl rfl (Nat.le_of_ble_eq_true rfl) (Nat.le_of_ble_eq_true rfl) (by decide) (c_M_noSlot_n hM_g1 (k := k) (by omega)) rfl ?_
  refine mn_if_ne 22 dMo_slot_10 (by decide) (fun c2 => ?_) (fun c2 => ?_)
  · exact absurd c2 (by decide)
  · refine mn_iload_n 2 dMo_slot_13 rfl rfl ?_
    refine mn_iconst (v := 0) dMo_slot_14 (by decide) ?_
    refine mn_iconst (v := 5) dMo_slot_15 (by decide) ?_
    refine mn_cS (d' := 0) (w' := 0) (As := [.int 3, .int 0, .int 5]) (stk' := [.int 1]) okMo_in lMo_68 dMo_slot_16 rfl rfl (Nat.le_of_ble_eq_true rfl) (Nat.le_of_ble_eq_true rfl) (by decide) (c_M_in_y (by decide) (by decide)) rfl ?_
    refine mn_if_ne 24 dMo_slot_19 (by decide) (fun c3 => ?_) (fun c3 => ?_)
    · refine mn_aload_n 0 dMo_slot_24 rfl rfl ?_
      refine mn_iload_n 1 dMo_slot_25 rfl rfl ?_
      refine mn_cV (d' := 2) (w' := 45) (As := [.int (nI k)]) (stk' := [.int (nI (stN (sbS sl k) (ss k)))]) okMo_state lMo_137 dMo_slot_26 hM_g1 rfl rfl rfl rfl (Nat.le_of_ble_eq_true rfl) (Nat.le_of_ble_eq_true rfl) (by decide) (c_M_state hM_g1 hSo_g1 hSs_g1 hss hs20 hslb (s := k) (by omega)) rfl ?_
      refine mn_istore_n (ls' := [(0, .ref mo), (1, .int (nI k)), (2, .int 3), (3, .int (nI (stN (sbS sl k) (ss k))))]) dMo_slot_29 rfl (by decide) rfl ?_
      refine mn_iload_n 2 dMo_slot_30 rfl rfl ?_
      refine mn_if_ne 36 dMo_slot_31 (by decide) (fun c4 => ?_) (fun c4 => ?_)
      · refine mn_iload_n 2 dMo_slot_36 rfl rfl ?_
        refine mn_iconst (v := 5) dMo_slot_37 (by decide) ?_
        refine mn_icmp_ne 57 dMo_slot_38 (by decide) (fun c5 => ?_) (fun c5 => ?_)
        · refine mn_iload_n 3 dMo_slot_57 rfl rfl ?_
          refine mn_iconst (v := 1) dMo_slot_58 (by decide) ?_
          refine mn_iconst (v := 2) dMo_slot_59 (by decide) ?_
          refine mn_cS (d' := 0) (w' := 0) (As := [.int (nI (stN (sbS sl k) (ss k))), .int 1, .int 2]) (stk' := [.int 1]) okMo_in lMo_68 dMo_slot_60 rfl rfl (Nat.le_of_ble_eq_true rfl) (Nat.le_of_ble_eq_true rfl) (by decide) (c_M_in_y (ml_lt (a := 1) (b := stN (sbS sl k) (ss k)) (by omega) (by omega) hy.1) (ml_lt (a := stN (sbS sl k) (ss k)) (b := 2) (by omega) (by omega) hy.2)) rfl ?_
          refine mn_if_eq 82 dMo_slot_63 (by decide) (fun c6 => ?_) (fun c6 => ?_)
          · exact absurd c6 (by decide)
          · refine mn_aload_n 0 dMo_slot_66 rfl rfl ?_
            refine mn_get okMo 9 lMo_26 (by decide) hM_g1 rfl dMo_slot_67 ?_
            refine mn_bipush (v := 80) dMo_slot_70 (by decide) ?_
            refine mn_iload_n 1 dMo_slot_72 rfl rfl ?_
            refine mn_imul (z := nI (80 * k)) dMo_slot_73 (pk_mul 80 k) ?_
            refine mn_iconst (v := 1) dMo_slot_74 (by decide) ?_
            refine mn_iadd (z := nI (80 * k + 1)) dMo_slot_75 (nI_add (80 * k) 1) ?_
            refine mn_iload_n 2 dMo_slot_76 rfl rfl ?_
            refine mn_iadd (z := nI (80 * k + 1 + 3)) dMo_slot_77 (nI_add (80 * k + 1) 3) ?_
            refine mn_ialdN (j := 80 * k + 1 + 3) hSo_g1 rfl (by omega) (by omega) dMo_slot_78 ?_
            refine mn_goto 84 dMo_slot_79 (by decide) ?_
            exact mn_iret rfl dMo_slot_84 ⟨rfl, (mn_fr.rf.set eg1 (by show mo = mo; omega)), hM_g1⟩
        · exact absurd c5 (by decide)
      · exact absurd c4 (by decide)
    · exact absurd c3 (by decide)
set_option maxRecDepth 100000 in
theorem c_M_slot3n {E : mn_En} {g : mn_H} {mo tl e sz rp st m r wd ag td om : Nat} {ir : Int32} {sl ss : Nat → Nat} (hM : mn_at g mo (.inr (11, [.int 0, .ref (mo + 1), .int (nI tl), .ref (mo + 2), .ref (mo + 3), .int (nI e), .int (nI sz), .int (nI rp), .int (nI st), .ref (mo + 4), .ref (mo + 5), .ref (mo + 6), .int ir, .int (nI m), .int (nI r), .int (nI wd), .int (nI ag), .ref (mo + 7), .ref (mo + 8), .ref (mo + 9), .ref (mo + 10), .int (nI td), .int (nI om), .ref (mo + 11), .ref (mo + 12), .ref (mo + 13), .ref (mo + 14), .ref (mo + 15), .ref (mo + 16)]))) (hSo : mn_at g (mo + 4) (.inl (0, 4800, .inl (fun j => nI (sl j))))) (hSs : mn_at g (mo + 5) (.inl (0, 60, .inl (fun j => nI (ss j))))) (hss : ∀ k, ss k ≤ 80) (hs20 : ∀ k, ss k = 0 ∨ 20 ≤ ss k) (hslb : ∀ j, sl j < 256) {k : Nat} (hk : k < 60) (hh0 : ¬ hdN (sbS sl k) (ss k)) : mn_R E MMo_slot 3 68 0 0 0 [(0, .ref mo), (1, .int (nI k)), (2, .int 3)] [] g (fun x g' => x = some (.int (-2)) ∧ mn_fr (fun q => q = mo) g g' ∧ mn_at g' mo (.inr (11, [.int 0, .ref (mo + 1), .int (nI tl), .ref (mo + 2), .ref (mo + 3), .int (nI e), .int (nI sz), .int (nI rp), .int (nI st), .ref (mo + 4), .ref (mo + 5), .ref (mo + 6), .int ir, .int (nI m), .int (nI r), .int (nI wd), .int (nI ag), .ref (mo + 7), .ref (mo + 8), .ref (mo + 9), .ref (mo + 10), .int (nI td), .int (nI om), .ref (mo + 11), .ref (mo + 12), .ref (mo + 13), .ref (mo + 14), .ref (mo + 15), .ref (mo + 16)]))) := by
  have hssk := hss k
  have hstl := stN_lt (sbS sl k) (ss k)
  have hy := stN_n hh0
  refine mn_aload_n 0 dMo_slot_0 rfl rfl ?_
  refine mn_iconst (v := 0) dMo_slot_1 (by decide) ?_
  refine mn_putf okMo 0 lMo_1 (by decide) rfl hM rfl rfl (Nat.le_of_ble_eq_true rfl) dMo_slot_2 ?_
  obtain ⟨g1, eg1⟩ : ∃ gg_, gg_ = mn_set g mo (.inr (11, [.int 0, .ref (mo + 1), .int (nI tl), .ref (mo + 2), .ref (mo + 3), .int (nI e), .int (nI sz), .int (nI rp), .int (nI st), .ref (mo + 4), .ref (mo + 5), .ref (mo + 6), .int ir, .int (nI m), .int (nI r), .int (nI wd), .int (nI ag), .ref (mo + 7), .ref (mo + 8), .ref (mo + 9), .ref (mo + 10), .int (nI td), .int (nI om), .ref (mo + 11), .ref (mo + 12), .ref (mo + 13), .ref (mo + 14), .ref (mo + 15), .ref (mo + 16)])) := ⟨_, rfl⟩
  refine mn_R.toG eg1 ?_
  have hM_g1 : mn_at g1 mo (.inr (11, [.int 0, .ref (mo + 1), .int (nI tl), .ref (mo + 2), .ref (mo + 3), .int (nI e), .int (nI sz), .int (nI rp), .int (nI st), .ref (mo + 4), .ref (mo + 5), .ref (mo + 6), .int ir, .int (nI m), .int (nI r), .int (nI wd), .int (nI ag), .ref (mo + 7), .ref (mo + 8), .ref (mo + 9), .ref (mo + 10), .int (nI td), .int (nI om), .ref (mo + 11), .ref (mo + 12), .ref (mo + 13), .ref (mo + 14), .ref (mo + 15), .ref (mo + 16)])) := by rw [eg1]; exact hM.same
  have hSo_g1 : mn_at g1 (mo + 4) (.inl (0, 4800, .inl (fun j => nI (sl j)))) := by rw [eg1]; exact hSo.off (by omega)
  have hSs_g1 : mn_at g1 (mo + 5) (.inl (0, 60, .inl (fun j => nI (ss j)))) := by rw [eg1]; exact hSs.off (by omega)
  refine mn_aload_n 0 dMo_slot_5 rfl rfl ?_
  refine mn_iload_n 1 dMo_slot_6 rfl rfl ?_
  refine mn_cV (d' := 1) (w' := 22) (As := [.int (nI k)]) (stk' := [.int 0]) okMo_noSlot lMo_130 dMo_slot_7 hM_g1 rfl rfl rfl rfl (Nat.le_of_ble_eq_true rfl) (Nat.le_of_ble_eq_true rfl) (by decide) (c_M_noSlot_n hM_g1 (k := k) (by omega)) rfl ?_
  refine mn_if_ne 22 dMo_slot_10 (by decide) (fun c2 => ?_) (fun c2 => ?_)
  · exact absurd c2 (by decide)
  · refine mn_iload_n 2 dMo_slot_13 rfl rfl ?_
    refine mn_iconst (v := 0) dMo_slot_14 (by decide) ?_
    refine mn_iconst (v := 5) dMo_slot_15 (by decide) ?_
    refine mn_cS (d' := 0) (w' := 0) (As := [.int 3, .int 0, .int 5]) (stk' := [.int 1]) okMo_in lMo_68 dMo_slot_16 rfl rfl (Nat.le_of_ble_eq_true rfl) (Nat.le_of_ble_eq_true rfl) (by decide) (c_M_in_y (by decide) (by decide)) rfl ?_
    refine mn_if_ne 24 dMo_slot_19 (by decide) (fun c3 => ?_) (fun c3 => ?_)
    · refine mn_aload_n 0 dMo_slot_24 rfl rfl ?_
      refine mn_iload_n 1 dMo_slot_25 rfl rfl ?_
      refine mn_cV (d' := 2) (w' := 45) (As := [.int (nI k)]) (stk' := [.int (nI (stN (sbS sl k) (ss k)))]) okMo_state lMo_137 dMo_slot_26 hM_g1 rfl rfl rfl rfl (Nat.le_of_ble_eq_true rfl) (Nat.le_of_ble_eq_true rfl) (by decide) (c_M_state hM_g1 hSo_g1 hSs_g1 hss hs20 hslb (s := k) (by omega)) rfl ?_
      refine mn_istore_n (ls' := [(0, .ref mo), (1, .int (nI k)), (2, .int 3), (3, .int (nI (stN (sbS sl k) (ss k))))]) dMo_slot_29 rfl (by decide) rfl ?_
      refine mn_iload_n 2 dMo_slot_30 rfl rfl ?_
      refine mn_if_ne 36 dMo_slot_31 (by decide) (fun c4 => ?_) (fun c4 => ?_)
      · refine mn_iload_n 2 dMo_slot_36 rfl rfl ?_
        refine mn_iconst (v := 5) dMo_slot_37 (by decide) ?_
        refine mn_icmp_ne 57 dMo_slot_38 (by decide) (fun c5 => ?_) (fun c5 => ?_)
        · refine mn_iload_n 3 dMo_slot_57 rfl rfl ?_
          refine mn_iconst (v := 1) dMo_slot_58 (by decide) ?_
          refine mn_iconst (v := 2) dMo_slot_59 (by decide) ?_
          refine mn_cS (d' := 0) (w' := 0) (As := [.int (nI (stN (sbS sl k) (ss k))), .int 1, .int 2]) (stk' := [.int 0]) okMo_in lMo_68 dMo_slot_60 rfl rfl (Nat.le_of_ble_eq_true rfl) (Nat.le_of_ble_eq_true rfl) (by decide) (c_M_in_n (hy.elim (fun q => Or.inl ((nI_ltI (a := stN (sbS sl k) (ss k)) (b := 1) (by omega) (by omega)).mpr q)) (fun q => Or.inr ((nI_ltI (a := 2) (b := stN (sbS sl k) (ss k)) (by omega) (by omega)).mpr q)))) rfl ?_
          refine mn_if_eq 82 dMo_slot_63 (by decide) (fun c6 => ?_) (fun c6 => ?_)
          · refine mn_bipush (v := (-2)) dMo_slot_82 (by decide) ?_
            exact mn_iret rfl dMo_slot_84 ⟨rfl, (mn_fr.rf.set eg1 (by show mo = mo; omega)), hM_g1⟩
          · exact absurd c6 (by decide)
        · exact absurd c5 (by decide)
      · exact absurd c4 (by decide)
    · exact absurd c3 (by decide)
set_option maxRecDepth 100000 in
theorem c_M_slot4y {E : mn_En} {g : mn_H} {mo tl e sz rp st m r wd ag td om : Nat} {ir : Int32} {sl ss : Nat → Nat} (hM : mn_at g mo (.inr (11, [.int 0, .ref (mo + 1), .int (nI tl), .ref (mo + 2), .ref (mo + 3), .int (nI e), .int (nI sz), .int (nI rp), .int (nI st), .ref (mo + 4), .ref (mo + 5), .ref (mo + 6), .int ir, .int (nI m), .int (nI r), .int (nI wd), .int (nI ag), .ref (mo + 7), .ref (mo + 8), .ref (mo + 9), .ref (mo + 10), .int (nI td), .int (nI om), .ref (mo + 11), .ref (mo + 12), .ref (mo + 13), .ref (mo + 14), .ref (mo + 15), .ref (mo + 16)]))) (hSo : mn_at g (mo + 4) (.inl (0, 4800, .inl (fun j => nI (sl j))))) (hSs : mn_at g (mo + 5) (.inl (0, 60, .inl (fun j => nI (ss j))))) (hss : ∀ k, ss k ≤ 80) (hs20 : ∀ k, ss k = 0 ∨ 20 ≤ ss k) (hslb : ∀ j, sl j < 256) {k : Nat} (hk : k < 60) (hh0 : hdN (sbS sl k) (ss k)) : mn_R E MMo_slot 3 68 0 0 0 [(0, .ref mo), (1, .int (nI k)), (2, .int 4)] [] g (fun x g' => x = some (.int (nI (sbS sl k 5))) ∧ mn_fr (fun q => q = mo) g g' ∧ mn_at g' mo (.inr (11, [.int 0, .ref (mo + 1), .int (nI tl), .ref (mo + 2), .ref (mo + 3), .int (nI e), .int (nI sz), .int (nI rp), .int (nI st), .ref (mo + 4), .ref (mo + 5), .ref (mo + 6), .int ir, .int (nI m), .int (nI r), .int (nI wd), .int (nI ag), .ref (mo + 7), .ref (mo + 8), .ref (mo + 9), .ref (mo + 10), .int (nI td), .int (nI om), .ref (mo + 11), .ref (mo + 12), .ref (mo + 13), .ref (mo + 14), .ref (mo + 15), .ref (mo + 16)]))) := by
  have hssk := hss k
  have hstl := stN_lt (sbS sl k) (ss k)
  have hy := stN_y hh0
  refine mn_aload_n 0 dMo_slot_0 rfl rfl ?_
  refine mn_iconst (v := 0) dMo_slot_1 (by decide) ?_
  refine mn_putf okMo 0 lMo_1 (by decide) rfl hM rfl rfl (Nat.le_of_ble_eq_true rfl) dMo_slot_2 ?_
  obtain ⟨g1, eg1⟩ : ∃ gg_, gg_ = mn_set g mo (.inr (11, [.int 0, .ref (mo + 1), .int (nI tl), .ref (mo + 2), .ref (mo + 3), .int (nI e), .int (nI sz), .int (nI rp), .int (nI st), .ref (mo + 4), .ref (mo + 5), .ref (mo + 6), .int ir, .int (nI m), .int (nI r), .int (nI wd), .int (nI ag), .ref (mo + 7), .ref (mo + 8), .ref (mo + 9), .ref (mo + 10), .int (nI td), .int (nI om), .ref (mo + 11), .ref (mo + 12), .ref (mo + 13), .ref (mo + 14), .ref (mo + 15), .ref (mo + 16)])) := ⟨_, rfl⟩
  refine mn_R.toG eg1 ?_
  have hM_g1 : mn_at g1 mo (.inr (11, [.int 0, .ref (mo + 1), .int (nI tl), .ref (mo + 2), .ref (mo + 3), .int (nI e), .int (nI sz), .int (nI rp), .int (nI st), .ref (mo + 4), .ref (mo + 5), .ref (mo + 6), .int ir, .int (nI m), .int (nI r), .int (nI wd), .int (nI ag), .ref (mo + 7), .ref (mo + 8), .ref (mo + 9), .ref (mo + 10), .int (nI td), .int (nI om), .ref (mo + 11), .ref (mo + 12), .ref (mo + 13), .ref (mo + 14), .ref (mo + 15), .ref (mo + 16)])) := by rw [eg1]; exact hM.same
  have hSo_g1 : mn_at g1 (mo + 4) (.inl (0, 4800, .inl (fun j => nI (sl j)))) := by rw [eg1]; exact hSo.off (by omega)
  have hSs_g1 : mn_at g1 (mo + 5) (.inl (0, 60, .inl (fun j => nI (ss j)))) := by rw [eg1]; exact hSs.off (by omega)
  refine mn_aload_n 0 dMo_slot_5 rfl rfl ?_
  refine mn_iload_n 1 dMo_slot_6 rfl rfl ?_
  refine mn_cV (d' := 1) (w' := 22) (As := [.int (nI k)]) (stk' := [.int 0]) okMo_noSlot lMo_130 dMo_slot_7 hM_g1 rfl rfl rfl rfl (Nat.le_of_ble_eq_true rfl) (Nat.le_of_ble_eq_true rfl) (by decide) (c_M_noSlot_n hM_g1 (k := k) (by omega)) rfl ?_
  refine mn_if_ne 22 dMo_slot_10 (by decide) (fun c2 => ?_) (fun c2 => ?_)
  · exact absurd c2 (by decide)
  · refine mn_iload_n 2 dMo_slot_13 rfl rfl ?_
    refine mn_iconst (v := 0) dMo_slot_14 (by decide) ?_
    refine mn_iconst (v := 5) dMo_slot_15 (by decide) ?_
    refine mn_cS (d' := 0) (w' := 0) (As := [.int 4, .int 0, .int 5]) (stk' := [.int 1]) okMo_in lMo_68 dMo_slot_16 rfl rfl (Nat.le_of_ble_eq_true rfl) (Nat.le_of_ble_eq_true rfl) (by decide) (c_M_in_y (by decide) (by decide)) rfl ?_
    refine mn_if_ne 24 dMo_slot_19 (by decide) (fun c3 => ?_) (fun c3 => ?_)
    · refine mn_aload_n 0 dMo_slot_24 rfl rfl ?_
      refine mn_iload_n 1 dMo_slot_25 rfl rfl ?_
      refine mn_cV (d' := 2) (w' := 45) (As := [.int (nI k)]) (stk' := [.int (nI (stN (sbS sl k) (ss k)))]) okMo_state lMo_137 dMo_slot_26 hM_g1 rfl rfl rfl rfl (Nat.le_of_ble_eq_true rfl) (Nat.le_of_ble_eq_true rfl) (by decide) (c_M_state hM_g1 hSo_g1 hSs_g1 hss hs20 hslb (s := k) (by omega)) rfl ?_
      refine mn_istore_n (ls' := [(0, .ref mo), (1, .int (nI k)), (2, .int 4), (3, .int (nI (stN (sbS sl k) (ss k))))]) dMo_slot_29 rfl (by decide) rfl ?_
      refine mn_iload_n 2 dMo_slot_30 rfl rfl ?_
      refine mn_if_ne 36 dMo_slot_31 (by decide) (fun c4 => ?_) (fun c4 => ?_)
      · refine mn_iload_n 2 dMo_slot_36 rfl rfl ?_
        refine mn_iconst (v := 5) dMo_slot_37 (by decide) ?_
        refine mn_icmp_ne 57 dMo_slot_38 (by decide) (fun c5 => ?_) (fun c5 => ?_)
        · refine mn_iload_n 3 dMo_slot_57 rfl rfl ?_
          refine mn_iconst (v := 1) dMo_slot_58 (by decide) ?_
          refine mn_iconst (v := 2) dMo_slot_59 (by decide) ?_
          refine mn_cS (d' := 0) (w' := 0) (As := [.int (nI (stN (sbS sl k) (ss k))), .int 1, .int 2]) (stk' := [.int 1]) okMo_in lMo_68 dMo_slot_60 rfl rfl (Nat.le_of_ble_eq_true rfl) (Nat.le_of_ble_eq_true rfl) (by decide) (c_M_in_y (ml_lt (a := 1) (b := stN (sbS sl k) (ss k)) (by omega) (by omega) hy.1) (ml_lt (a := stN (sbS sl k) (ss k)) (b := 2) (by omega) (by omega) hy.2)) rfl ?_
          refine mn_if_eq 82 dMo_slot_63 (by decide) (fun c6 => ?_) (fun c6 => ?_)
          · exact absurd c6 (by decide)
          · refine mn_aload_n 0 dMo_slot_66 rfl rfl ?_
            refine mn_get okMo 9 lMo_26 (by decide) hM_g1 rfl dMo_slot_67 ?_
            refine mn_bipush (v := 80) dMo_slot_70 (by decide) ?_
            refine mn_iload_n 1 dMo_slot_72 rfl rfl ?_
            refine mn_imul (z := nI (80 * k)) dMo_slot_73 (pk_mul 80 k) ?_
            refine mn_iconst (v := 1) dMo_slot_74 (by decide) ?_
            refine mn_iadd (z := nI (80 * k + 1)) dMo_slot_75 (nI_add (80 * k) 1) ?_
            refine mn_iload_n 2 dMo_slot_76 rfl rfl ?_
            refine mn_iadd (z := nI (80 * k + 1 + 4)) dMo_slot_77 (nI_add (80 * k + 1) 4) ?_
            refine mn_ialdN (j := 80 * k + 1 + 4) hSo_g1 rfl (by omega) (by omega) dMo_slot_78 ?_
            refine mn_goto 84 dMo_slot_79 (by decide) ?_
            exact mn_iret rfl dMo_slot_84 ⟨rfl, (mn_fr.rf.set eg1 (by show mo = mo; omega)), hM_g1⟩
        · exact absurd c5 (by decide)
      · exact absurd c4 (by decide)
    · exact absurd c3 (by decide)
set_option maxRecDepth 100000 in
theorem c_M_slot4n {E : mn_En} {g : mn_H} {mo tl e sz rp st m r wd ag td om : Nat} {ir : Int32} {sl ss : Nat → Nat} (hM : mn_at g mo (.inr (11, [.int 0, .ref (mo + 1), .int (nI tl), .ref (mo + 2), .ref (mo + 3), .int (nI e), .int (nI sz), .int (nI rp), .int (nI st), .ref (mo + 4), .ref (mo + 5), .ref (mo + 6), .int ir, .int (nI m), .int (nI r), .int (nI wd), .int (nI ag), .ref (mo + 7), .ref (mo + 8), .ref (mo + 9), .ref (mo + 10), .int (nI td), .int (nI om), .ref (mo + 11), .ref (mo + 12), .ref (mo + 13), .ref (mo + 14), .ref (mo + 15), .ref (mo + 16)]))) (hSo : mn_at g (mo + 4) (.inl (0, 4800, .inl (fun j => nI (sl j))))) (hSs : mn_at g (mo + 5) (.inl (0, 60, .inl (fun j => nI (ss j))))) (hss : ∀ k, ss k ≤ 80) (hs20 : ∀ k, ss k = 0 ∨ 20 ≤ ss k) (hslb : ∀ j, sl j < 256) {k : Nat} (hk : k < 60) (hh0 : ¬ hdN (sbS sl k) (ss k)) : mn_R E MMo_slot 3 68 0 0 0 [(0, .ref mo), (1, .int (nI k)), (2, .int 4)] [] g (fun x g' => x = some (.int (-2)) ∧ mn_fr (fun q => q = mo) g g' ∧ mn_at g' mo (.inr (11, [.int 0, .ref (mo + 1), .int (nI tl), .ref (mo + 2), .ref (mo + 3), .int (nI e), .int (nI sz), .int (nI rp), .int (nI st), .ref (mo + 4), .ref (mo + 5), .ref (mo + 6), .int ir, .int (nI m), .int (nI r), .int (nI wd), .int (nI ag), .ref (mo + 7), .ref (mo + 8), .ref (mo + 9), .ref (mo + 10), .int (nI td), .int (nI om), .ref (mo + 11), .ref (mo + 12), .ref (mo + 13), .ref (mo + 14), .ref (mo + 15), .ref (mo + 16)]))) := by
  have hssk := hss k
  have hstl := stN_lt (sbS sl k) (ss k)
  have hy := stN_n hh0
  refine mn_aload_n 0 dMo_slot_0 rfl rfl ?_
  refine mn_iconst (v := 0) dMo_slot_1 (by decide) ?_
  refine mn_putf okMo 0 lMo_1 (by decide) rfl hM rfl rfl (Nat.le_of_ble_eq_true rfl) dMo_slot_2 ?_
  obtain ⟨g1, eg1⟩ : ∃ gg_, gg_ = mn_set g mo (.inr (11, [.int 0, .ref (mo + 1), .int (nI tl), .ref (mo + 2), .ref (mo + 3), .int (nI e), .int (nI sz), .int (nI rp), .int (nI st), .ref (mo + 4), .ref (mo + 5), .ref (mo + 6), .int ir, .int (nI m), .int (nI r), .int (nI wd), .int (nI ag), .ref (mo + 7), .ref (mo + 8), .ref (mo + 9), .ref (mo + 10), .int (nI td), .int (nI om), .ref (mo + 11), .ref (mo + 12), .ref (mo + 13), .ref (mo + 14), .ref (mo + 15), .ref (mo + 16)])) := ⟨_, rfl⟩
  refine mn_R.toG eg1 ?_
  have hM_g1 : mn_at g1 mo (.inr (11, [.int 0, .ref (mo + 1), .int (nI tl), .ref (mo + 2), .ref (mo + 3), .int (nI e), .int (nI sz), .int (nI rp), .int (nI st), .ref (mo + 4), .ref (mo + 5), .ref (mo + 6), .int ir, .int (nI m), .int (nI r), .int (nI wd), .int (nI ag), .ref (mo + 7), .ref (mo + 8), .ref (mo + 9), .ref (mo + 10), .int (nI td), .int (nI om), .ref (mo + 11), .ref (mo + 12), .ref (mo + 13), .ref (mo + 14), .ref (mo + 15), .ref (mo + 16)])) := by rw [eg1]; exact hM.same
  have hSo_g1 : mn_at g1 (mo + 4) (.inl (0, 4800, .inl (fun j => nI (sl j)))) := by rw [eg1]; exact hSo.off (by omega)
  have hSs_g1 : mn_at g1 (mo + 5) (.inl (0, 60, .inl (fun j => nI (ss j)))) := by rw [eg1]; exact hSs.off (by omega)
  refine mn_aload_n 0 dMo_slot_5 rfl rfl ?_
  refine mn_iload_n 1 dMo_slot_6 rfl rfl ?_
  refine mn_cV (d' := 1) (w' := 22) (As := [.int (nI k)]) (stk' := [.int 0]) okMo_noSlot lMo_130 dMo_slot_7 hM_g1 rfl rfl rfl rfl (Nat.le_of_ble_eq_true rfl) (Nat.le_of_ble_eq_true rfl) (by decide) (c_M_noSlot_n hM_g1 (k := k) (by omega)) rfl ?_
  refine mn_if_ne 22 dMo_slot_10 (by decide) (fun c2 => ?_) (fun c2 => ?_)
  · exact absurd c2 (by decide)
  · refine mn_iload_n 2 dMo_slot_13 rfl rfl ?_
    refine mn_iconst (v := 0) dMo_slot_14 (by decide) ?_
    refine mn_iconst (v := 5) dMo_slot_15 (by decide) ?_
    refine mn_cS (d' := 0) (w' := 0) (As := [.int 4, .int 0, .int 5]) (stk' := [.int 1]) okMo_in lMo_68 dMo_slot_16 rfl rfl (Nat.le_of_ble_eq_true rfl) (Nat.le_of_ble_eq_true rfl) (by decide) (c_M_in_y (by decide) (by decide)) rfl ?_
    refine mn_if_ne 24 dMo_slot_19 (by decide) (fun c3 => ?_) (fun c3 => ?_)
    · refine mn_aload_n 0 dMo_slot_24 rfl rfl ?_
      refine mn_iload_n 1 dMo_slot_25 rfl rfl ?_
      refine mn_cV (d' := 2) (w' := 45) (As := [.int (nI k)]) (stk' := [.int (nI (stN (sbS sl k) (ss k)))]) okMo_state lMo_137 dMo_slot_26 hM_g1 rfl rfl rfl rfl (Nat.le_of_ble_eq_true rfl) (Nat.le_of_ble_eq_true rfl) (by decide) (c_M_state hM_g1 hSo_g1 hSs_g1 hss hs20 hslb (s := k) (by omega)) rfl ?_
      refine mn_istore_n (ls' := [(0, .ref mo), (1, .int (nI k)), (2, .int 4), (3, .int (nI (stN (sbS sl k) (ss k))))]) dMo_slot_29 rfl (by decide) rfl ?_
      refine mn_iload_n 2 dMo_slot_30 rfl rfl ?_
      refine mn_if_ne 36 dMo_slot_31 (by decide) (fun c4 => ?_) (fun c4 => ?_)
      · refine mn_iload_n 2 dMo_slot_36 rfl rfl ?_
        refine mn_iconst (v := 5) dMo_slot_37 (by decide) ?_
        refine mn_icmp_ne 57 dMo_slot_38 (by decide) (fun c5 => ?_) (fun c5 => ?_)
        · refine mn_iload_n 3 dMo_slot_57 rfl rfl ?_
          refine mn_iconst (v := 1) dMo_slot_58 (by decide) ?_
          refine mn_iconst (v := 2) dMo_slot_59 (by decide) ?_
          refine mn_cS (d' := 0) (w' := 0) (As := [.int (nI (stN (sbS sl k) (ss k))), .int 1, .int 2]) (stk' := [.int 0]) okMo_in lMo_68 dMo_slot_60 rfl rfl (Nat.le_of_ble_eq_true rfl) (Nat.le_of_ble_eq_true rfl) (by decide) (c_M_in_n (hy.elim (fun q => Or.inl ((nI_ltI (a := stN (sbS sl k) (ss k)) (b := 1) (by omega) (by omega)).mpr q)) (fun q => Or.inr ((nI_ltI (a := 2) (b := stN (sbS sl k) (ss k)) (by omega) (by omega)).mpr q)))) rfl ?_
          refine mn_if_eq 82 dMo_slot_63 (by decide) (fun c6 => ?_) (fun c6 => ?_)
          · refine mn_bipush (v := (-2)) dMo_slot_82 (by decide) ?_
            exact mn_iret rfl dMo_slot_84 ⟨rfl, (mn_fr.rf.set eg1 (by show mo = mo; omega)), hM_g1⟩
          · exact absurd c6 (by decide)
        · exact absurd c5 (by decide)
      · exact absurd c4 (by decide)
    · exact absurd c3 (by decide)
set_option maxRecDepth 100000 in
theorem c_M_count0 {E : mn_En} {g : mn_H} {mo tl e sz rp st m r wd ag td om : Nat} {ir : Int32} (hM : mn_at g mo (.inr (11, [.int 0, .ref (mo + 1), .int (nI tl), .ref (mo + 2), .ref (mo + 3), .int (nI e), .int (nI sz), .int (nI rp), .int (nI st), .ref (mo + 4), .ref (mo + 5), .ref (mo + 6), .int ir, .int (nI m), .int (nI r), .int (nI wd), .int (nI ag), .ref (mo + 7), .ref (mo + 8), .ref (mo + 9), .ref (mo + 10), .int (nI td), .int (nI om), .ref (mo + 11), .ref (mo + 12), .ref (mo + 13), .ref (mo + 14), .ref (mo + 15), .ref (mo + 16)])))  : mn_R E MMo_count 3 68 0 0 0 [(0, .ref mo), (1, .int 0)] [] g (fun x g' => x = some (.int (nI (e))) ∧ mn_fr (fun q => q = mo) g g' ∧ mn_at g' mo (.inr (11, [.int 0, .ref (mo + 1), .int (nI tl), .ref (mo + 2), .ref (mo + 3), .int (nI e), .int (nI sz), .int (nI rp), .int (nI st), .ref (mo + 4), .ref (mo + 5), .ref (mo + 6), .int ir, .int (nI m), .int (nI r), .int (nI wd), .int (nI ag), .ref (mo + 7), .ref (mo + 8), .ref (mo + 9), .ref (mo + 10), .int (nI td), .int (nI om), .ref (mo + 11), .ref (mo + 12), .ref (mo + 13), .ref (mo + 14), .ref (mo + 15), .ref (mo + 16)]))) := by
  refine mn_aload_n 0 dMo_count_0 rfl rfl ?_
  refine mn_iconst (v := 0) dMo_count_1 (by decide) ?_
  refine mn_putf okMo 0 lMo_1 (by decide) rfl hM rfl rfl (Nat.le_of_ble_eq_true rfl) dMo_count_2 ?_
  obtain ⟨g1, eg1⟩ : ∃ gg_, gg_ = mn_set g mo (.inr (11, [.int 0, .ref (mo + 1), .int (nI tl), .ref (mo + 2), .ref (mo + 3), .int (nI e), .int (nI sz), .int (nI rp), .int (nI st), .ref (mo + 4), .ref (mo + 5), .ref (mo + 6), .int ir, .int (nI m), .int (nI r), .int (nI wd), .int (nI ag), .ref (mo + 7), .ref (mo + 8), .ref (mo + 9), .ref (mo + 10), .int (nI td), .int (nI om), .ref (mo + 11), .ref (mo + 12), .ref (mo + 13), .ref (mo + 14), .ref (mo + 15), .ref (mo + 16)])) := ⟨_, rfl⟩
  refine mn_R.toG eg1 ?_
  have hM_g1 : mn_at g1 mo (.inr (11, [.int 0, .ref (mo + 1), .int (nI tl), .ref (mo + 2), .ref (mo + 3), .int (nI e), .int (nI sz), .int (nI rp), .int (nI st), .ref (mo + 4), .ref (mo + 5), .ref (mo + 6), .int ir, .int (nI m), .int (nI r), .int (nI wd), .int (nI ag), .ref (mo + 7), .ref (mo + 8), .ref (mo + 9), .ref (mo + 10), .int (nI td), .int (nI om), .ref (mo + 11), .ref (mo + 12), .ref (mo + 13), .ref (mo + 14), .ref (mo + 15), .ref (mo + 16)])) := by rw [eg1]; exact hM.same
  refine mn_iconst (v := 0) dMo_count_5 (by decide) ?_
  refine mn_istore_n (ls' := [(0, .ref mo), (1, .int 0), (2, .int 0)]) dMo_count_6 rfl (by decide) rfl ?_
  refine mn_iload_n 1 dMo_count_7 rfl rfl ?_
  refine mn_tableIn (off := 52) 60 dMo_count_8 (by decide) (by decide) (by decide) (by decide) ?_
  refine mn_aload_n 0 dMo_count_60 rfl rfl ?_
  refine mn_get okMo 5 lMo_77 (by decide) hM_g1 rfl dMo_count_61 ?_
  exact mn_iret rfl dMo_count_64 ⟨rfl, (mn_fr.rf.set eg1 (by show mo = mo; omega)), hM_g1⟩
set_option maxRecDepth 100000 in
theorem c_M_count1 {E : mn_En} {g : mn_H} {mo tl e sz rp st m r wd ag td om : Nat} {ir : Int32} {bg : Nat → Nat} (hM : mn_at g mo (.inr (11, [.int 0, .ref (mo + 1), .int (nI tl), .ref (mo + 2), .ref (mo + 3), .int (nI e), .int (nI sz), .int (nI rp), .int (nI st), .ref (mo + 4), .ref (mo + 5), .ref (mo + 6), .int ir, .int (nI m), .int (nI r), .int (nI wd), .int (nI ag), .ref (mo + 7), .ref (mo + 8), .ref (mo + 9), .ref (mo + 10), .int (nI td), .int (nI om), .ref (mo + 11), .ref (mo + 12), .ref (mo + 13), .ref (mo + 14), .ref (mo + 15), .ref (mo + 16)]))) (hBg : mn_at g (mo + 3) (.inl (0, 21, .inl (fun j => nI (bg j))))) (he : e ≤ 20) : mn_R E MMo_count 3 68 0 0 0 [(0, .ref mo), (1, .int 1)] [] g (fun x g' => x = some (.int (nI (bg e))) ∧ mn_fr (fun q => q = mo) g g' ∧ mn_at g' mo (.inr (11, [.int 0, .ref (mo + 1), .int (nI tl), .ref (mo + 2), .ref (mo + 3), .int (nI e), .int (nI sz), .int (nI rp), .int (nI st), .ref (mo + 4), .ref (mo + 5), .ref (mo + 6), .int ir, .int (nI m), .int (nI r), .int (nI wd), .int (nI ag), .ref (mo + 7), .ref (mo + 8), .ref (mo + 9), .ref (mo + 10), .int (nI td), .int (nI om), .ref (mo + 11), .ref (mo + 12), .ref (mo + 13), .ref (mo + 14), .ref (mo + 15), .ref (mo + 16)]))) := by
  refine mn_aload_n 0 dMo_count_0 rfl rfl ?_
  refine mn_iconst (v := 0) dMo_count_1 (by decide) ?_
  refine mn_putf okMo 0 lMo_1 (by decide) rfl hM rfl rfl (Nat.le_of_ble_eq_true rfl) dMo_count_2 ?_
  obtain ⟨g1, eg1⟩ : ∃ gg_, gg_ = mn_set g mo (.inr (11, [.int 0, .ref (mo + 1), .int (nI tl), .ref (mo + 2), .ref (mo + 3), .int (nI e), .int (nI sz), .int (nI rp), .int (nI st), .ref (mo + 4), .ref (mo + 5), .ref (mo + 6), .int ir, .int (nI m), .int (nI r), .int (nI wd), .int (nI ag), .ref (mo + 7), .ref (mo + 8), .ref (mo + 9), .ref (mo + 10), .int (nI td), .int (nI om), .ref (mo + 11), .ref (mo + 12), .ref (mo + 13), .ref (mo + 14), .ref (mo + 15), .ref (mo + 16)])) := ⟨_, rfl⟩
  refine mn_R.toG eg1 ?_
  have hM_g1 : mn_at g1 mo (.inr (11, [.int 0, .ref (mo + 1), .int (nI tl), .ref (mo + 2), .ref (mo + 3), .int (nI e), .int (nI sz), .int (nI rp), .int (nI st), .ref (mo + 4), .ref (mo + 5), .ref (mo + 6), .int ir, .int (nI m), .int (nI r), .int (nI wd), .int (nI ag), .ref (mo + 7), .ref (mo + 8), .ref (mo + 9), .ref (mo + 10), .int (nI td), .int (nI om), .ref (mo + 11), .ref (mo + 12), .ref (mo + 13), .ref (mo + 14), .ref (mo + 15), .ref (mo + 16)])) := by rw [eg1]; exact hM.same
  have hBg_g1 : mn_at g1 (mo + 3) (.inl (0, 21, .inl (fun j => nI (bg j)))) := by rw [eg1]; exact hBg.off (by omega)
  refine mn_iconst (v := 0) dMo_count_5 (by decide) ?_
  refine mn_istore_n (ls' := [(0, .ref mo), (1, .int 1), (2, .int 0)]) dMo_count_6 rfl (by decide) rfl ?_
  refine mn_iload_n 1 dMo_count_7 rfl rfl ?_
  refine mn_tableIn (off := 57) 65 dMo_count_8 (by decide) (by decide) (by decide) (by decide) ?_
  refine mn_aload_n 0 dMo_count_65 rfl rfl ?_
  refine mn_cV (d' := 0) (w' := 0) (As := []) (stk' := [.int (nI (bg e))]) okMo_length lMo_90 dMo_count_66 hM_g1 rfl rfl rfl rfl (Nat.le_of_ble_eq_true rfl) (Nat.le_of_ble_eq_true rfl) (by decide) (c_M_length hM_g1 hBg_g1 he) rfl ?_
  exact mn_iret rfl dMo_count_69 ⟨rfl, (mn_fr.rf.set eg1 (by show mo = mo; omega)), hM_g1⟩
set_option maxRecDepth 100000 in
theorem c_M_count2 {E : mn_En} {g : mn_H} {mo tl e sz rp st m r wd ag td om : Nat} {ir : Int32} (hM : mn_at g mo (.inr (11, [.int 0, .ref (mo + 1), .int (nI tl), .ref (mo + 2), .ref (mo + 3), .int (nI e), .int (nI sz), .int (nI rp), .int (nI st), .ref (mo + 4), .ref (mo + 5), .ref (mo + 6), .int ir, .int (nI m), .int (nI r), .int (nI wd), .int (nI ag), .ref (mo + 7), .ref (mo + 8), .ref (mo + 9), .ref (mo + 10), .int (nI td), .int (nI om), .ref (mo + 11), .ref (mo + 12), .ref (mo + 13), .ref (mo + 14), .ref (mo + 15), .ref (mo + 16)])))  : mn_R E MMo_count 3 68 0 0 0 [(0, .ref mo), (1, .int 2)] [] g (fun x g' => x = some (.int (nI (tl))) ∧ mn_fr (fun q => q = mo) g g' ∧ mn_at g' mo (.inr (11, [.int 0, .ref (mo + 1), .int (nI tl), .ref (mo + 2), .ref (mo + 3), .int (nI e), .int (nI sz), .int (nI rp), .int (nI st), .ref (mo + 4), .ref (mo + 5), .ref (mo + 6), .int ir, .int (nI m), .int (nI r), .int (nI wd), .int (nI ag), .ref (mo + 7), .ref (mo + 8), .ref (mo + 9), .ref (mo + 10), .int (nI td), .int (nI om), .ref (mo + 11), .ref (mo + 12), .ref (mo + 13), .ref (mo + 14), .ref (mo + 15), .ref (mo + 16)]))) := by
  refine mn_aload_n 0 dMo_count_0 rfl rfl ?_
  refine mn_iconst (v := 0) dMo_count_1 (by decide) ?_
  refine mn_putf okMo 0 lMo_1 (by decide) rfl hM rfl rfl (Nat.le_of_ble_eq_true rfl) dMo_count_2 ?_
  obtain ⟨g1, eg1⟩ : ∃ gg_, gg_ = mn_set g mo (.inr (11, [.int 0, .ref (mo + 1), .int (nI tl), .ref (mo + 2), .ref (mo + 3), .int (nI e), .int (nI sz), .int (nI rp), .int (nI st), .ref (mo + 4), .ref (mo + 5), .ref (mo + 6), .int ir, .int (nI m), .int (nI r), .int (nI wd), .int (nI ag), .ref (mo + 7), .ref (mo + 8), .ref (mo + 9), .ref (mo + 10), .int (nI td), .int (nI om), .ref (mo + 11), .ref (mo + 12), .ref (mo + 13), .ref (mo + 14), .ref (mo + 15), .ref (mo + 16)])) := ⟨_, rfl⟩
  refine mn_R.toG eg1 ?_
  have hM_g1 : mn_at g1 mo (.inr (11, [.int 0, .ref (mo + 1), .int (nI tl), .ref (mo + 2), .ref (mo + 3), .int (nI e), .int (nI sz), .int (nI rp), .int (nI st), .ref (mo + 4), .ref (mo + 5), .ref (mo + 6), .int ir, .int (nI m), .int (nI r), .int (nI wd), .int (nI ag), .ref (mo + 7), .ref (mo + 8), .ref (mo + 9), .ref (mo + 10), .int (nI td), .int (nI om), .ref (mo + 11), .ref (mo + 12), .ref (mo + 13), .ref (mo + 14), .ref (mo + 15), .ref (mo + 16)])) := by rw [eg1]; exact hM.same
  refine mn_iconst (v := 0) dMo_count_5 (by decide) ?_
  refine mn_istore_n (ls' := [(0, .ref mo), (1, .int 2), (2, .int 0)]) dMo_count_6 rfl (by decide) rfl ?_
  refine mn_iload_n 1 dMo_count_7 rfl rfl ?_
  refine mn_tableIn (off := 62) 70 dMo_count_8 (by decide) (by decide) (by decide) (by decide) ?_
  refine mn_aload_n 0 dMo_count_70 rfl rfl ?_
  refine mn_get okMo 2 lMo_65 (by decide) hM_g1 rfl dMo_count_71 ?_
  exact mn_iret rfl dMo_count_74 ⟨rfl, (mn_fr.rf.set eg1 (by show mo = mo; omega)), hM_g1⟩
set_option maxRecDepth 100000 in
theorem c_M_count3 {E : mn_En} {g : mn_H} {mo tl e sz rp st m r wd ag td om : Nat} {ir : Int32} {ss : Nat → Nat} (hM : mn_at g mo (.inr (11, [.int 0, .ref (mo + 1), .int (nI tl), .ref (mo + 2), .ref (mo + 3), .int (nI e), .int (nI sz), .int (nI rp), .int (nI st), .ref (mo + 4), .ref (mo + 5), .ref (mo + 6), .int ir, .int (nI m), .int (nI r), .int (nI wd), .int (nI ag), .ref (mo + 7), .ref (mo + 8), .ref (mo + 9), .ref (mo + 10), .int (nI td), .int (nI om), .ref (mo + 11), .ref (mo + 12), .ref (mo + 13), .ref (mo + 14), .ref (mo + 15), .ref (mo + 16)]))) (hSs : mn_at g (mo + 5) (.inl (0, 60, .inl (fun j => nI (ss j))))) (hss : ∀ k, ss k ≤ 80) : mn_R E MMo_count 3 68 0 0 0 [(0, .ref mo), (1, .int 3)] [] g (fun x g' => x = some (.int (nI (60 - cnt (fun k => ss k = 0) 60))) ∧ mn_fr (fun q => q = mo) g g' ∧ mn_at g' mo (.inr (11, [.int 0, .ref (mo + 1), .int (nI tl), .ref (mo + 2), .ref (mo + 3), .int (nI e), .int (nI sz), .int (nI rp), .int (nI st), .ref (mo + 4), .ref (mo + 5), .ref (mo + 6), .int ir, .int (nI m), .int (nI r), .int (nI wd), .int (nI ag), .ref (mo + 7), .ref (mo + 8), .ref (mo + 9), .ref (mo + 10), .int (nI td), .int (nI om), .ref (mo + 11), .ref (mo + 12), .ref (mo + 13), .ref (mo + 14), .ref (mo + 15), .ref (mo + 16)]))) := by
  have hec := cnt_le (fun k => ss k = 0) 60
  refine mn_aload_n 0 dMo_count_0 rfl rfl ?_
  refine mn_iconst (v := 0) dMo_count_1 (by decide) ?_
  refine mn_putf okMo 0 lMo_1 (by decide) rfl hM rfl rfl (Nat.le_of_ble_eq_true rfl) dMo_count_2 ?_
  obtain ⟨g1, eg1⟩ : ∃ gg_, gg_ = mn_set g mo (.inr (11, [.int 0, .ref (mo + 1), .int (nI tl), .ref (mo + 2), .ref (mo + 3), .int (nI e), .int (nI sz), .int (nI rp), .int (nI st), .ref (mo + 4), .ref (mo + 5), .ref (mo + 6), .int ir, .int (nI m), .int (nI r), .int (nI wd), .int (nI ag), .ref (mo + 7), .ref (mo + 8), .ref (mo + 9), .ref (mo + 10), .int (nI td), .int (nI om), .ref (mo + 11), .ref (mo + 12), .ref (mo + 13), .ref (mo + 14), .ref (mo + 15), .ref (mo + 16)])) := ⟨_, rfl⟩
  refine mn_R.toG eg1 ?_
  have hM_g1 : mn_at g1 mo (.inr (11, [.int 0, .ref (mo + 1), .int (nI tl), .ref (mo + 2), .ref (mo + 3), .int (nI e), .int (nI sz), .int (nI rp), .int (nI st), .ref (mo + 4), .ref (mo + 5), .ref (mo + 6), .int ir, .int (nI m), .int (nI r), .int (nI wd), .int (nI ag), .ref (mo + 7), .ref (mo + 8), .ref (mo + 9), .ref (mo + 10), .int (nI td), .int (nI om), .ref (mo + 11), .ref (mo + 12), .ref (mo + 13), .ref (mo + 14), .ref (mo + 15), .ref (mo + 16)])) := by rw [eg1]; exact hM.same
  have hSs_g1 : mn_at g1 (mo + 5) (.inl (0, 60, .inl (fun j => nI (ss j)))) := by rw [eg1]; exact hSs.off (by omega)
  refine mn_iconst (v := 0) dMo_count_5 (by decide) ?_
  refine mn_istore_n (ls' := [(0, .ref mo), (1, .int 3), (2, .int 0)]) dMo_count_6 rfl (by decide) rfl ?_
  refine mn_iload_n 1 dMo_count_7 rfl rfl ?_
  refine mn_tableIn (off := 67) 75 dMo_count_8 (by decide) (by decide) (by decide) (by decide) ?_
  refine mn_bipush (v := 60) dMo_count_75 (by decide) ?_
  refine mn_aload_n 0 dMo_count_77 rfl rfl ?_
  refine mn_cV (d' := 0) (w' := 0) (As := []) (stk' := [.int (nI (cnt (fun k => ss k = 0) 60)), .int 60]) okMo_emptySlots lMo_124 dMo_count_78 hM_g1 rfl rfl rfl rfl (Nat.le_of_ble_eq_true rfl) (Nat.le_of_ble_eq_true rfl) (by decide) (c_M_empty hM_g1 hSs_g1 hss) rfl ?_
  refine mn_isub (z := nI (60 - (cnt (fun k => ss k = 0) 60))) dMo_count_81 (pk_sub (a := 60) (b := cnt (fun k => ss k = 0) 60) (by omega)) ?_
  exact mn_iret rfl dMo_count_82 ⟨rfl, (mn_fr.rf.set eg1 (by show mo = mo; omega)), hM_g1⟩
set_option maxRecDepth 100000 in
theorem c_M_count4_l {E : mn_En} {g : mn_H} {mo tl e sz rp st m r wd ag td om : Nat} {ir : Int32} {sl ss : Nat → Nat} (hM : mn_at g mo (.inr (11, [.int 0, .ref (mo + 1), .int (nI tl), .ref (mo + 2), .ref (mo + 3), .int (nI e), .int (nI sz), .int (nI rp), .int (nI st), .ref (mo + 4), .ref (mo + 5), .ref (mo + 6), .int ir, .int (nI m), .int (nI r), .int (nI wd), .int (nI ag), .ref (mo + 7), .ref (mo + 8), .ref (mo + 9), .ref (mo + 10), .int (nI td), .int (nI om), .ref (mo + 11), .ref (mo + 12), .ref (mo + 13), .ref (mo + 14), .ref (mo + 15), .ref (mo + 16)]))) (hSo : mn_at g (mo + 4) (.inl (0, 4800, .inl (fun j => nI (sl j))))) (hSs : mn_at g (mo + 5) (.inl (0, 60, .inl (fun j => nI (ss j))))) (hss : ∀ k, ss k ≤ 80) (hs20 : ∀ k, ss k = 0 ∨ 20 ≤ ss k) (hslb : ∀ j, sl j < 256) : ∀ (fu s : Nat), s ≤ 60 → 60 - s < fu → mn_R E MMo_count 3 68 0 0 85 [(0, .ref mo), (1, .int 4), (2, .int (nI (cnt (fun k => stN (sbS sl k) (ss k) = 1) s))), (3, .int (nI s))] [] g (mn_is (some (.int (nI (cnt (fun k => stN (sbS sl k) (ss k) = 1) 60)))) g) := by
  intro fu
  induction fu with
  | zero => intro s h1 h2; exact absurd h2 (by omega)
  | succ fu ih =>
    intro s h1 h2
    have hstl := stN_lt (sbS sl s) (ss s)
    have hcn := cnt_le (fun k => stN (sbS sl k) (ss k) = 1) s
    refine mn_iload_n 3 dMo_count_85 rfl rfl ?_
    refine mn_bipush (v := 60) dMo_count_86 (by decide) ?_
    refine mn_icmp_ge 116 dMo_count_88 (by decide) (fun c1 => ?_) (fun c1 => ?_)
    · have c1 := (nI_leI (a := 60) (b := s) (by omega) (by omega)).mp c1
      refine mn_iload_n 2 dMo_count_116 rfl rfl ?_
      exact mn_iret rfl dMo_count_117 ⟨by rw [show s = 60 by omega], rfl⟩
    · have c1 := mt (nI_leI (a := 60) (b := s) (by omega) (by omega)).mpr c1
      refine mn_aload_n 0 dMo_count_91 rfl rfl ?_
      refine mn_iload_n 3 dMo_count_92 rfl rfl ?_
      refine mn_cV (d' := 2) (w' := 45) (As := [.int (nI s)]) (stk' := [.int (nI (stN (sbS sl s) (ss s)))]) okMo_state lMo_137 dMo_count_93 hM rfl rfl rfl rfl (Nat.le_of_ble_eq_true rfl) (Nat.le_of_ble_eq_true rfl) (by decide) (c_M_state hM hSo hSs hss hs20 hslb (s := s) (by omega)) rfl ?_
      refine mn_iload_n 1 dMo_count_96 rfl rfl ?_
      refine mn_iconst (v := 3) dMo_count_97 (by decide) ?_
      refine mn_isub (z := 1) dMo_count_98 (by decide) ?_
      refine mn_icmp_ne 108 dMo_count_99 (by decide) (fun c2 => ?_) (fun c2 => ?_)
      · have c2 := mt (nI_eq (a := (stN (sbS sl s) (ss s))) (b := 1) (by omega) (by omega)).mpr c2
        refine mn_iload_n 2 dMo_count_108 rfl rfl ?_
        refine mn_istore_n (ls' := [(0, .ref mo), (1, .int 4), (2, .int (nI (cnt (fun k => stN (sbS sl k) (ss k) = 1) s))), (3, .int (nI s))]) dMo_count_109 rfl (by decide) rfl ?_
        refine mn_iinc (v := nI (s + 1)) (ls' := [(0, .ref mo), (1, .int 4), (2, .int (nI (cnt (fun k => stN (sbS sl k) (ss k) = 1) s))), (3, .int (nI (s + 1)))]) 3 dMo_count_110 rfl (nI_add s 1) (by decide) rfl ?_
        refine mn_goto 85 dMo_count_113 (by decide) ?_
        rw [← cnt_n (P := (fun k => stN (sbS sl k) (ss k) = 1)) (k := s) c2]
        exact ih (s + 1) (by omega) (by omega)
      · have c2 := (nI_eq (a := (stN (sbS sl s) (ss s))) (b := 1) (by omega) (by omega)).mp c2
        refine mn_iload_n 2 dMo_count_102 rfl rfl ?_
        refine mn_iconst (v := 1) dMo_count_103 (by decide) ?_
        refine mn_iadd (z := nI (cnt (fun k => stN (sbS sl k) (ss k) = 1) s + 1)) dMo_count_104 (nI_add (cnt (fun k => stN (sbS sl k) (ss k) = 1) s) 1) ?_
        refine mn_goto 109 dMo_count_105 (by decide) ?_
        refine mn_istore_n (ls' := [(0, .ref mo), (1, .int 4), (2, .int (nI (cnt (fun k => stN (sbS sl k) (ss k) = 1) s + 1))), (3, .int (nI s))]) dMo_count_109 rfl (by decide) rfl ?_
        refine mn_iinc (v := nI (s + 1)) (ls' := [(0, .ref mo), (1, .int 4), (2, .int (nI (cnt (fun k => stN (sbS sl k) (ss k) = 1) s + 1))), (3, .int (nI (s + 1)))]) 3 dMo_count_110 rfl (nI_add s 1) (by decide) rfl ?_
        refine mn_goto 85 dMo_count_113 (by decide) ?_
        rw [← cnt_y (P := (fun k => stN (sbS sl k) (ss k) = 1)) (k := s) c2]
        exact ih (s + 1) (by omega) (by omega)
set_option maxRecDepth 100000 in
theorem c_M_count4 {E : mn_En} {g : mn_H} {mo tl e sz rp st m r wd ag td om : Nat} {ir : Int32} {sl ss : Nat → Nat} (hM : mn_at g mo (.inr (11, [.int 0, .ref (mo + 1), .int (nI tl), .ref (mo + 2), .ref (mo + 3), .int (nI e), .int (nI sz), .int (nI rp), .int (nI st), .ref (mo + 4), .ref (mo + 5), .ref (mo + 6), .int ir, .int (nI m), .int (nI r), .int (nI wd), .int (nI ag), .ref (mo + 7), .ref (mo + 8), .ref (mo + 9), .ref (mo + 10), .int (nI td), .int (nI om), .ref (mo + 11), .ref (mo + 12), .ref (mo + 13), .ref (mo + 14), .ref (mo + 15), .ref (mo + 16)]))) (hSo : mn_at g (mo + 4) (.inl (0, 4800, .inl (fun j => nI (sl j))))) (hSs : mn_at g (mo + 5) (.inl (0, 60, .inl (fun j => nI (ss j))))) (hss : ∀ k, ss k ≤ 80) (hs20 : ∀ k, ss k = 0 ∨ 20 ≤ ss k) (hslb : ∀ j, sl j < 256) : mn_R E MMo_count 3 68 0 0 0 [(0, .ref mo), (1, .int 4)] [] g (fun x g' => x = some (.int (nI (cnt (fun k => stN (sbS sl k) (ss k) = 1) 60))) ∧ mn_fr (fun q => q = mo) g g' ∧ mn_at g' mo (.inr (11, [.int 0, .ref (mo + 1), .int (nI tl), .ref (mo + 2), .ref (mo + 3), .int (nI e), .int (nI sz), .int (nI rp), .int (nI st), .ref (mo + 4), .ref (mo + 5), .ref (mo + 6), .int ir, .int (nI m), .int (nI r), .int (nI wd), .int (nI ag), .ref (mo + 7), .ref (mo + 8), .ref (mo + 9), .ref (mo + 10), .int (nI td), .int (nI om), .ref (mo + 11), .ref (mo + 12), .ref (mo + 13), .ref (mo + 14), .ref (mo + 15), .ref (mo + 16)]))) := by
  refine mn_aload_n 0 dMo_count_0 rfl rfl ?_
  refine mn_iconst (v := 0) dMo_count_1 (by decide) ?_
  refine mn_putf okMo 0 lMo_1 (by decide) rfl hM rfl rfl (Nat.le_of_ble_eq_true rfl) dMo_count_2 ?_
  obtain ⟨g1, eg1⟩ : ∃ gg_, gg_ = mn_set g mo (.inr (11, [.int 0, .ref (mo + 1), .int (nI tl), .ref (mo + 2), .ref (mo + 3), .int (nI e), .int (nI sz), .int (nI rp), .int (nI st), .ref (mo + 4), .ref (mo + 5), .ref (mo + 6), .int ir, .int (nI m), .int (nI r), .int (nI wd), .int (nI ag), .ref (mo + 7), .ref (mo + 8), .ref (mo + 9), .ref (mo + 10), .int (nI td), .int (nI om), .ref (mo + 11), .ref (mo + 12), .ref (mo + 13), .ref (mo + 14), .ref (mo + 15), .ref (mo + 16)])) := ⟨_, rfl⟩
  refine mn_R.toG eg1 ?_
  have hM_g1 : mn_at g1 mo (.inr (11, [.int 0, .ref (mo + 1), .int (nI tl), .ref (mo + 2), .ref (mo + 3), .int (nI e), .int (nI sz), .int (nI rp), .int (nI st), .ref (mo + 4), .ref (mo + 5), .ref (mo + 6), .int ir, .int (nI m), .int (nI r), .int (nI wd), .int (nI ag), .ref (mo + 7), .ref (mo + 8), .ref (mo + 9), .ref (mo + 10), .int (nI td), .int (nI om), .ref (mo + 11), .ref (mo + 12), .ref (mo + 13), .ref (mo + 14), .ref (mo + 15), .ref (mo + 16)])) := by rw [eg1]; exact hM.same
  have hSo_g1 : mn_at g1 (mo + 4) (.inl (0, 4800, .inl (fun j => nI (sl j)))) := by rw [eg1]; exact hSo.off (by omega)
  have hSs_g1 : mn_at g1 (mo + 5) (.inl (0, 60, .inl (fun j => nI (ss j)))) := by rw [eg1]; exact hSs.off (by omega)
  refine mn_iconst (v := 0) dMo_count_5 (by decide) ?_
  refine mn_istore_n (ls' := [(0, .ref mo), (1, .int 4), (2, .int 0)]) dMo_count_6 rfl (by decide) rfl ?_
  refine mn_iload_n 1 dMo_count_7 rfl rfl ?_
  refine mn_tableIn (off := 75) 83 dMo_count_8 (by decide) (by decide) (by decide) (by decide) ?_
  refine mn_iconst (v := 0) dMo_count_83 (by decide) ?_
  refine mn_istore_n (ls' := [(0, .ref mo), (1, .int 4), (2, .int 0), (3, .int 0)]) dMo_count_84 rfl (by decide) rfl ?_
  refine mn_R.post (c_M_count4_l hM_g1 hSo_g1 hSs_g1 hss hs20 hslb 61 0 (by omega) (by omega)) (fun x g' hq => ⟨hq.1, by rw [hq.2]; exact (mn_fr.rf.set eg1 (by show mo = mo; omega)), by rw [hq.2]; exact hM_g1⟩)
set_option maxRecDepth 100000 in
theorem c_M_count5_l {E : mn_En} {g : mn_H} {mo tl e sz rp st m r wd ag td om : Nat} {ir : Int32} {sl ss : Nat → Nat} (hM : mn_at g mo (.inr (11, [.int 0, .ref (mo + 1), .int (nI tl), .ref (mo + 2), .ref (mo + 3), .int (nI e), .int (nI sz), .int (nI rp), .int (nI st), .ref (mo + 4), .ref (mo + 5), .ref (mo + 6), .int ir, .int (nI m), .int (nI r), .int (nI wd), .int (nI ag), .ref (mo + 7), .ref (mo + 8), .ref (mo + 9), .ref (mo + 10), .int (nI td), .int (nI om), .ref (mo + 11), .ref (mo + 12), .ref (mo + 13), .ref (mo + 14), .ref (mo + 15), .ref (mo + 16)]))) (hSo : mn_at g (mo + 4) (.inl (0, 4800, .inl (fun j => nI (sl j))))) (hSs : mn_at g (mo + 5) (.inl (0, 60, .inl (fun j => nI (ss j))))) (hss : ∀ k, ss k ≤ 80) (hs20 : ∀ k, ss k = 0 ∨ 20 ≤ ss k) (hslb : ∀ j, sl j < 256) : ∀ (fu s : Nat), s ≤ 60 → 60 - s < fu → mn_R E MMo_count 3 68 0 0 85 [(0, .ref mo), (1, .int 5), (2, .int (nI (cnt (fun k => stN (sbS sl k) (ss k) = 2) s))), (3, .int (nI s))] [] g (mn_is (some (.int (nI (cnt (fun k => stN (sbS sl k) (ss k) = 2) 60)))) g) := by
  intro fu
  induction fu with
  | zero => intro s h1 h2; exact absurd h2 (by omega)
  | succ fu ih =>
    intro s h1 h2
    have hstl := stN_lt (sbS sl s) (ss s)
    have hcn := cnt_le (fun k => stN (sbS sl k) (ss k) = 2) s
    refine mn_iload_n 3 dMo_count_85 rfl rfl ?_
    refine mn_bipush (v := 60) dMo_count_86 (by decide) ?_
    refine mn_icmp_ge 116 dMo_count_88 (by decide) (fun c1 => ?_) (fun c1 => ?_)
    · have c1 := (nI_leI (a := 60) (b := s) (by omega) (by omega)).mp c1
      refine mn_iload_n 2 dMo_count_116 rfl rfl ?_
      exact mn_iret rfl dMo_count_117 ⟨by rw [show s = 60 by omega], rfl⟩
    · have c1 := mt (nI_leI (a := 60) (b := s) (by omega) (by omega)).mpr c1
      refine mn_aload_n 0 dMo_count_91 rfl rfl ?_
      refine mn_iload_n 3 dMo_count_92 rfl rfl ?_
      refine mn_cV (d' := 2) (w' := 45) (As := [.int (nI s)]) (stk' := [.int (nI (stN (sbS sl s) (ss s)))]) okMo_state lMo_137 dMo_count_93 hM rfl rfl rfl rfl (Nat.le_of_ble_eq_true rfl) (Nat.le_of_ble_eq_true rfl) (by decide) (c_M_state hM hSo hSs hss hs20 hslb (s := s) (by omega)) rfl ?_
      refine mn_iload_n 1 dMo_count_96 rfl rfl ?_
      refine mn_iconst (v := 3) dMo_count_97 (by decide) ?_
      refine mn_isub (z := 2) dMo_count_98 (by decide) ?_
      refine mn_icmp_ne 108 dMo_count_99 (by decide) (fun c2 => ?_) (fun c2 => ?_)
      · have c2 := mt (nI_eq (a := (stN (sbS sl s) (ss s))) (b := 2) (by omega) (by omega)).mpr c2
        refine mn_iload_n 2 dMo_count_108 rfl rfl ?_
        refine mn_istore_n (ls' := [(0, .ref mo), (1, .int 5), (2, .int (nI (cnt (fun k => stN (sbS sl k) (ss k) = 2) s))), (3, .int (nI s))]) dMo_count_109 rfl (by decide) rfl ?_
        refine mn_iinc (v := nI (s + 1)) (ls' := [(0, .ref mo), (1, .int 5), (2, .int (nI (cnt (fun k => stN (sbS sl k) (ss k) = 2) s))), (3, .int (nI (s + 1)))]) 3 dMo_count_110 rfl (nI_add s 1) (by decide) rfl ?_
        refine mn_goto 85 dMo_count_113 (by decide) ?_
        rw [← cnt_n (P := (fun k => stN (sbS sl k) (ss k) = 2)) (k := s) c2]
        exact ih (s + 1) (by omega) (by omega)
      · have c2 := (nI_eq (a := (stN (sbS sl s) (ss s))) (b := 2) (by omega) (by omega)).mp c2
        refine mn_iload_n 2 dMo_count_102 rfl rfl ?_
        refine mn_iconst (v := 1) dMo_count_103 (by decide) ?_
        refine mn_iadd (z := nI (cnt (fun k => stN (sbS sl k) (ss k) = 2) s + 1)) dMo_count_104 (nI_add (cnt (fun k => stN (sbS sl k) (ss k) = 2) s) 1) ?_
        refine mn_goto 109 dMo_count_105 (by decide) ?_
        refine mn_istore_n (ls' := [(0, .ref mo), (1, .int 5), (2, .int (nI (cnt (fun k => stN (sbS sl k) (ss k) = 2) s + 1))), (3, .int (nI s))]) dMo_count_109 rfl (by decide) rfl ?_
        refine mn_iinc (v := nI (s + 1)) (ls' := [(0, .ref mo), (1, .int 5), (2, .int (nI (cnt (fun k => stN (sbS sl k) (ss k) = 2) s + 1))), (3, .int (nI (s + 1)))]) 3 dMo_count_110 rfl (nI_add s 1) (by decide) rfl ?_
        refine mn_goto 85 dMo_count_113 (by decide) ?_
        rw [← cnt_y (P := (fun k => stN (sbS sl k) (ss k) = 2)) (k := s) c2]
        exact ih (s + 1) (by omega) (by omega)
set_option maxRecDepth 100000 in
theorem c_M_count5 {E : mn_En} {g : mn_H} {mo tl e sz rp st m r wd ag td om : Nat} {ir : Int32} {sl ss : Nat → Nat} (hM : mn_at g mo (.inr (11, [.int 0, .ref (mo + 1), .int (nI tl), .ref (mo + 2), .ref (mo + 3), .int (nI e), .int (nI sz), .int (nI rp), .int (nI st), .ref (mo + 4), .ref (mo + 5), .ref (mo + 6), .int ir, .int (nI m), .int (nI r), .int (nI wd), .int (nI ag), .ref (mo + 7), .ref (mo + 8), .ref (mo + 9), .ref (mo + 10), .int (nI td), .int (nI om), .ref (mo + 11), .ref (mo + 12), .ref (mo + 13), .ref (mo + 14), .ref (mo + 15), .ref (mo + 16)]))) (hSo : mn_at g (mo + 4) (.inl (0, 4800, .inl (fun j => nI (sl j))))) (hSs : mn_at g (mo + 5) (.inl (0, 60, .inl (fun j => nI (ss j))))) (hss : ∀ k, ss k ≤ 80) (hs20 : ∀ k, ss k = 0 ∨ 20 ≤ ss k) (hslb : ∀ j, sl j < 256) : mn_R E MMo_count 3 68 0 0 0 [(0, .ref mo), (1, .int 5)] [] g (fun x g' => x = some (.int (nI (cnt (fun k => stN (sbS sl k) (ss k) = 2) 60))) ∧ mn_fr (fun q => q = mo) g g' ∧ mn_at g' mo (.inr (11, [.int 0, .ref (mo + 1), .int (nI tl), .ref (mo + 2), .ref (mo + 3), .int (nI e), .int (nI sz), .int (nI rp), .int (nI st), .ref (mo + 4), .ref (mo + 5), .ref (mo + 6), .int ir, .int (nI m), .int (nI r), .int (nI wd), .int (nI ag), .ref (mo + 7), .ref (mo + 8), .ref (mo + 9), .ref (mo + 10), .int (nI td), .int (nI om), .ref (mo + 11), .ref (mo + 12), .ref (mo + 13), .ref (mo + 14), .ref (mo + 15), .ref (mo + 16)]))) := by
  refine mn_aload_n 0 dMo_count_0 rfl rfl ?_
  refine mn_iconst (v := 0) dMo_count_1 (by decide) ?_
  refine mn_putf okMo 0 lMo_1 (by decide) rfl hM rfl rfl (Nat.le_of_ble_eq_true rfl) dMo_count_2 ?_
  obtain ⟨g1, eg1⟩ : ∃ gg_, gg_ = mn_set g mo (.inr (11, [.int 0, .ref (mo + 1), .int (nI tl), .ref (mo + 2), .ref (mo + 3), .int (nI e), .int (nI sz), .int (nI rp), .int (nI st), .ref (mo + 4), .ref (mo + 5), .ref (mo + 6), .int ir, .int (nI m), .int (nI r), .int (nI wd), .int (nI ag), .ref (mo + 7), .ref (mo + 8), .ref (mo + 9), .ref (mo + 10), .int (nI td), .int (nI om), .ref (mo + 11), .ref (mo + 12), .ref (mo + 13), .ref (mo + 14), .ref (mo + 15), .ref (mo + 16)])) := ⟨_, rfl⟩
  refine mn_R.toG eg1 ?_
  have hM_g1 : mn_at g1 mo (.inr (11, [.int 0, .ref (mo + 1), .int (nI tl), .ref (mo + 2), .ref (mo + 3), .int (nI e), .int (nI sz), .int (nI rp), .int (nI st), .ref (mo + 4), .ref (mo + 5), .ref (mo + 6), .int ir, .int (nI m), .int (nI r), .int (nI wd), .int (nI ag), .ref (mo + 7), .ref (mo + 8), .ref (mo + 9), .ref (mo + 10), .int (nI td), .int (nI om), .ref (mo + 11), .ref (mo + 12), .ref (mo + 13), .ref (mo + 14), .ref (mo + 15), .ref (mo + 16)])) := by rw [eg1]; exact hM.same
  have hSo_g1 : mn_at g1 (mo + 4) (.inl (0, 4800, .inl (fun j => nI (sl j)))) := by rw [eg1]; exact hSo.off (by omega)
  have hSs_g1 : mn_at g1 (mo + 5) (.inl (0, 60, .inl (fun j => nI (ss j)))) := by rw [eg1]; exact hSs.off (by omega)
  refine mn_iconst (v := 0) dMo_count_5 (by decide) ?_
  refine mn_istore_n (ls' := [(0, .ref mo), (1, .int 5), (2, .int 0)]) dMo_count_6 rfl (by decide) rfl ?_
  refine mn_iload_n 1 dMo_count_7 rfl rfl ?_
  refine mn_tableIn (off := 75) 83 dMo_count_8 (by decide) (by decide) (by decide) (by decide) ?_
  refine mn_iconst (v := 0) dMo_count_83 (by decide) ?_
  refine mn_istore_n (ls' := [(0, .ref mo), (1, .int 5), (2, .int 0), (3, .int 0)]) dMo_count_84 rfl (by decide) rfl ?_
  refine mn_R.post (c_M_count5_l hM_g1 hSo_g1 hSs_g1 hss hs20 hslb 61 0 (by omega) (by omega)) (fun x g' hq => ⟨hq.1, by rw [hq.2]; exact (mn_fr.rf.set eg1 (by show mo = mo; omega)), by rw [hq.2]; exact hM_g1⟩)
set_option maxRecDepth 100000 in
theorem c_M_count6 {E : mn_En} {g : mn_H} {mo tl e sz rp st m r wd ag td om : Nat} {ir : Int32} (hM : mn_at g mo (.inr (11, [.int 0, .ref (mo + 1), .int (nI tl), .ref (mo + 2), .ref (mo + 3), .int (nI e), .int (nI sz), .int (nI rp), .int (nI st), .ref (mo + 4), .ref (mo + 5), .ref (mo + 6), .int ir, .int (nI m), .int (nI r), .int (nI wd), .int (nI ag), .ref (mo + 7), .ref (mo + 8), .ref (mo + 9), .ref (mo + 10), .int (nI td), .int (nI om), .ref (mo + 11), .ref (mo + 12), .ref (mo + 13), .ref (mo + 14), .ref (mo + 15), .ref (mo + 16)])))  : mn_R E MMo_count 3 68 0 0 0 [(0, .ref mo), (1, .int 6)] [] g (fun x g' => x = some (.int (nI (sz))) ∧ mn_fr (fun q => q = mo) g g' ∧ mn_at g' mo (.inr (11, [.int 0, .ref (mo + 1), .int (nI tl), .ref (mo + 2), .ref (mo + 3), .int (nI e), .int (nI sz), .int (nI rp), .int (nI st), .ref (mo + 4), .ref (mo + 5), .ref (mo + 6), .int ir, .int (nI m), .int (nI r), .int (nI wd), .int (nI ag), .ref (mo + 7), .ref (mo + 8), .ref (mo + 9), .ref (mo + 10), .int (nI td), .int (nI om), .ref (mo + 11), .ref (mo + 12), .ref (mo + 13), .ref (mo + 14), .ref (mo + 15), .ref (mo + 16)]))) := by
  refine mn_aload_n 0 dMo_count_0 rfl rfl ?_
  refine mn_iconst (v := 0) dMo_count_1 (by decide) ?_
  refine mn_putf okMo 0 lMo_1 (by decide) rfl hM rfl rfl (Nat.le_of_ble_eq_true rfl) dMo_count_2 ?_
  obtain ⟨g1, eg1⟩ : ∃ gg_, gg_ = mn_set g mo (.inr (11, [.int 0, .ref (mo + 1), .int (nI tl), .ref (mo + 2), .ref (mo + 3), .int (nI e), .int (nI sz), .int (nI rp), .int (nI st), .ref (mo + 4), .ref (mo + 5), .ref (mo + 6), .int ir, .int (nI m), .int (nI r), .int (nI wd), .int (nI ag), .ref (mo + 7), .ref (mo + 8), .ref (mo + 9), .ref (mo + 10), .int (nI td), .int (nI om), .ref (mo + 11), .ref (mo + 12), .ref (mo + 13), .ref (mo + 14), .ref (mo + 15), .ref (mo + 16)])) := ⟨_, rfl⟩
  refine mn_R.toG eg1 ?_
  have hM_g1 : mn_at g1 mo (.inr (11, [.int 0, .ref (mo + 1), .int (nI tl), .ref (mo + 2), .ref (mo + 3), .int (nI e), .int (nI sz), .int (nI rp), .int (nI st), .ref (mo + 4), .ref (mo + 5), .ref (mo + 6), .int ir, .int (nI m), .int (nI r), .int (nI wd), .int (nI ag), .ref (mo + 7), .ref (mo + 8), .ref (mo + 9), .ref (mo + 10), .int (nI td), .int (nI om), .ref (mo + 11), .ref (mo + 12), .ref (mo + 13), .ref (mo + 14), .ref (mo + 15), .ref (mo + 16)])) := by rw [eg1]; exact hM.same
  refine mn_iconst (v := 0) dMo_count_5 (by decide) ?_
  refine mn_istore_n (ls' := [(0, .ref mo), (1, .int 6), (2, .int 0)]) dMo_count_6 rfl (by decide) rfl ?_
  refine mn_iload_n 1 dMo_count_7 rfl rfl ?_
  refine mn_tableIn (off := 110) 118 dMo_count_8 (by decide) (by decide) (by decide) (by decide) ?_
  refine mn_aload_n 0 dMo_count_118 rfl rfl ?_
  refine mn_get okMo 6 lMo_23 (by decide) hM_g1 rfl dMo_count_119 ?_
  exact mn_iret rfl dMo_count_122 ⟨rfl, (mn_fr.rf.set eg1 (by show mo = mo; omega)), hM_g1⟩
set_option maxRecDepth 100000 in
theorem c_M_count7 {E : mn_En} {g : mn_H} {mo tl e sz rp st m r wd ag td om : Nat} {ir : Int32} (hM : mn_at g mo (.inr (11, [.int 0, .ref (mo + 1), .int (nI tl), .ref (mo + 2), .ref (mo + 3), .int (nI e), .int (nI sz), .int (nI rp), .int (nI st), .ref (mo + 4), .ref (mo + 5), .ref (mo + 6), .int ir, .int (nI m), .int (nI r), .int (nI wd), .int (nI ag), .ref (mo + 7), .ref (mo + 8), .ref (mo + 9), .ref (mo + 10), .int (nI td), .int (nI om), .ref (mo + 11), .ref (mo + 12), .ref (mo + 13), .ref (mo + 14), .ref (mo + 15), .ref (mo + 16)])))  : mn_R E MMo_count 3 68 0 0 0 [(0, .ref mo), (1, .int 7)] [] g (fun x g' => x = some (.int (nI (rp))) ∧ mn_fr (fun q => q = mo) g g' ∧ mn_at g' mo (.inr (11, [.int 0, .ref (mo + 1), .int (nI tl), .ref (mo + 2), .ref (mo + 3), .int (nI e), .int (nI sz), .int (nI rp), .int (nI st), .ref (mo + 4), .ref (mo + 5), .ref (mo + 6), .int ir, .int (nI m), .int (nI r), .int (nI wd), .int (nI ag), .ref (mo + 7), .ref (mo + 8), .ref (mo + 9), .ref (mo + 10), .int (nI td), .int (nI om), .ref (mo + 11), .ref (mo + 12), .ref (mo + 13), .ref (mo + 14), .ref (mo + 15), .ref (mo + 16)]))) := by
  refine mn_aload_n 0 dMo_count_0 rfl rfl ?_
  refine mn_iconst (v := 0) dMo_count_1 (by decide) ?_
  refine mn_putf okMo 0 lMo_1 (by decide) rfl hM rfl rfl (Nat.le_of_ble_eq_true rfl) dMo_count_2 ?_
  obtain ⟨g1, eg1⟩ : ∃ gg_, gg_ = mn_set g mo (.inr (11, [.int 0, .ref (mo + 1), .int (nI tl), .ref (mo + 2), .ref (mo + 3), .int (nI e), .int (nI sz), .int (nI rp), .int (nI st), .ref (mo + 4), .ref (mo + 5), .ref (mo + 6), .int ir, .int (nI m), .int (nI r), .int (nI wd), .int (nI ag), .ref (mo + 7), .ref (mo + 8), .ref (mo + 9), .ref (mo + 10), .int (nI td), .int (nI om), .ref (mo + 11), .ref (mo + 12), .ref (mo + 13), .ref (mo + 14), .ref (mo + 15), .ref (mo + 16)])) := ⟨_, rfl⟩
  refine mn_R.toG eg1 ?_
  have hM_g1 : mn_at g1 mo (.inr (11, [.int 0, .ref (mo + 1), .int (nI tl), .ref (mo + 2), .ref (mo + 3), .int (nI e), .int (nI sz), .int (nI rp), .int (nI st), .ref (mo + 4), .ref (mo + 5), .ref (mo + 6), .int ir, .int (nI m), .int (nI r), .int (nI wd), .int (nI ag), .ref (mo + 7), .ref (mo + 8), .ref (mo + 9), .ref (mo + 10), .int (nI td), .int (nI om), .ref (mo + 11), .ref (mo + 12), .ref (mo + 13), .ref (mo + 14), .ref (mo + 15), .ref (mo + 16)])) := by rw [eg1]; exact hM.same
  refine mn_iconst (v := 0) dMo_count_5 (by decide) ?_
  refine mn_istore_n (ls' := [(0, .ref mo), (1, .int 7), (2, .int 0)]) dMo_count_6 rfl (by decide) rfl ?_
  refine mn_iload_n 1 dMo_count_7 rfl rfl ?_
  refine mn_tableIn (off := 115) 123 dMo_count_8 (by decide) (by decide) (by decide) (by decide) ?_
  refine mn_aload_n 0 dMo_count_123 rfl rfl ?_
  refine mn_get okMo 7 lMo_84 (by decide) hM_g1 rfl dMo_count_124 ?_
  exact mn_iret rfl dMo_count_127 ⟨rfl, (mn_fr.rf.set eg1 (by show mo = mo; omega)), hM_g1⟩
set_option maxRecDepth 100000 in
theorem c_M_count8 {E : mn_En} {g : mn_H} {mo tl e sz rp st m r wd ag td om : Nat} {ir : Int32} (hM : mn_at g mo (.inr (11, [.int 0, .ref (mo + 1), .int (nI tl), .ref (mo + 2), .ref (mo + 3), .int (nI e), .int (nI sz), .int (nI rp), .int (nI st), .ref (mo + 4), .ref (mo + 5), .ref (mo + 6), .int ir, .int (nI m), .int (nI r), .int (nI wd), .int (nI ag), .ref (mo + 7), .ref (mo + 8), .ref (mo + 9), .ref (mo + 10), .int (nI td), .int (nI om), .ref (mo + 11), .ref (mo + 12), .ref (mo + 13), .ref (mo + 14), .ref (mo + 15), .ref (mo + 16)])))  : mn_R E MMo_count 3 68 0 0 0 [(0, .ref mo), (1, .int 8)] [] g (fun x g' => x = some (.int (nI (st))) ∧ mn_fr (fun q => q = mo) g g' ∧ mn_at g' mo (.inr (11, [.int 0, .ref (mo + 1), .int (nI tl), .ref (mo + 2), .ref (mo + 3), .int (nI e), .int (nI sz), .int (nI rp), .int (nI st), .ref (mo + 4), .ref (mo + 5), .ref (mo + 6), .int ir, .int (nI m), .int (nI r), .int (nI wd), .int (nI ag), .ref (mo + 7), .ref (mo + 8), .ref (mo + 9), .ref (mo + 10), .int (nI td), .int (nI om), .ref (mo + 11), .ref (mo + 12), .ref (mo + 13), .ref (mo + 14), .ref (mo + 15), .ref (mo + 16)]))) := by
  refine mn_aload_n 0 dMo_count_0 rfl rfl ?_
  refine mn_iconst (v := 0) dMo_count_1 (by decide) ?_
  refine mn_putf okMo 0 lMo_1 (by decide) rfl hM rfl rfl (Nat.le_of_ble_eq_true rfl) dMo_count_2 ?_
  obtain ⟨g1, eg1⟩ : ∃ gg_, gg_ = mn_set g mo (.inr (11, [.int 0, .ref (mo + 1), .int (nI tl), .ref (mo + 2), .ref (mo + 3), .int (nI e), .int (nI sz), .int (nI rp), .int (nI st), .ref (mo + 4), .ref (mo + 5), .ref (mo + 6), .int ir, .int (nI m), .int (nI r), .int (nI wd), .int (nI ag), .ref (mo + 7), .ref (mo + 8), .ref (mo + 9), .ref (mo + 10), .int (nI td), .int (nI om), .ref (mo + 11), .ref (mo + 12), .ref (mo + 13), .ref (mo + 14), .ref (mo + 15), .ref (mo + 16)])) := ⟨_, rfl⟩
  refine mn_R.toG eg1 ?_
  have hM_g1 : mn_at g1 mo (.inr (11, [.int 0, .ref (mo + 1), .int (nI tl), .ref (mo + 2), .ref (mo + 3), .int (nI e), .int (nI sz), .int (nI rp), .int (nI st), .ref (mo + 4), .ref (mo + 5), .ref (mo + 6), .int ir, .int (nI m), .int (nI r), .int (nI wd), .int (nI ag), .ref (mo + 7), .ref (mo + 8), .ref (mo + 9), .ref (mo + 10), .int (nI td), .int (nI om), .ref (mo + 11), .ref (mo + 12), .ref (mo + 13), .ref (mo + 14), .ref (mo + 15), .ref (mo + 16)])) := by rw [eg1]; exact hM.same
  refine mn_iconst (v := 0) dMo_count_5 (by decide) ?_
  refine mn_istore_n (ls' := [(0, .ref mo), (1, .int 8), (2, .int 0)]) dMo_count_6 rfl (by decide) rfl ?_
  refine mn_iload_n 1 dMo_count_7 rfl rfl ?_
  refine mn_tableIn (off := 120) 128 dMo_count_8 (by decide) (by decide) (by decide) (by decide) ?_
  refine mn_aload_n 0 dMo_count_128 rfl rfl ?_
  refine mn_get okMo 8 lMo_87 (by decide) hM_g1 rfl dMo_count_129 ?_
  exact mn_iret rfl dMo_count_132 ⟨rfl, (mn_fr.rf.set eg1 (by show mo = mo; omega)), hM_g1⟩
set_option maxRecDepth 100000 in
theorem c_M_count_bad {E : mn_En} {g : mn_H} {mo tl e sz rp st m r wd ag td om : Nat} {ir : Int32} (hM : mn_at g mo (.inr (11, [.int 0, .ref (mo + 1), .int (nI tl), .ref (mo + 2), .ref (mo + 3), .int (nI e), .int (nI sz), .int (nI rp), .int (nI st), .ref (mo + 4), .ref (mo + 5), .ref (mo + 6), .int ir, .int (nI m), .int (nI r), .int (nI wd), .int (nI ag), .ref (mo + 7), .ref (mo + 8), .ref (mo + 9), .ref (mo + 10), .int (nI td), .int (nI om), .ref (mo + 11), .ref (mo + 12), .ref (mo + 13), .ref (mo + 14), .ref (mo + 15), .ref (mo + 16)]))) {x : Int32} (hx : x.toInt < 0 ∨ 8 < x.toInt) : mn_R E MMo_count 3 68 0 0 0 [(0, .ref mo), (1, .int x)] [] g (fun x g' => x = some (.int (-1)) ∧ mn_fr (fun q => q = mo) g g' ∧ mn_at g' mo (.inr (11, [.int 0, .ref (mo + 1), .int (nI tl), .ref (mo + 2), .ref (mo + 3), .int (nI e), .int (nI sz), .int (nI rp), .int (nI st), .ref (mo + 4), .ref (mo + 5), .ref (mo + 6), .int ir, .int (nI m), .int (nI r), .int (nI wd), .int (nI ag), .ref (mo + 7), .ref (mo + 8), .ref (mo + 9), .ref (mo + 10), .int (nI td), .int (nI om), .ref (mo + 11), .ref (mo + 12), .ref (mo + 13), .ref (mo + 14), .ref (mo + 15), .ref (mo + 16)]))) := by
  refine mn_aload_n 0 dMo_count_0 rfl rfl ?_
  refine mn_iconst (v := 0) dMo_count_1 (by decide) ?_
  refine mn_putf okMo 0 lMo_1 (by decide) rfl hM rfl rfl (Nat.le_of_ble_eq_true rfl) dMo_count_2 ?_
  obtain ⟨g1, eg1⟩ : ∃ gg_, gg_ = mn_set g mo (.inr (11, [.int 0, .ref (mo + 1), .int (nI tl), .ref (mo + 2), .ref (mo + 3), .int (nI e), .int (nI sz), .int (nI rp), .int (nI st), .ref (mo + 4), .ref (mo + 5), .ref (mo + 6), .int ir, .int (nI m), .int (nI r), .int (nI wd), .int (nI ag), .ref (mo + 7), .ref (mo + 8), .ref (mo + 9), .ref (mo + 10), .int (nI td), .int (nI om), .ref (mo + 11), .ref (mo + 12), .ref (mo + 13), .ref (mo + 14), .ref (mo + 15), .ref (mo + 16)])) := ⟨_, rfl⟩
  refine mn_R.toG eg1 ?_
  have hM_g1 : mn_at g1 mo (.inr (11, [.int 0, .ref (mo + 1), .int (nI tl), .ref (mo + 2), .ref (mo + 3), .int (nI e), .int (nI sz), .int (nI rp), .int (nI st), .ref (mo + 4), .ref (mo + 5), .ref (mo + 6), .int ir, .int (nI m), .int (nI r), .int (nI wd), .int (nI ag), .ref (mo + 7), .ref (mo + 8), .ref (mo + 9), .ref (mo + 10), .int (nI td), .int (nI om), .ref (mo + 11), .ref (mo + 12), .ref (mo + 13), .ref (mo + 14), .ref (mo + 15), .ref (mo + 16)])) := by rw [eg1]; exact hM.same
  refine mn_iconst (v := 0) dMo_count_5 (by decide) ?_
  refine mn_istore_n (ls' := [(0, .ref mo), (1, .int x), (2, .int 0)]) dMo_count_6 rfl (by decide) rfl ?_
  refine mn_iload_n 1 dMo_count_7 rfl rfl ?_
  refine mn_tableOut 133 dMo_count_8 hx (by decide) ?_
  refine mn_iconst (v := -1) dMo_count_133 (by decide) ?_
  exact mn_iret rfl dMo_count_134 ⟨rfl, (mn_fr.rf.set eg1 (by show mo = mo; omega)), hM_g1⟩
set_option maxRecDepth 100000 in
theorem c_M_isKnown {E : mn_En} {g : mn_H} {mo tl e sz rp st m r wd ag td om : Nat} {ir : Int32} {ml : Nat → Nat} {pm : Nat → Option Nat} (hM : mn_at g mo (.inr (11, [.int 0, .ref (mo + 1), .int (nI tl), .ref (mo + 2), .ref (mo + 3), .int (nI e), .int (nI sz), .int (nI rp), .int (nI st), .ref (mo + 4), .ref (mo + 5), .ref (mo + 6), .int ir, .int (nI m), .int (nI r), .int (nI wd), .int (nI ag), .ref (mo + 7), .ref (mo + 8), .ref (mo + 9), .ref (mo + 10), .int (nI td), .int (nI om), .ref (mo + 11), .ref (mo + 12), .ref (mo + 13), .ref (mo + 14), .ref (mo + 15), .ref (mo + 16)]))) (hPm : mn_at g (mo + 7) (.inl (0, 64, .inl (fun j => onI (pm j))))) (hMl : mn_at g (mo + 8) (.inl (0, 64, .inl (fun j => nI (ml j))))) (hm : m ≤ 60) (hwd : 20 ≤ wd) (hwd2 : wd ≤ 80) (hml : ∀ j, ml j < 256) (hpm : ∀ j q, j < 64 → pm j = some q → q < 1000) {p : Nat} (hp : p < 100000) : mn_R E MMo_isKnown 0 0 0 0 0 [(0, .ref mo), (1, .int (nI p))] [] g (mn_is (some (.int (kV (eL pm ml) m (wd - 12) p))) g) := by
  have hdp := Nat.div_le_self p (wd - 12)
  have hmd := Nat.mod_le p (wd - 12)
  refine mn_iload_n 1 dMo_isKnown_0 rfl rfl ?_
  refine mn_aload_n 0 dMo_isKnown_1 rfl rfl ?_
  refine mn_get okMo 15 lMo_150 (by decide) hM rfl dMo_isKnown_2 ?_
  refine mn_bipush (v := 12) dMo_isKnown_5 (by decide) ?_
  refine mn_isub (z := nI (wd - 12)) dMo_isKnown_7 (pk_sub (a := wd) (b := 12) (by omega)) ?_
  refine mn_idiv (z := nI (p / (wd - 12))) dMo_isKnown_8 (nI_ne0 (n := wd - 12) (by omega) (by omega)) (pk_div (a := p) (d := wd - 12) (by omega) (by omega) (by omega)) ?_
  refine mn_istore_n (ls' := [(0, .ref mo), (1, .int (nI p)), (2, .int (nI (p / (wd - 12))))]) dMo_isKnown_9 rfl (by decide) rfl ?_
  refine mn_iload_n 2 dMo_isKnown_10 rfl rfl ?_
  refine mn_aload_n 0 dMo_isKnown_11 rfl rfl ?_
  refine mn_get okMo 13 lMo_144 (by decide) hM rfl dMo_isKnown_12 ?_
  refine mn_icmp_ge 51 dMo_isKnown_15 (by decide) (fun c1 => ?_) (fun c1 => ?_)
  · have c1 := (nI_leI (a := m) (b := (p / (wd - 12))) (by omega) (by omega)).mp c1
    refine mn_iconst (v := 0) dMo_isKnown_51 (by decide) ?_
    exact mn_zret rfl rfl dMo_isKnown_52 ⟨by rw [kV_neg (fun h => by have h7 := h.1; rw [← Nat.div_lt_iff_lt_mul (by omega)] at h7; omega)], rfl⟩
  · have c1 := mt (nI_leI (a := m) (b := (p / (wd - 12))) (by omega) (by omega)).mpr c1
    have hdl : p / (wd - 12) < m := by omega
    have hmlk := hml (p / (wd - 12))
    refine mn_aload_n 0 dMo_isKnown_18 rfl rfl ?_
    refine mn_get okMo 17 lMo_35 (by decide) hM rfl dMo_isKnown_19 ?_
    refine mn_iload_n 2 dMo_isKnown_22 rfl rfl ?_
    refine mn_ialdN (j := p / (wd - 12)) hPm rfl (by omega) (by omega) dMo_isKnown_23 ?_
    refine mn_bipush (v := (-2)) dMo_isKnown_24 (by decide) ?_
    refine mn_icmp_eq 51 dMo_isKnown_26 (by decide) (fun c2 => ?_) (fun c2 => ?_)
    · refine mn_iconst (v := 0) dMo_isKnown_51 (by decide) ?_
      exact mn_zret rfl rfl dMo_isKnown_52 ⟨by rw [kV_neg (fun h => by have h7 := h.2; rw [eL_n ((onI_e (fun q hq => hpm _ q (by omega) hq)).mp c2)] at h7; omega)], rfl⟩
    · have hpn : ¬ pm (p / (wd - 12)) = none := fun q => c2 ((onI_e (fun q hq => hpm _ q (by omega) hq)).mpr q)
      refine mn_iload_n 1 dMo_isKnown_29 rfl rfl ?_
      refine mn_aload_n 0 dMo_isKnown_30 rfl rfl ?_
      refine mn_get okMo 15 lMo_150 (by decide) hM rfl dMo_isKnown_31 ?_
      refine mn_bipush (v := 12) dMo_isKnown_34 (by decide) ?_
      refine mn_isub (z := nI (wd - 12)) dMo_isKnown_36 (pk_sub (a := wd) (b := 12) (by omega)) ?_
      refine mn_irem (z := nI (p % (wd - 12))) dMo_isKnown_37 (nI_ne0 (n := wd - 12) (by omega) (by omega)) (pk_rem (a := p) (d := wd - 12) (by omega) (by omega) (by omega)) ?_
      refine mn_aload_n 0 dMo_isKnown_38 rfl rfl ?_
      refine mn_get okMo 18 lMo_38 (by decide) hM rfl dMo_isKnown_39 ?_
      refine mn_iload_n 2 dMo_isKnown_42 rfl rfl ?_
      refine mn_ialdN (j := p / (wd - 12)) hMl rfl (by omega) (by omega) dMo_isKnown_43 ?_
      refine mn_icmp_ge 51 dMo_isKnown_44 (by decide) (fun c3 => ?_) (fun c3 => ?_)
      · have c3 := (nI_leI (a := (ml (p / (wd - 12)))) (b := (p % (wd - 12))) (by omega) (by omega)).mp c3
        refine mn_iconst (v := 0) dMo_isKnown_51 (by decide) ?_
        exact mn_zret rfl rfl dMo_isKnown_52 ⟨by rw [kV_neg (fun h => by have h7 := h.2; rw [eL_y hpn, ← mod_sub] at h7; omega)], rfl⟩
      · have c3 := mt (nI_leI (a := (ml (p / (wd - 12)))) (b := (p % (wd - 12))) (by omega) (by omega)).mpr c3
        refine mn_iconst (v := 1) dMo_isKnown_47 (by decide) ?_
        refine mn_goto 52 dMo_isKnown_48 (by decide) ?_
        exact mn_zret rfl rfl dMo_isKnown_52 ⟨by rw [kV_pos ⟨by rw [Nat.div_lt_iff_lt_mul (by omega)] at hdl; exact hdl, by rw [eL_y hpn, ← mod_sub]; omega⟩], rfl⟩
set_option maxRecDepth 100000 in
theorem c_M_iw_0 {E : mn_En} {g : mn_H} {mo tl e sz rp st m r wd ag td om : Nat} {ir : Int32} {ml mg : Nat → Nat} {pm : Nat → Option Nat} (hM : mn_at g mo (.inr (11, [.int 0, .ref (mo + 1), .int (nI tl), .ref (mo + 2), .ref (mo + 3), .int (nI e), .int (nI sz), .int (nI rp), .int (nI st), .ref (mo + 4), .ref (mo + 5), .ref (mo + 6), .int ir, .int (nI m), .int (nI r), .int (nI wd), .int (nI ag), .ref (mo + 7), .ref (mo + 8), .ref (mo + 9), .ref (mo + 10), .int (nI td), .int (nI om), .ref (mo + 11), .ref (mo + 12), .ref (mo + 13), .ref (mo + 14), .ref (mo + 15), .ref (mo + 16)]))) (hPm : mn_at g (mo + 7) (.inl (0, 64, .inl (fun j => onI (pm j))))) (hMl : mn_at g (mo + 8) (.inl (0, 64, .inl (fun j => nI (ml j))))) (hMg : mn_at g (mo + 10) (.inl (0, 4800, .inl (fun j => nI (mg j))))) {p n k : Nat} (hp : p < 5000) (hn : n < 256) (hk : k ≤ n + 3) (hno : ¬ iwN mg (eL pm ml) m (wd - 12) p n) : mn_R E MMo_isWhole 2 45 0 0 15 [(0, .ref mo), (1, .int (nI p)), (2, .int (nI n)), (3, .int 0), (4, .int (nI k))] [] g (mn_is (some (.int (iwV mg (eL pm ml) m (wd - 12) p n))) g) := by
  refine mn_iload 4 dMo_isWhole_15 rfl ?_
  refine mn_iload_n 2 dMo_isWhole_17 rfl rfl ?_
  refine mn_iconst (v := 3) dMo_isWhole_18 (by decide) ?_
  refine mn_iadd (z := nI (n + 3)) dMo_isWhole_19 (nI_add n 3) ?_
  refine mn_icmp_ge 42 dMo_isWhole_20 (by decide) (fun c1 => ?_) (fun c1 => ?_)
  · have c1 := (nI_leI (a := (n + 3)) (b := k) (by omega) (by omega)).mp c1
    refine mn_iload_n 3 dMo_isWhole_42 rfl rfl ?_
    refine mn_if_eq 85 dMo_isWhole_43 (by decide) (fun c2 => ?_) (fun c2 => ?_)
    · refine mn_iconst (v := 0) dMo_isWhole_85 (by decide) ?_
      exact mn_zret rfl rfl dMo_isWhole_86 ⟨by rw [iwV_n hno], rfl⟩
    · exact absurd c2 (by decide)
  · have c1 := mt (nI_leI (a := (n + 3)) (b := k) (by omega) (by omega)).mpr c1
    refine mn_iload_n 3 dMo_isWhole_23 rfl rfl ?_
    refine mn_if_eq 42 dMo_isWhole_24 (by decide) (fun c3 => ?_) (fun c3 => ?_)
    · refine mn_iload_n 3 dMo_isWhole_42 rfl rfl ?_
      refine mn_if_eq 85 dMo_isWhole_43 (by decide) (fun c4 => ?_) (fun c4 => ?_)
      · refine mn_iconst (v := 0) dMo_isWhole_85 (by decide) ?_
        exact mn_zret rfl rfl dMo_isWhole_86 ⟨by rw [iwV_n hno], rfl⟩
      · exact absurd c4 (by decide)
    · exact absurd c3 (by decide)
set_option maxRecDepth 100000 in
theorem c_M_iw_1 {E : mn_En} {g : mn_H} {mo tl e sz rp st m r wd ag td om : Nat} {ir : Int32} {ml mg : Nat → Nat} {pm : Nat → Option Nat} (hM : mn_at g mo (.inr (11, [.int 0, .ref (mo + 1), .int (nI tl), .ref (mo + 2), .ref (mo + 3), .int (nI e), .int (nI sz), .int (nI rp), .int (nI st), .ref (mo + 4), .ref (mo + 5), .ref (mo + 6), .int ir, .int (nI m), .int (nI r), .int (nI wd), .int (nI ag), .ref (mo + 7), .ref (mo + 8), .ref (mo + 9), .ref (mo + 10), .int (nI td), .int (nI om), .ref (mo + 11), .ref (mo + 12), .ref (mo + 13), .ref (mo + 14), .ref (mo + 15), .ref (mo + 16)]))) (hPm : mn_at g (mo + 7) (.inl (0, 64, .inl (fun j => onI (pm j))))) (hMl : mn_at g (mo + 8) (.inl (0, 64, .inl (fun j => nI (ml j))))) (hMg : mn_at g (mo + 10) (.inl (0, 4800, .inl (fun j => nI (mg j))))) (hm : m ≤ 60) (hwd : 20 ≤ wd) (hwd2 : wd ≤ 80) (hml : ∀ j, ml j < 256) (hpm : ∀ j q, j < 64 → pm j = some q → q < 1000) (hmw : m * (wd - 12) ≤ 4080) (hmg : ∀ j, mg j < 256) {p n : Nat} (hp : p < 5000) (hn : n < 256) (hn60 : n ≤ 60) : ∀ (fu k : Nat), k ≤ n + 3 → n + 3 - k < fu → (∀ i, i < k → kN (eL pm ml) m (wd - 12) (p + i)) → mn_R E MMo_isWhole 2 45 0 0 15 [(0, .ref mo), (1, .int (nI p)), (2, .int (nI n)), (3, .int 1), (4, .int (nI k))] [] g (mn_is (some (.int (iwV mg (eL pm ml) m (wd - 12) p n))) g) := by
  intro fu
  induction fu with
  | zero => intro k h1 h2; exact absurd h2 (by omega)
  | succ fu ih =>
    intro k h1 h2 h3
    refine mn_iload 4 dMo_isWhole_15 rfl ?_
    refine mn_iload_n 2 dMo_isWhole_17 rfl rfl ?_
    refine mn_iconst (v := 3) dMo_isWhole_18 (by decide) ?_
    refine mn_iadd (z := nI (n + 3)) dMo_isWhole_19 (nI_add n 3) ?_
    refine mn_icmp_ge 42 dMo_isWhole_20 (by decide) (fun c1 => ?_) (fun c1 => ?_)
    · have c1 := (nI_leI (a := (n + 3)) (b := k) (by omega) (by omega)).mp c1
      refine mn_iload_n 3 dMo_isWhole_42 rfl rfl ?_
      refine mn_if_eq 85 dMo_isWhole_43 (by decide) (fun c2 => ?_) (fun c2 => ?_)
      · exact absurd c2 (by decide)
      · have hall : ∀ q, p ≤ q → q < p + 3 + n → kN (eL pm ml) m (wd - 12) q := fun q q1 q2 => by have h7 := h3 (q - p) (by omega); rw [show p + (q - p) = q by omega] at h7; exact h7
        have hlt := (hall (p + 2 + n) (by omega) (by omega)).1
        have hb1 := hmg (p + 1)
        have hb2 := hmg (p + 2)
        have hsu := suN_lt mg (p + 3) n
        refine mn_aload_n 0 dMo_isWhole_46 rfl rfl ?_
        refine mn_get okMo 20 lMo_44 (by decide) hM rfl dMo_isWhole_47 ?_
        refine mn_iload_n 1 dMo_isWhole_50 rfl rfl ?_
        refine mn_iconst (v := 3) dMo_isWhole_51 (by decide) ?_
        refine mn_iadd (z := nI (p + 3)) dMo_isWhole_52 (nI_add p 3) ?_
        refine mn_iload_n 2 dMo_isWhole_53 rfl rfl ?_
        refine mn_cS (d' := 1) (w' := 21) (As := [.ref (mo + 10), .int (nI (p + 3)), .int (nI n)]) (stk' := [.int (nI (suN mg (p + 3) n))]) okMo_sum lMo_80 dMo_isWhole_54 rfl rfl (Nat.le_of_ble_eq_true rfl) (Nat.le_of_ble_eq_true rfl) (by decide) (c_M_sumN hMg (fr := p + 3) (n := n) (by omega) (by omega)) rfl ?_
        refine mn_aload_n 0 dMo_isWhole_57 rfl rfl ?_
        refine mn_get okMo 20 lMo_44 (by decide) hM rfl dMo_isWhole_58 ?_
        refine mn_iload_n 1 dMo_isWhole_61 rfl rfl ?_
        refine mn_iconst (v := 1) dMo_isWhole_62 (by decide) ?_
        refine mn_iadd (z := nI (p + 1)) dMo_isWhole_63 (nI_add p 1) ?_
        refine mn_ialdN (j := p + 1) hMg rfl (by omega) (by omega) dMo_isWhole_64 ?_
        refine mn_sipush (v := 256) dMo_isWhole_65 (by decide) ?_
        refine mn_aload_n 0 dMo_isWhole_68 rfl rfl ?_
        refine mn_get okMo 20 lMo_44 (by decide) hM rfl dMo_isWhole_69 ?_
        refine mn_iload_n 1 dMo_isWhole_72 rfl rfl ?_
        refine mn_iconst (v := 2) dMo_isWhole_73 (by decide) ?_
        refine mn_iadd (z := nI (p + 2)) dMo_isWhole_74 (nI_add p 2) ?_
        refine mn_ialdN (j := p + 2) hMg rfl (by omega) (by omega) dMo_isWhole_75 ?_
        refine mn_imul (z := nI (256 * (mg (p + 2)))) dMo_isWhole_76 (pk_mul 256 (mg (p + 2))) ?_
        refine mn_iadd (z := nI (mg (p + 1) + (256 * (mg (p + 2))))) dMo_isWhole_77 (nI_add (mg (p + 1)) (256 * (mg (p + 2)))) ?_
        refine mn_icmp_ne 85 dMo_isWhole_78 (by decide) (fun c3 => ?_) (fun c3 => ?_)
        · have c3 := mt (nI_eq (a := (suN mg (p + 3) n)) (b := (mg (p + 1) + (256 * (mg (p + 2))))) (by omega) (by omega)).mpr c3
          refine mn_iconst (v := 0) dMo_isWhole_85 (by decide) ?_
          exact mn_zret rfl rfl dMo_isWhole_86 ⟨by rw [iwV_n (fun q => absurd q.2.2 (by omega))], rfl⟩
        · have c3 := (nI_eq (a := (suN mg (p + 3) n)) (b := (mg (p + 1) + (256 * (mg (p + 2))))) (by omega) (by omega)).mp c3
          refine mn_iconst (v := 1) dMo_isWhole_81 (by decide) ?_
          refine mn_goto 86 dMo_isWhole_82 (by decide) ?_
          exact mn_zret rfl rfl dMo_isWhole_86 ⟨by rw [iwV_y ⟨hn60, hall, by omega⟩], rfl⟩
    · have c1 := mt (nI_leI (a := (n + 3)) (b := k) (by omega) (by omega)).mpr c1
      refine mn_iload_n 3 dMo_isWhole_23 rfl rfl ?_
      refine mn_if_eq 42 dMo_isWhole_24 (by decide) (fun c4 => ?_) (fun c4 => ?_)
      · exact absurd c4 (by decide)
      · refine mn_aload_n 0 dMo_isWhole_27 rfl rfl ?_
        refine mn_iload_n 1 dMo_isWhole_28 rfl rfl ?_
        refine mn_iload 4 dMo_isWhole_29 rfl ?_
        refine mn_iadd (z := nI (p + k)) dMo_isWhole_31 (nI_add p k) ?_
        refine mn_cV (d' := 0) (w' := 0) (As := [.int (nI (p + k))]) (stk' := [.int (kV (eL pm ml) m (wd - 12) (p + k))]) okMo_isKnown lMo_172 dMo_isWhole_32 hM rfl rfl rfl rfl (Nat.le_of_ble_eq_true rfl) (Nat.le_of_ble_eq_true rfl) (by decide) (c_M_isKnown hM hPm hMl hm hwd hwd2 hml hpm (p := p + k) (by omega)) rfl ?_
        refine mn_istore_n (ls' := [(0, .ref mo), (1, .int (nI p)), (2, .int (nI n)), (3, .int (kV (eL pm ml) m (wd - 12) (p + k))), (4, .int (nI k))]) dMo_isWhole_35 rfl (by decide) rfl ?_
        refine mn_iinc (v := nI (k + 1)) (ls' := [(0, .ref mo), (1, .int (nI p)), (2, .int (nI n)), (3, .int (kV (eL pm ml) m (wd - 12) (p + k))), (4, .int (nI (k + 1)))]) 4 dMo_isWhole_36 rfl (nI_add k 1) (by decide) rfl ?_
        refine mn_goto 15 dMo_isWhole_39 (by decide) ?_
        by_cases hkn : kN (eL pm ml) m (wd - 12) (p + k)
        · rw [kV_pos hkn]
          exact ih (k + 1) (by omega) (by omega) (fun i hi => by rcases Nat.lt_or_ge i k with q | q; exact h3 i q; rw [show i = k by omega]; exact hkn)
        · rw [kV_neg hkn]
          exact c_M_iw_0 hM hPm hMl hMg hp hn (by omega) (fun q => hkn (q.2.1 (p + k) (by omega) (by omega)))
set_option maxRecDepth 100000 in
theorem c_M_isWhole {E : mn_En} {g : mn_H} {mo tl e sz rp st m r wd ag td om : Nat} {ir : Int32} {ml mg : Nat → Nat} {pm : Nat → Option Nat} (hM : mn_at g mo (.inr (11, [.int 0, .ref (mo + 1), .int (nI tl), .ref (mo + 2), .ref (mo + 3), .int (nI e), .int (nI sz), .int (nI rp), .int (nI st), .ref (mo + 4), .ref (mo + 5), .ref (mo + 6), .int ir, .int (nI m), .int (nI r), .int (nI wd), .int (nI ag), .ref (mo + 7), .ref (mo + 8), .ref (mo + 9), .ref (mo + 10), .int (nI td), .int (nI om), .ref (mo + 11), .ref (mo + 12), .ref (mo + 13), .ref (mo + 14), .ref (mo + 15), .ref (mo + 16)]))) (hPm : mn_at g (mo + 7) (.inl (0, 64, .inl (fun j => onI (pm j))))) (hMl : mn_at g (mo + 8) (.inl (0, 64, .inl (fun j => nI (ml j))))) (hMg : mn_at g (mo + 10) (.inl (0, 4800, .inl (fun j => nI (mg j))))) (hm : m ≤ 60) (hwd : 20 ≤ wd) (hwd2 : wd ≤ 80) (hml : ∀ j, ml j < 256) (hpm : ∀ j q, j < 64 → pm j = some q → q < 1000) (hmw : m * (wd - 12) ≤ 4080) (hmg : ∀ j, mg j < 256) {p n : Nat} (hp : p < 5000) (hn : n < 256) : mn_R E MMo_isWhole 2 45 0 0 0 [(0, .ref mo), (1, .int (nI p)), (2, .int (nI n))] [] g (mn_is (some (.int (iwV mg (eL pm ml) m (wd - 12) p n))) g) := by
  refine mn_iload_n 2 dMo_isWhole_0 rfl rfl ?_
  refine mn_bipush (v := 60) dMo_isWhole_1 (by decide) ?_
  refine mn_icmp_gt 10 dMo_isWhole_3 (by decide) (fun c1 => ?_) (fun c1 => ?_)
  · have c1 := (nI_ltI (a := 60) (b := n) (by omega) (by omega)).mp c1
    refine mn_iconst (v := 0) dMo_isWhole_10 (by decide) ?_
    refine mn_istore_n (ls' := [(0, .ref mo), (1, .int (nI p)), (2, .int (nI n)), (3, .int 0)]) dMo_isWhole_11 rfl (by decide) rfl ?_
    refine mn_iconst (v := 0) dMo_isWhole_12 (by decide) ?_
    refine mn_istore (ls' := [(0, .ref mo), (1, .int (nI p)), (2, .int (nI n)), (3, .int 0), (4, .int 0)]) dMo_isWhole_13 (by decide) rfl ?_
    exact c_M_iw_0 hM hPm hMl hMg (k := 0) hp hn (by omega) (fun q => absurd q.1 (by omega))
  · have c1 := mt (nI_ltI (a := 60) (b := n) (by omega) (by omega)).mpr c1
    refine mn_iconst (v := 1) dMo_isWhole_6 (by decide) ?_
    refine mn_goto 11 dMo_isWhole_7 (by decide) ?_
    refine mn_istore_n (ls' := [(0, .ref mo), (1, .int (nI p)), (2, .int (nI n)), (3, .int 1)]) dMo_isWhole_11 rfl (by decide) rfl ?_
    refine mn_iconst (v := 0) dMo_isWhole_12 (by decide) ?_
    refine mn_istore (ls' := [(0, .ref mo), (1, .int (nI p)), (2, .int (nI n)), (3, .int 1), (4, .int 0)]) dMo_isWhole_13 (by decide) rfl ?_
    exact c_M_iw_1 hM hPm hMl hMg hm hwd hwd2 hml hpm hmw hmg hp hn (by omega) (n + 4) 0 (by omega) (by omega) (fun i hi => absurd hi (by omega))
set_option maxRecDepth 100000 in
theorem c_M_found_bad {E : mn_En} {g : mn_H} {mo tl e sz rp st m r wd ag td om : Nat} {ir : Int32} (hM : mn_at g mo (.inr (11, [.int 0, .ref (mo + 1), .int (nI tl), .ref (mo + 2), .ref (mo + 3), .int (nI e), .int (nI sz), .int (nI rp), .int (nI st), .ref (mo + 4), .ref (mo + 5), .ref (mo + 6), .int ir, .int (nI m), .int (nI r), .int (nI wd), .int (nI ag), .ref (mo + 7), .ref (mo + 8), .ref (mo + 9), .ref (mo + 10), .int (nI td), .int (nI om), .ref (mo + 11), .ref (mo + 12), .ref (mo + 13), .ref (mo + 14), .ref (mo + 15), .ref (mo + 16)]))) {x : Int32} (hx : x < 0 ∨ 5 < x) : mn_R E MMo_found 1 22 0 0 0 [(0, .ref mo), (1, .int x)] [] g (fun x g' => x = some (.int (-1)) ∧ mn_fr (fun q => q = mo) g g' ∧ mn_at g' mo (.inr (11, [.int 0, .ref (mo + 1), .int (nI tl), .ref (mo + 2), .ref (mo + 3), .int (nI e), .int (nI sz), .int (nI rp), .int (nI st), .ref (mo + 4), .ref (mo + 5), .ref (mo + 6), .int ir, .int (nI m), .int (nI r), .int (nI wd), .int (nI ag), .ref (mo + 7), .ref (mo + 8), .ref (mo + 9), .ref (mo + 10), .int (nI td), .int (nI om), .ref (mo + 11), .ref (mo + 12), .ref (mo + 13), .ref (mo + 14), .ref (mo + 15), .ref (mo + 16)]))) := by
  refine mn_aload_n 0 dMo_found_0 rfl rfl ?_
  refine mn_iconst (v := 0) dMo_found_1 (by decide) ?_
  refine mn_putf okMo 0 lMo_1 (by decide) rfl hM rfl rfl (Nat.le_of_ble_eq_true rfl) dMo_found_2 ?_
  obtain ⟨g1, eg1⟩ : ∃ gg_, gg_ = mn_set g mo (.inr (11, [.int 0, .ref (mo + 1), .int (nI tl), .ref (mo + 2), .ref (mo + 3), .int (nI e), .int (nI sz), .int (nI rp), .int (nI st), .ref (mo + 4), .ref (mo + 5), .ref (mo + 6), .int ir, .int (nI m), .int (nI r), .int (nI wd), .int (nI ag), .ref (mo + 7), .ref (mo + 8), .ref (mo + 9), .ref (mo + 10), .int (nI td), .int (nI om), .ref (mo + 11), .ref (mo + 12), .ref (mo + 13), .ref (mo + 14), .ref (mo + 15), .ref (mo + 16)])) := ⟨_, rfl⟩
  refine mn_R.toG eg1 ?_
  have hM_g1 : mn_at g1 mo (.inr (11, [.int 0, .ref (mo + 1), .int (nI tl), .ref (mo + 2), .ref (mo + 3), .int (nI e), .int (nI sz), .int (nI rp), .int (nI st), .ref (mo + 4), .ref (mo + 5), .ref (mo + 6), .int ir, .int (nI m), .int (nI r), .int (nI wd), .int (nI ag), .ref (mo + 7), .ref (mo + 8), .ref (mo + 9), .ref (mo + 10), .int (nI td), .int (nI om), .ref (mo + 11), .ref (mo + 12), .ref (mo + 13), .ref (mo + 14), .ref (mo + 15), .ref (mo + 16)])) := by rw [eg1]; exact hM.same
  refine mn_iload_n 1 dMo_found_5 rfl rfl ?_
  refine mn_iconst (v := 0) dMo_found_6 (by decide) ?_
  refine mn_iconst (v := 5) dMo_found_7 (by decide) ?_
  refine mn_cS (d' := 0) (w' := 0) (As := [.int x, .int 0, .int 5]) (stk' := [.int 0]) okMo_in lMo_68 dMo_found_8 rfl rfl (Nat.le_of_ble_eq_true rfl) (Nat.le_of_ble_eq_true rfl) (by decide) (c_M_in_n hx) rfl ?_
  refine mn_if_ne 16 dMo_found_11 (by decide) (fun c2 => ?_) (fun c2 => ?_)
  · exact absurd c2 (by decide)
  · refine mn_iconst (v := -1) dMo_found_14 (by decide) ?_
    exact mn_iret rfl dMo_found_15 ⟨rfl, (mn_fr.rf.set eg1 (by show mo = mo; omega)), hM_g1⟩
set_option maxRecDepth 100000 in
theorem c_M_found_none {E : mn_En} {g : mn_H} {mo tl e sz rp st m r wd ag td om : Nat} (hM : mn_at g mo (.inr (11, [.int 0, .ref (mo + 1), .int (nI tl), .ref (mo + 2), .ref (mo + 3), .int (nI e), .int (nI sz), .int (nI rp), .int (nI st), .ref (mo + 4), .ref (mo + 5), .ref (mo + 6), .int 0, .int (nI m), .int (nI r), .int (nI wd), .int (nI ag), .ref (mo + 7), .ref (mo + 8), .ref (mo + 9), .ref (mo + 10), .int (nI td), .int (nI om), .ref (mo + 11), .ref (mo + 12), .ref (mo + 13), .ref (mo + 14), .ref (mo + 15), .ref (mo + 16)]))) {k : Nat} (hk : k ≤ 5) : mn_R E MMo_found 1 22 0 0 0 [(0, .ref mo), (1, .int (nI k))] [] g (fun x g' => x = some (.int (-2)) ∧ mn_fr (fun q => q = mo) g g' ∧ mn_at g' mo (.inr (11, [.int 0, .ref (mo + 1), .int (nI tl), .ref (mo + 2), .ref (mo + 3), .int (nI e), .int (nI sz), .int (nI rp), .int (nI st), .ref (mo + 4), .ref (mo + 5), .ref (mo + 6), .int 0, .int (nI m), .int (nI r), .int (nI wd), .int (nI ag), .ref (mo + 7), .ref (mo + 8), .ref (mo + 9), .ref (mo + 10), .int (nI td), .int (nI om), .ref (mo + 11), .ref (mo + 12), .ref (mo + 13), .ref (mo + 14), .ref (mo + 15), .ref (mo + 16)]))) := by
  refine mn_aload_n 0 dMo_found_0 rfl rfl ?_
  refine mn_iconst (v := 0) dMo_found_1 (by decide) ?_
  refine mn_putf okMo 0 lMo_1 (by decide) rfl hM rfl rfl (Nat.le_of_ble_eq_true rfl) dMo_found_2 ?_
  obtain ⟨g1, eg1⟩ : ∃ gg_, gg_ = mn_set g mo (.inr (11, [.int 0, .ref (mo + 1), .int (nI tl), .ref (mo + 2), .ref (mo + 3), .int (nI e), .int (nI sz), .int (nI rp), .int (nI st), .ref (mo + 4), .ref (mo + 5), .ref (mo + 6), .int 0, .int (nI m), .int (nI r), .int (nI wd), .int (nI ag), .ref (mo + 7), .ref (mo + 8), .ref (mo + 9), .ref (mo + 10), .int (nI td), .int (nI om), .ref (mo + 11), .ref (mo + 12), .ref (mo + 13), .ref (mo + 14), .ref (mo + 15), .ref (mo + 16)])) := ⟨_, rfl⟩
  refine mn_R.toG eg1 ?_
  have hM_g1 : mn_at g1 mo (.inr (11, [.int 0, .ref (mo + 1), .int (nI tl), .ref (mo + 2), .ref (mo + 3), .int (nI e), .int (nI sz), .int (nI rp), .int (nI st), .ref (mo + 4), .ref (mo + 5), .ref (mo + 6), .int 0, .int (nI m), .int (nI r), .int (nI wd), .int (nI ag), .ref (mo + 7), .ref (mo + 8), .ref (mo + 9), .ref (mo + 10), .int (nI td), .int (nI om), .ref (mo + 11), .ref (mo + 12), .ref (mo + 13), .ref (mo + 14), .ref (mo + 15), .ref (mo + 16)])) := by rw [eg1]; exact hM.same
  refine mn_iload_n 1 dMo_found_5 rfl rfl ?_
  refine mn_iconst (v := 0) dMo_found_6 (by decide) ?_
  refine mn_iconst (v := 5) dMo_found_7 (by decide) ?_
  refine mn_cS (d' := 0) (w' := 0) (As := [.int (nI k), .int 0, .int 5]) (stk' := [.int 1]) okMo_in lMo_68 dMo_found_8 rfl rfl (Nat.le_of_ble_eq_true rfl) (Nat.le_of_ble_eq_true rfl) (by decide) (c_M_in_y (nI_pos (by omega)) (ml_lt (a := k) (b := 5) (by omega) (by omega) hk)) rfl ?_
  refine mn_if_ne 16 dMo_found_11 (by decide) (fun c2 => ?_) (fun c2 => ?_)
  · refine mn_aload_n 0 dMo_found_16 rfl rfl ?_
    refine mn_get okMo 12 lMo_140 (by decide) hM_g1 rfl dMo_found_17 ?_
    refine mn_if_ne 26 dMo_found_20 (by decide) (fun c3 => ?_) (fun c3 => ?_)
    · exact absurd c3 (by decide)
    · refine mn_bipush (v := (-2)) dMo_found_23 (by decide) ?_
      exact mn_iret rfl dMo_found_25 ⟨rfl, (mn_fr.rf.set eg1 (by show mo = mo; omega)), hM_g1⟩
  · exact absurd c2 (by decide)
set_option maxRecDepth 100000 in
theorem c_M_found0 {E : mn_En} {g : mn_H} {mo tl e sz rp st m r wd ag td om : Nat} (hM : mn_at g mo (.inr (11, [.int 0, .ref (mo + 1), .int (nI tl), .ref (mo + 2), .ref (mo + 3), .int (nI e), .int (nI sz), .int (nI rp), .int (nI st), .ref (mo + 4), .ref (mo + 5), .ref (mo + 6), .int 1, .int (nI m), .int (nI r), .int (nI wd), .int (nI ag), .ref (mo + 7), .ref (mo + 8), .ref (mo + 9), .ref (mo + 10), .int (nI td), .int (nI om), .ref (mo + 11), .ref (mo + 12), .ref (mo + 13), .ref (mo + 14), .ref (mo + 15), .ref (mo + 16)]))) : mn_R E MMo_found 1 22 0 0 0 [(0, .ref mo), (1, .int 0)] [] g (fun x g' => x = some (.int (nI m)) ∧ mn_fr (fun q => q = mo) g g' ∧ mn_at g' mo (.inr (11, [.int 0, .ref (mo + 1), .int (nI tl), .ref (mo + 2), .ref (mo + 3), .int (nI e), .int (nI sz), .int (nI rp), .int (nI st), .ref (mo + 4), .ref (mo + 5), .ref (mo + 6), .int 1, .int (nI m), .int (nI r), .int (nI wd), .int (nI ag), .ref (mo + 7), .ref (mo + 8), .ref (mo + 9), .ref (mo + 10), .int (nI td), .int (nI om), .ref (mo + 11), .ref (mo + 12), .ref (mo + 13), .ref (mo + 14), .ref (mo + 15), .ref (mo + 16)]))) := by
  refine mn_aload_n 0 dMo_found_0 rfl rfl ?_
  refine mn_iconst (v := 0) dMo_found_1 (by decide) ?_
  refine mn_putf okMo 0 lMo_1 (by decide) rfl hM rfl rfl (Nat.le_of_ble_eq_true rfl) dMo_found_2 ?_
  obtain ⟨g1, eg1⟩ : ∃ gg_, gg_ = mn_set g mo (.inr (11, [.int 0, .ref (mo + 1), .int (nI tl), .ref (mo + 2), .ref (mo + 3), .int (nI e), .int (nI sz), .int (nI rp), .int (nI st), .ref (mo + 4), .ref (mo + 5), .ref (mo + 6), .int 1, .int (nI m), .int (nI r), .int (nI wd), .int (nI ag), .ref (mo + 7), .ref (mo + 8), .ref (mo + 9), .ref (mo + 10), .int (nI td), .int (nI om), .ref (mo + 11), .ref (mo + 12), .ref (mo + 13), .ref (mo + 14), .ref (mo + 15), .ref (mo + 16)])) := ⟨_, rfl⟩
  refine mn_R.toG eg1 ?_
  have hM_g1 : mn_at g1 mo (.inr (11, [.int 0, .ref (mo + 1), .int (nI tl), .ref (mo + 2), .ref (mo + 3), .int (nI e), .int (nI sz), .int (nI rp), .int (nI st), .ref (mo + 4), .ref (mo + 5), .ref (mo + 6), .int 1, .int (nI m), .int (nI r), .int (nI wd), .int (nI ag), .ref (mo + 7), .ref (mo + 8), .ref (mo + 9), .ref (mo + 10), .int (nI td), .int (nI om), .ref (mo + 11), .ref (mo + 12), .ref (mo + 13), .ref (mo + 14), .ref (mo + 15), .ref (mo + 16)])) := by rw [eg1]; exact hM.same
  refine mn_iload_n 1 dMo_found_5 rfl rfl ?_
  refine mn_iconst (v := 0) dMo_found_6 (by decide) ?_
  refine mn_iconst (v := 5) dMo_found_7 (by decide) ?_
  refine mn_cS (d' := 0) (w' := 0) (As := [.int 0, .int 0, .int 5]) (stk' := [.int 1]) okMo_in lMo_68 dMo_found_8 rfl rfl (Nat.le_of_ble_eq_true rfl) (Nat.le_of_ble_eq_true rfl) (by decide) (c_M_in_y (by decide) (by decide)) rfl ?_
  refine mn_if_ne 16 dMo_found_11 (by decide) (fun c2 => ?_) (fun c2 => ?_)
  · refine mn_aload_n 0 dMo_found_16 rfl rfl ?_
    refine mn_get okMo 12 lMo_140 (by decide) hM_g1 rfl dMo_found_17 ?_
    refine mn_if_ne 26 dMo_found_20 (by decide) (fun c3 => ?_) (fun c3 => ?_)
    · refine mn_iload_n 1 dMo_found_26 rfl rfl ?_
      refine mn_if_ne 37 dMo_found_27 (by decide) (fun c4 => ?_) (fun c4 => ?_)
      · exact absurd c4 (by decide)
      · refine mn_aload_n 0 dMo_found_30 rfl rfl ?_
        refine mn_get okMo 13 lMo_144 (by decide) hM_g1 rfl dMo_found_31 ?_
        refine mn_goto 89 dMo_found_34 (by decide) ?_
        exact mn_iret rfl dMo_found_89 ⟨rfl, (mn_fr.rf.set eg1 (by show mo = mo; omega)), hM_g1⟩
    · exact absurd c3 (by decide)
  · exact absurd c2 (by decide)
set_option maxRecDepth 100000 in
theorem c_M_found1 {E : mn_En} {g : mn_H} {mo tl e sz rp st m r wd ag td om : Nat} (hM : mn_at g mo (.inr (11, [.int 0, .ref (mo + 1), .int (nI tl), .ref (mo + 2), .ref (mo + 3), .int (nI e), .int (nI sz), .int (nI rp), .int (nI st), .ref (mo + 4), .ref (mo + 5), .ref (mo + 6), .int 1, .int (nI m), .int (nI r), .int (nI wd), .int (nI ag), .ref (mo + 7), .ref (mo + 8), .ref (mo + 9), .ref (mo + 10), .int (nI td), .int (nI om), .ref (mo + 11), .ref (mo + 12), .ref (mo + 13), .ref (mo + 14), .ref (mo + 15), .ref (mo + 16)]))) : mn_R E MMo_found 1 22 0 0 0 [(0, .ref mo), (1, .int 1)] [] g (fun x g' => x = some (.int (nI r)) ∧ mn_fr (fun q => q = mo) g g' ∧ mn_at g' mo (.inr (11, [.int 0, .ref (mo + 1), .int (nI tl), .ref (mo + 2), .ref (mo + 3), .int (nI e), .int (nI sz), .int (nI rp), .int (nI st), .ref (mo + 4), .ref (mo + 5), .ref (mo + 6), .int 1, .int (nI m), .int (nI r), .int (nI wd), .int (nI ag), .ref (mo + 7), .ref (mo + 8), .ref (mo + 9), .ref (mo + 10), .int (nI td), .int (nI om), .ref (mo + 11), .ref (mo + 12), .ref (mo + 13), .ref (mo + 14), .ref (mo + 15), .ref (mo + 16)]))) := by
  refine mn_aload_n 0 dMo_found_0 rfl rfl ?_
  refine mn_iconst (v := 0) dMo_found_1 (by decide) ?_
  refine mn_putf okMo 0 lMo_1 (by decide) rfl hM rfl rfl (Nat.le_of_ble_eq_true rfl) dMo_found_2 ?_
  obtain ⟨g1, eg1⟩ : ∃ gg_, gg_ = mn_set g mo (.inr (11, [.int 0, .ref (mo + 1), .int (nI tl), .ref (mo + 2), .ref (mo + 3), .int (nI e), .int (nI sz), .int (nI rp), .int (nI st), .ref (mo + 4), .ref (mo + 5), .ref (mo + 6), .int 1, .int (nI m), .int (nI r), .int (nI wd), .int (nI ag), .ref (mo + 7), .ref (mo + 8), .ref (mo + 9), .ref (mo + 10), .int (nI td), .int (nI om), .ref (mo + 11), .ref (mo + 12), .ref (mo + 13), .ref (mo + 14), .ref (mo + 15), .ref (mo + 16)])) := ⟨_, rfl⟩
  refine mn_R.toG eg1 ?_
  have hM_g1 : mn_at g1 mo (.inr (11, [.int 0, .ref (mo + 1), .int (nI tl), .ref (mo + 2), .ref (mo + 3), .int (nI e), .int (nI sz), .int (nI rp), .int (nI st), .ref (mo + 4), .ref (mo + 5), .ref (mo + 6), .int 1, .int (nI m), .int (nI r), .int (nI wd), .int (nI ag), .ref (mo + 7), .ref (mo + 8), .ref (mo + 9), .ref (mo + 10), .int (nI td), .int (nI om), .ref (mo + 11), .ref (mo + 12), .ref (mo + 13), .ref (mo + 14), .ref (mo + 15), .ref (mo + 16)])) := by rw [eg1]; exact hM.same
  refine mn_iload_n 1 dMo_found_5 rfl rfl ?_
  refine mn_iconst (v := 0) dMo_found_6 (by decide) ?_
  refine mn_iconst (v := 5) dMo_found_7 (by decide) ?_
  refine mn_cS (d' := 0) (w' := 0) (As := [.int 1, .int 0, .int 5]) (stk' := [.int 1]) okMo_in lMo_68 dMo_found_8 rfl rfl (Nat.le_of_ble_eq_true rfl) (Nat.le_of_ble_eq_true rfl) (by decide) (c_M_in_y (by decide) (by decide)) rfl ?_
  refine mn_if_ne 16 dMo_found_11 (by decide) (fun c2 => ?_) (fun c2 => ?_)
  · refine mn_aload_n 0 dMo_found_16 rfl rfl ?_
    refine mn_get okMo 12 lMo_140 (by decide) hM_g1 rfl dMo_found_17 ?_
    refine mn_if_ne 26 dMo_found_20 (by decide) (fun c3 => ?_) (fun c3 => ?_)
    · refine mn_iload_n 1 dMo_found_26 rfl rfl ?_
      refine mn_if_ne 37 dMo_found_27 (by decide) (fun c4 => ?_) (fun c4 => ?_)
      · refine mn_iload_n 1 dMo_found_37 rfl rfl ?_
        refine mn_iconst (v := 1) dMo_found_38 (by decide) ?_
        refine mn_icmp_ne 49 dMo_found_39 (by decide) (fun c5 => ?_) (fun c5 => ?_)
        · exact absurd c5 (by decide)
        · refine mn_aload_n 0 dMo_found_42 rfl rfl ?_
          refine mn_get okMo 14 lMo_147 (by decide) hM_g1 rfl dMo_found_43 ?_
          refine mn_goto 89 dMo_found_46 (by decide) ?_
          exact mn_iret rfl dMo_found_89 ⟨rfl, (mn_fr.rf.set eg1 (by show mo = mo; omega)), hM_g1⟩
      · exact absurd c4 (by decide)
    · exact absurd c3 (by decide)
  · exact absurd c2 (by decide)
set_option maxRecDepth 100000 in
theorem c_M_found2 {E : mn_En} {g : mn_H} {mo tl e sz rp st m r wd ag td om : Nat} (hM : mn_at g mo (.inr (11, [.int 0, .ref (mo + 1), .int (nI tl), .ref (mo + 2), .ref (mo + 3), .int (nI e), .int (nI sz), .int (nI rp), .int (nI st), .ref (mo + 4), .ref (mo + 5), .ref (mo + 6), .int 1, .int (nI m), .int (nI r), .int (nI wd), .int (nI ag), .ref (mo + 7), .ref (mo + 8), .ref (mo + 9), .ref (mo + 10), .int (nI td), .int (nI om), .ref (mo + 11), .ref (mo + 12), .ref (mo + 13), .ref (mo + 14), .ref (mo + 15), .ref (mo + 16)]))) : mn_R E MMo_found 1 22 0 0 0 [(0, .ref mo), (1, .int 2)] [] g (fun x g' => x = some (.int (nI wd)) ∧ mn_fr (fun q => q = mo) g g' ∧ mn_at g' mo (.inr (11, [.int 0, .ref (mo + 1), .int (nI tl), .ref (mo + 2), .ref (mo + 3), .int (nI e), .int (nI sz), .int (nI rp), .int (nI st), .ref (mo + 4), .ref (mo + 5), .ref (mo + 6), .int 1, .int (nI m), .int (nI r), .int (nI wd), .int (nI ag), .ref (mo + 7), .ref (mo + 8), .ref (mo + 9), .ref (mo + 10), .int (nI td), .int (nI om), .ref (mo + 11), .ref (mo + 12), .ref (mo + 13), .ref (mo + 14), .ref (mo + 15), .ref (mo + 16)]))) := by
  refine mn_aload_n 0 dMo_found_0 rfl rfl ?_
  refine mn_iconst (v := 0) dMo_found_1 (by decide) ?_
  refine mn_putf okMo 0 lMo_1 (by decide) rfl hM rfl rfl (Nat.le_of_ble_eq_true rfl) dMo_found_2 ?_
  obtain ⟨g1, eg1⟩ : ∃ gg_, gg_ = mn_set g mo (.inr (11, [.int 0, .ref (mo + 1), .int (nI tl), .ref (mo + 2), .ref (mo + 3), .int (nI e), .int (nI sz), .int (nI rp), .int (nI st), .ref (mo + 4), .ref (mo + 5), .ref (mo + 6), .int 1, .int (nI m), .int (nI r), .int (nI wd), .int (nI ag), .ref (mo + 7), .ref (mo + 8), .ref (mo + 9), .ref (mo + 10), .int (nI td), .int (nI om), .ref (mo + 11), .ref (mo + 12), .ref (mo + 13), .ref (mo + 14), .ref (mo + 15), .ref (mo + 16)])) := ⟨_, rfl⟩
  refine mn_R.toG eg1 ?_
  have hM_g1 : mn_at g1 mo (.inr (11, [.int 0, .ref (mo + 1), .int (nI tl), .ref (mo + 2), .ref (mo + 3), .int (nI e), .int (nI sz), .int (nI rp), .int (nI st), .ref (mo + 4), .ref (mo + 5), .ref (mo + 6), .int 1, .int (nI m), .int (nI r), .int (nI wd), .int (nI ag), .ref (mo + 7), .ref (mo + 8), .ref (mo + 9), .ref (mo + 10), .int (nI td), .int (nI om), .ref (mo + 11), .ref (mo + 12), .ref (mo + 13), .ref (mo + 14), .ref (mo + 15), .ref (mo + 16)])) := by rw [eg1]; exact hM.same
  refine mn_iload_n 1 dMo_found_5 rfl rfl ?_
  refine mn_iconst (v := 0) dMo_found_6 (by decide) ?_
  refine mn_iconst (v := 5) dMo_found_7 (by decide) ?_
  refine mn_cS (d' := 0) (w' := 0) (As := [.int 2, .int 0, .int 5]) (stk' := [.int 1]) okMo_in lMo_68 dMo_found_8 rfl rfl (Nat.le_of_ble_eq_true rfl) (Nat.le_of_ble_eq_true rfl) (by decide) (c_M_in_y (by decide) (by decide)) rfl ?_
  refine mn_if_ne 16 dMo_found_11 (by decide) (fun c2 => ?_) (fun c2 => ?_)
  · refine mn_aload_n 0 dMo_found_16 rfl rfl ?_
    refine mn_get okMo 12 lMo_140 (by decide) hM_g1 rfl dMo_found_17 ?_
    refine mn_if_ne 26 dMo_found_20 (by decide) (fun c3 => ?_) (fun c3 => ?_)
    · refine mn_iload_n 1 dMo_found_26 rfl rfl ?_
      refine mn_if_ne 37 dMo_found_27 (by decide) (fun c4 => ?_) (fun c4 => ?_)
      · refine mn_iload_n 1 dMo_found_37 rfl rfl ?_
        refine mn_iconst (v := 1) dMo_found_38 (by decide) ?_
        refine mn_icmp_ne 49 dMo_found_39 (by decide) (fun c5 => ?_) (fun c5 => ?_)
        · refine mn_iload_n 1 dMo_found_49 rfl rfl ?_
          refine mn_iconst (v := 2) dMo_found_50 (by decide) ?_
          refine mn_icmp_ne 61 dMo_found_51 (by decide) (fun c6 => ?_) (fun c6 => ?_)
          · exact absurd c6 (by decide)
          · refine mn_aload_n 0 dMo_found_54 rfl rfl ?_
            refine mn_get okMo 15 lMo_150 (by decide) hM_g1 rfl dMo_found_55 ?_
            refine mn_goto 89 dMo_found_58 (by decide) ?_
            exact mn_iret rfl dMo_found_89 ⟨rfl, (mn_fr.rf.set eg1 (by show mo = mo; omega)), hM_g1⟩
        · exact absurd c5 (by decide)
      · exact absurd c4 (by decide)
    · exact absurd c3 (by decide)
  · exact absurd c2 (by decide)
set_option maxRecDepth 100000 in
theorem c_M_found3 {E : mn_En} {g : mn_H} {mo tl e sz rp st m r wd ag td om : Nat} (hM : mn_at g mo (.inr (11, [.int 0, .ref (mo + 1), .int (nI tl), .ref (mo + 2), .ref (mo + 3), .int (nI e), .int (nI sz), .int (nI rp), .int (nI st), .ref (mo + 4), .ref (mo + 5), .ref (mo + 6), .int 1, .int (nI m), .int (nI r), .int (nI wd), .int (nI ag), .ref (mo + 7), .ref (mo + 8), .ref (mo + 9), .ref (mo + 10), .int (nI td), .int (nI om), .ref (mo + 11), .ref (mo + 12), .ref (mo + 13), .ref (mo + 14), .ref (mo + 15), .ref (mo + 16)]))) : mn_R E MMo_found 1 22 0 0 0 [(0, .ref mo), (1, .int 3)] [] g (fun x g' => x = some (.int (nI ag)) ∧ mn_fr (fun q => q = mo) g g' ∧ mn_at g' mo (.inr (11, [.int 0, .ref (mo + 1), .int (nI tl), .ref (mo + 2), .ref (mo + 3), .int (nI e), .int (nI sz), .int (nI rp), .int (nI st), .ref (mo + 4), .ref (mo + 5), .ref (mo + 6), .int 1, .int (nI m), .int (nI r), .int (nI wd), .int (nI ag), .ref (mo + 7), .ref (mo + 8), .ref (mo + 9), .ref (mo + 10), .int (nI td), .int (nI om), .ref (mo + 11), .ref (mo + 12), .ref (mo + 13), .ref (mo + 14), .ref (mo + 15), .ref (mo + 16)]))) := by
  refine mn_aload_n 0 dMo_found_0 rfl rfl ?_
  refine mn_iconst (v := 0) dMo_found_1 (by decide) ?_
  refine mn_putf okMo 0 lMo_1 (by decide) rfl hM rfl rfl (Nat.le_of_ble_eq_true rfl) dMo_found_2 ?_
  obtain ⟨g1, eg1⟩ : ∃ gg_, gg_ = mn_set g mo (.inr (11, [.int 0, .ref (mo + 1), .int (nI tl), .ref (mo + 2), .ref (mo + 3), .int (nI e), .int (nI sz), .int (nI rp), .int (nI st), .ref (mo + 4), .ref (mo + 5), .ref (mo + 6), .int 1, .int (nI m), .int (nI r), .int (nI wd), .int (nI ag), .ref (mo + 7), .ref (mo + 8), .ref (mo + 9), .ref (mo + 10), .int (nI td), .int (nI om), .ref (mo + 11), .ref (mo + 12), .ref (mo + 13), .ref (mo + 14), .ref (mo + 15), .ref (mo + 16)])) := ⟨_, rfl⟩
  refine mn_R.toG eg1 ?_
  have hM_g1 : mn_at g1 mo (.inr (11, [.int 0, .ref (mo + 1), .int (nI tl), .ref (mo + 2), .ref (mo + 3), .int (nI e), .int (nI sz), .int (nI rp), .int (nI st), .ref (mo + 4), .ref (mo + 5), .ref (mo + 6), .int 1, .int (nI m), .int (nI r), .int (nI wd), .int (nI ag), .ref (mo + 7), .ref (mo + 8), .ref (mo + 9), .ref (mo + 10), .int (nI td), .int (nI om), .ref (mo + 11), .ref (mo + 12), .ref (mo + 13), .ref (mo + 14), .ref (mo + 15), .ref (mo + 16)])) := by rw [eg1]; exact hM.same
  refine mn_iload_n 1 dMo_found_5 rfl rfl ?_
  refine mn_iconst (v := 0) dMo_found_6 (by decide) ?_
  refine mn_iconst (v := 5) dMo_found_7 (by decide) ?_
  refine mn_cS (d' := 0) (w' := 0) (As := [.int 3, .int 0, .int 5]) (stk' := [.int 1]) okMo_in lMo_68 dMo_found_8 rfl rfl (Nat.le_of_ble_eq_true rfl) (Nat.le_of_ble_eq_true rfl) (by decide) (c_M_in_y (by decide) (by decide)) rfl ?_
  refine mn_if_ne 16 dMo_found_11 (by decide) (fun c2 => ?_) (fun c2 => ?_)
  · refine mn_aload_n 0 dMo_found_16 rfl rfl ?_
    refine mn_get okMo 12 lMo_140 (by decide) hM_g1 rfl dMo_found_17 ?_
    refine mn_if_ne 26 dMo_found_20 (by decide) (fun c3 => ?_) (fun c3 => ?_)
    · refine mn_iload_n 1 dMo_found_26 rfl rfl ?_
      refine mn_if_ne 37 dMo_found_27 (by decide) (fun c4 => ?_) (fun c4 => ?_)
      · refine mn_iload_n 1 dMo_found_37 rfl rfl ?_
        refine mn_iconst (v := 1) dMo_found_38 (by decide) ?_
        refine mn_icmp_ne 49 dMo_found_39 (by decide) (fun c5 => ?_) (fun c5 => ?_)
        · refine mn_iload_n 1 dMo_found_49 rfl rfl ?_
          refine mn_iconst (v := 2) dMo_found_50 (by decide) ?_
          refine mn_icmp_ne 61 dMo_found_51 (by decide) (fun c6 => ?_) (fun c6 => ?_)
          · refine mn_iload_n 1 dMo_found_61 rfl rfl ?_
            refine mn_iconst (v := 3) dMo_found_62 (by decide) ?_
            refine mn_icmp_ne 73 dMo_found_63 (by decide) (fun c7 => ?_) (fun c7 => ?_)
            · exact absurd c7 (by decide)
            · refine mn_aload_n 0 dMo_found_66 rfl rfl ?_
              refine mn_get okMo 16 lMo_159 (by decide) hM_g1 rfl dMo_found_67 ?_
              refine mn_goto 89 dMo_found_70 (by decide) ?_
              exact mn_iret rfl dMo_found_89 ⟨rfl, (mn_fr.rf.set eg1 (by show mo = mo; omega)), hM_g1⟩
          · exact absurd c6 (by decide)
        · exact absurd c5 (by decide)
      · exact absurd c4 (by decide)
    · exact absurd c3 (by decide)
  · exact absurd c2 (by decide)
set_option maxRecDepth 100000 in
theorem c_M_found4 {E : mn_En} {g : mn_H} {mo tl e sz rp st m r wd ag td om : Nat} (hM : mn_at g mo (.inr (11, [.int 0, .ref (mo + 1), .int (nI tl), .ref (mo + 2), .ref (mo + 3), .int (nI e), .int (nI sz), .int (nI rp), .int (nI st), .ref (mo + 4), .ref (mo + 5), .ref (mo + 6), .int 1, .int (nI m), .int (nI r), .int (nI wd), .int (nI ag), .ref (mo + 7), .ref (mo + 8), .ref (mo + 9), .ref (mo + 10), .int (nI td), .int (nI om), .ref (mo + 11), .ref (mo + 12), .ref (mo + 13), .ref (mo + 14), .ref (mo + 15), .ref (mo + 16)]))) : mn_R E MMo_found 1 22 0 0 0 [(0, .ref mo), (1, .int 4)] [] g (fun x g' => x = some (.int (nI td)) ∧ mn_fr (fun q => q = mo) g g' ∧ mn_at g' mo (.inr (11, [.int 0, .ref (mo + 1), .int (nI tl), .ref (mo + 2), .ref (mo + 3), .int (nI e), .int (nI sz), .int (nI rp), .int (nI st), .ref (mo + 4), .ref (mo + 5), .ref (mo + 6), .int 1, .int (nI m), .int (nI r), .int (nI wd), .int (nI ag), .ref (mo + 7), .ref (mo + 8), .ref (mo + 9), .ref (mo + 10), .int (nI td), .int (nI om), .ref (mo + 11), .ref (mo + 12), .ref (mo + 13), .ref (mo + 14), .ref (mo + 15), .ref (mo + 16)]))) := by
  refine mn_aload_n 0 dMo_found_0 rfl rfl ?_
  refine mn_iconst (v := 0) dMo_found_1 (by decide) ?_
  refine mn_putf okMo 0 lMo_1 (by decide) rfl hM rfl rfl (Nat.le_of_ble_eq_true rfl) dMo_found_2 ?_
  obtain ⟨g1, eg1⟩ : ∃ gg_, gg_ = mn_set g mo (.inr (11, [.int 0, .ref (mo + 1), .int (nI tl), .ref (mo + 2), .ref (mo + 3), .int (nI e), .int (nI sz), .int (nI rp), .int (nI st), .ref (mo + 4), .ref (mo + 5), .ref (mo + 6), .int 1, .int (nI m), .int (nI r), .int (nI wd), .int (nI ag), .ref (mo + 7), .ref (mo + 8), .ref (mo + 9), .ref (mo + 10), .int (nI td), .int (nI om), .ref (mo + 11), .ref (mo + 12), .ref (mo + 13), .ref (mo + 14), .ref (mo + 15), .ref (mo + 16)])) := ⟨_, rfl⟩
  refine mn_R.toG eg1 ?_
  have hM_g1 : mn_at g1 mo (.inr (11, [.int 0, .ref (mo + 1), .int (nI tl), .ref (mo + 2), .ref (mo + 3), .int (nI e), .int (nI sz), .int (nI rp), .int (nI st), .ref (mo + 4), .ref (mo + 5), .ref (mo + 6), .int 1, .int (nI m), .int (nI r), .int (nI wd), .int (nI ag), .ref (mo + 7), .ref (mo + 8), .ref (mo + 9), .ref (mo + 10), .int (nI td), .int (nI om), .ref (mo + 11), .ref (mo + 12), .ref (mo + 13), .ref (mo + 14), .ref (mo + 15), .ref (mo + 16)])) := by rw [eg1]; exact hM.same
  refine mn_iload_n 1 dMo_found_5 rfl rfl ?_
  refine mn_iconst (v := 0) dMo_found_6 (by decide) ?_
  refine mn_iconst (v := 5) dMo_found_7 (by decide) ?_
  refine mn_cS (d' := 0) (w' := 0) (As := [.int 4, .int 0, .int 5]) (stk' := [.int 1]) okMo_in lMo_68 dMo_found_8 rfl rfl (Nat.le_of_ble_eq_true rfl) (Nat.le_of_ble_eq_true rfl) (by decide) (c_M_in_y (by decide) (by decide)) rfl ?_
  refine mn_if_ne 16 dMo_found_11 (by decide) (fun c2 => ?_) (fun c2 => ?_)
  · refine mn_aload_n 0 dMo_found_16 rfl rfl ?_
    refine mn_get okMo 12 lMo_140 (by decide) hM_g1 rfl dMo_found_17 ?_
    refine mn_if_ne 26 dMo_found_20 (by decide) (fun c3 => ?_) (fun c3 => ?_)
    · refine mn_iload_n 1 dMo_found_26 rfl rfl ?_
      refine mn_if_ne 37 dMo_found_27 (by decide) (fun c4 => ?_) (fun c4 => ?_)
      · refine mn_iload_n 1 dMo_found_37 rfl rfl ?_
        refine mn_iconst (v := 1) dMo_found_38 (by decide) ?_
        refine mn_icmp_ne 49 dMo_found_39 (by decide) (fun c5 => ?_) (fun c5 => ?_)
        · refine mn_iload_n 1 dMo_found_49 rfl rfl ?_
          refine mn_iconst (v := 2) dMo_found_50 (by decide) ?_
          refine mn_icmp_ne 61 dMo_found_51 (by decide) (fun c6 => ?_) (fun c6 => ?_)
          · refine mn_iload_n 1 dMo_found_61 rfl rfl ?_
            refine mn_iconst (v := 3) dMo_found_62 (by decide) ?_
            refine mn_icmp_ne 73 dMo_found_63 (by decide) (fun c7 => ?_) (fun c7 => ?_)
            · refine mn_iload_n 1 dMo_found_73 rfl rfl ?_
              refine mn_iconst (v := 4) dMo_found_74 (by decide) ?_
              refine mn_icmp_ne 85 dMo_found_75 (by decide) (fun c8 => ?_) (fun c8 => ?_)
              · exact absurd c8 (by decide)
              · refine mn_aload_n 0 dMo_found_78 rfl rfl ?_
                refine mn_get okMo 21 lMo_175 (by decide) hM_g1 rfl dMo_found_79 ?_
                refine mn_goto 89 dMo_found_82 (by decide) ?_
                exact mn_iret rfl dMo_found_89 ⟨rfl, (mn_fr.rf.set eg1 (by show mo = mo; omega)), hM_g1⟩
            · exact absurd c7 (by decide)
          · exact absurd c6 (by decide)
        · exact absurd c5 (by decide)
      · exact absurd c4 (by decide)
    · exact absurd c3 (by decide)
  · exact absurd c2 (by decide)
set_option maxRecDepth 100000 in
theorem c_M_found5 {E : mn_En} {g : mn_H} {mo tl e sz rp st m r wd ag td om : Nat} (hM : mn_at g mo (.inr (11, [.int 0, .ref (mo + 1), .int (nI tl), .ref (mo + 2), .ref (mo + 3), .int (nI e), .int (nI sz), .int (nI rp), .int (nI st), .ref (mo + 4), .ref (mo + 5), .ref (mo + 6), .int 1, .int (nI m), .int (nI r), .int (nI wd), .int (nI ag), .ref (mo + 7), .ref (mo + 8), .ref (mo + 9), .ref (mo + 10), .int (nI td), .int (nI om), .ref (mo + 11), .ref (mo + 12), .ref (mo + 13), .ref (mo + 14), .ref (mo + 15), .ref (mo + 16)]))) : mn_R E MMo_found 1 22 0 0 0 [(0, .ref mo), (1, .int 5)] [] g (fun x g' => x = some (.int (nI om)) ∧ mn_fr (fun q => q = mo) g g' ∧ mn_at g' mo (.inr (11, [.int 0, .ref (mo + 1), .int (nI tl), .ref (mo + 2), .ref (mo + 3), .int (nI e), .int (nI sz), .int (nI rp), .int (nI st), .ref (mo + 4), .ref (mo + 5), .ref (mo + 6), .int 1, .int (nI m), .int (nI r), .int (nI wd), .int (nI ag), .ref (mo + 7), .ref (mo + 8), .ref (mo + 9), .ref (mo + 10), .int (nI td), .int (nI om), .ref (mo + 11), .ref (mo + 12), .ref (mo + 13), .ref (mo + 14), .ref (mo + 15), .ref (mo + 16)]))) := by
  refine mn_aload_n 0 dMo_found_0 rfl rfl ?_
  refine mn_iconst (v := 0) dMo_found_1 (by decide) ?_
  refine mn_putf okMo 0 lMo_1 (by decide) rfl hM rfl rfl (Nat.le_of_ble_eq_true rfl) dMo_found_2 ?_
  obtain ⟨g1, eg1⟩ : ∃ gg_, gg_ = mn_set g mo (.inr (11, [.int 0, .ref (mo + 1), .int (nI tl), .ref (mo + 2), .ref (mo + 3), .int (nI e), .int (nI sz), .int (nI rp), .int (nI st), .ref (mo + 4), .ref (mo + 5), .ref (mo + 6), .int 1, .int (nI m), .int (nI r), .int (nI wd), .int (nI ag), .ref (mo + 7), .ref (mo + 8), .ref (mo + 9), .ref (mo + 10), .int (nI td), .int (nI om), .ref (mo + 11), .ref (mo + 12), .ref (mo + 13), .ref (mo + 14), .ref (mo + 15), .ref (mo + 16)])) := ⟨_, rfl⟩
  refine mn_R.toG eg1 ?_
  have hM_g1 : mn_at g1 mo (.inr (11, [.int 0, .ref (mo + 1), .int (nI tl), .ref (mo + 2), .ref (mo + 3), .int (nI e), .int (nI sz), .int (nI rp), .int (nI st), .ref (mo + 4), .ref (mo + 5), .ref (mo + 6), .int 1, .int (nI m), .int (nI r), .int (nI wd), .int (nI ag), .ref (mo + 7), .ref (mo + 8), .ref (mo + 9), .ref (mo + 10), .int (nI td), .int (nI om), .ref (mo + 11), .ref (mo + 12), .ref (mo + 13), .ref (mo + 14), .ref (mo + 15), .ref (mo + 16)])) := by rw [eg1]; exact hM.same
  refine mn_iload_n 1 dMo_found_5 rfl rfl ?_
  refine mn_iconst (v := 0) dMo_found_6 (by decide) ?_
  refine mn_iconst (v := 5) dMo_found_7 (by decide) ?_
  refine mn_cS (d' := 0) (w' := 0) (As := [.int 5, .int 0, .int 5]) (stk' := [.int 1]) okMo_in lMo_68 dMo_found_8 rfl rfl (Nat.le_of_ble_eq_true rfl) (Nat.le_of_ble_eq_true rfl) (by decide) (c_M_in_y (by decide) (by decide)) rfl ?_
  refine mn_if_ne 16 dMo_found_11 (by decide) (fun c2 => ?_) (fun c2 => ?_)
  · refine mn_aload_n 0 dMo_found_16 rfl rfl ?_
    refine mn_get okMo 12 lMo_140 (by decide) hM_g1 rfl dMo_found_17 ?_
    refine mn_if_ne 26 dMo_found_20 (by decide) (fun c3 => ?_) (fun c3 => ?_)
    · refine mn_iload_n 1 dMo_found_26 rfl rfl ?_
      refine mn_if_ne 37 dMo_found_27 (by decide) (fun c4 => ?_) (fun c4 => ?_)
      · refine mn_iload_n 1 dMo_found_37 rfl rfl ?_
        refine mn_iconst (v := 1) dMo_found_38 (by decide) ?_
        refine mn_icmp_ne 49 dMo_found_39 (by decide) (fun c5 => ?_) (fun c5 => ?_)
        · refine mn_iload_n 1 dMo_found_49 rfl rfl ?_
          refine mn_iconst (v := 2) dMo_found_50 (by decide) ?_
          refine mn_icmp_ne 61 dMo_found_51 (by decide) (fun c6 => ?_) (fun c6 => ?_)
          · refine mn_iload_n 1 dMo_found_61 rfl rfl ?_
            refine mn_iconst (v := 3) dMo_found_62 (by decide) ?_
            refine mn_icmp_ne 73 dMo_found_63 (by decide) (fun c7 => ?_) (fun c7 => ?_)
            · refine mn_iload_n 1 dMo_found_73 rfl rfl ?_
              refine mn_iconst (v := 4) dMo_found_74 (by decide) ?_
              refine mn_icmp_ne 85 dMo_found_75 (by decide) (fun c8 => ?_) (fun c8 => ?_)
              · refine mn_aload_n 0 dMo_found_85 rfl rfl ?_
                refine mn_get okMo 22 lMo_178 (by decide) hM_g1 rfl dMo_found_86 ?_
                exact mn_iret rfl dMo_found_89 ⟨rfl, (mn_fr.rf.set eg1 (by show mo = mo; omega)), hM_g1⟩
              · exact absurd c8 (by decide)
            · exact absurd c7 (by decide)
          · exact absurd c6 (by decide)
        · exact absurd c5 (by decide)
      · exact absurd c4 (by decide)
    · exact absurd c3 (by decide)
  · exact absurd c2 (by decide)
set_option maxRecDepth 100000 in
theorem c_M_where_none {E : mn_En} {g : mn_H} {mo tl e sz rp st m r wd ag td om : Nat} (hM : mn_at g mo (.inr (11, [.int 0, .ref (mo + 1), .int (nI tl), .ref (mo + 2), .ref (mo + 3), .int (nI e), .int (nI sz), .int (nI rp), .int (nI st), .ref (mo + 4), .ref (mo + 5), .ref (mo + 6), .int 0, .int (nI m), .int (nI r), .int (nI wd), .int (nI ag), .ref (mo + 7), .ref (mo + 8), .ref (mo + 9), .ref (mo + 10), .int (nI td), .int (nI om), .ref (mo + 11), .ref (mo + 12), .ref (mo + 13), .ref (mo + 14), .ref (mo + 15), .ref (mo + 16)]))) {x : Int32} : mn_R E MMo_where 1 22 0 0 0 [(0, .ref mo), (1, .int x)] [] g (fun x g' => x = some (.int (-1)) ∧ mn_fr (fun q => q = mo) g g' ∧ mn_at g' mo (.inr (11, [.int 0, .ref (mo + 1), .int (nI tl), .ref (mo + 2), .ref (mo + 3), .int (nI e), .int (nI sz), .int (nI rp), .int (nI st), .ref (mo + 4), .ref (mo + 5), .ref (mo + 6), .int 0, .int (nI m), .int (nI r), .int (nI wd), .int (nI ag), .ref (mo + 7), .ref (mo + 8), .ref (mo + 9), .ref (mo + 10), .int (nI td), .int (nI om), .ref (mo + 11), .ref (mo + 12), .ref (mo + 13), .ref (mo + 14), .ref (mo + 15), .ref (mo + 16)]))) := by
  refine mn_aload_n 0 dMo_where_0 rfl rfl ?_
  refine mn_iconst (v := 0) dMo_where_1 (by decide) ?_
  refine mn_putf okMo 0 lMo_1 (by decide) rfl hM rfl rfl (Nat.le_of_ble_eq_true rfl) dMo_where_2 ?_
  obtain ⟨g1, eg1⟩ : ∃ gg_, gg_ = mn_set g mo (.inr (11, [.int 0, .ref (mo + 1), .int (nI tl), .ref (mo + 2), .ref (mo + 3), .int (nI e), .int (nI sz), .int (nI rp), .int (nI st), .ref (mo + 4), .ref (mo + 5), .ref (mo + 6), .int 0, .int (nI m), .int (nI r), .int (nI wd), .int (nI ag), .ref (mo + 7), .ref (mo + 8), .ref (mo + 9), .ref (mo + 10), .int (nI td), .int (nI om), .ref (mo + 11), .ref (mo + 12), .ref (mo + 13), .ref (mo + 14), .ref (mo + 15), .ref (mo + 16)])) := ⟨_, rfl⟩
  refine mn_R.toG eg1 ?_
  have hM_g1 : mn_at g1 mo (.inr (11, [.int 0, .ref (mo + 1), .int (nI tl), .ref (mo + 2), .ref (mo + 3), .int (nI e), .int (nI sz), .int (nI rp), .int (nI st), .ref (mo + 4), .ref (mo + 5), .ref (mo + 6), .int 0, .int (nI m), .int (nI r), .int (nI wd), .int (nI ag), .ref (mo + 7), .ref (mo + 8), .ref (mo + 9), .ref (mo + 10), .int (nI td), .int (nI om), .ref (mo + 11), .ref (mo + 12), .ref (mo + 13), .ref (mo + 14), .ref (mo + 15), .ref (mo + 16)])) := by rw [eg1]; exact hM.same
  refine mn_aload_n 0 dMo_where_5 rfl rfl ?_
  refine mn_get okMo 12 lMo_140 (by decide) hM_g1 rfl dMo_where_6 ?_
  refine mn_if_eq 31 dMo_where_9 (by decide) (fun c2 => ?_) (fun c2 => ?_)
  · refine mn_iconst (v := -1) dMo_where_31 (by decide) ?_
    refine mn_goto 41 dMo_where_32 (by decide) ?_
    exact mn_iret rfl dMo_where_41 ⟨rfl, (mn_fr.rf.set eg1 (by show mo = mo; omega)), hM_g1⟩
  · exact absurd c2 (by decide)
set_option maxRecDepth 100000 in
theorem c_M_where_bad {E : mn_En} {g : mn_H} {mo tl e sz rp st m r wd ag td om : Nat} (hM : mn_at g mo (.inr (11, [.int 0, .ref (mo + 1), .int (nI tl), .ref (mo + 2), .ref (mo + 3), .int (nI e), .int (nI sz), .int (nI rp), .int (nI st), .ref (mo + 4), .ref (mo + 5), .ref (mo + 6), .int 1, .int (nI m), .int (nI r), .int (nI wd), .int (nI ag), .ref (mo + 7), .ref (mo + 8), .ref (mo + 9), .ref (mo + 10), .int (nI td), .int (nI om), .ref (mo + 11), .ref (mo + 12), .ref (mo + 13), .ref (mo + 14), .ref (mo + 15), .ref (mo + 16)]))) (hm1 : 1 ≤ m) (hm : m ≤ 60) (hr3 : r ≤ 3) {x : Int32} (hx : x < 0 ∨ nI (m + r) ≤ x) : mn_R E MMo_where 1 22 0 0 0 [(0, .ref mo), (1, .int x)] [] g (fun x g' => x = some (.int (-1)) ∧ mn_fr (fun q => q = mo) g g' ∧ mn_at g' mo (.inr (11, [.int 0, .ref (mo + 1), .int (nI tl), .ref (mo + 2), .ref (mo + 3), .int (nI e), .int (nI sz), .int (nI rp), .int (nI st), .ref (mo + 4), .ref (mo + 5), .ref (mo + 6), .int 1, .int (nI m), .int (nI r), .int (nI wd), .int (nI ag), .ref (mo + 7), .ref (mo + 8), .ref (mo + 9), .ref (mo + 10), .int (nI td), .int (nI om), .ref (mo + 11), .ref (mo + 12), .ref (mo + 13), .ref (mo + 14), .ref (mo + 15), .ref (mo + 16)]))) := by
  refine mn_aload_n 0 dMo_where_0 rfl rfl ?_
  refine mn_iconst (v := 0) dMo_where_1 (by decide) ?_
  refine mn_putf okMo 0 lMo_1 (by decide) rfl hM rfl rfl (Nat.le_of_ble_eq_true rfl) dMo_where_2 ?_
  obtain ⟨g1, eg1⟩ : ∃ gg_, gg_ = mn_set g mo (.inr (11, [.int 0, .ref (mo + 1), .int (nI tl), .ref (mo + 2), .ref (mo + 3), .int (nI e), .int (nI sz), .int (nI rp), .int (nI st), .ref (mo + 4), .ref (mo + 5), .ref (mo + 6), .int 1, .int (nI m), .int (nI r), .int (nI wd), .int (nI ag), .ref (mo + 7), .ref (mo + 8), .ref (mo + 9), .ref (mo + 10), .int (nI td), .int (nI om), .ref (mo + 11), .ref (mo + 12), .ref (mo + 13), .ref (mo + 14), .ref (mo + 15), .ref (mo + 16)])) := ⟨_, rfl⟩
  refine mn_R.toG eg1 ?_
  have hM_g1 : mn_at g1 mo (.inr (11, [.int 0, .ref (mo + 1), .int (nI tl), .ref (mo + 2), .ref (mo + 3), .int (nI e), .int (nI sz), .int (nI rp), .int (nI st), .ref (mo + 4), .ref (mo + 5), .ref (mo + 6), .int 1, .int (nI m), .int (nI r), .int (nI wd), .int (nI ag), .ref (mo + 7), .ref (mo + 8), .ref (mo + 9), .ref (mo + 10), .int (nI td), .int (nI om), .ref (mo + 11), .ref (mo + 12), .ref (mo + 13), .ref (mo + 14), .ref (mo + 15), .ref (mo + 16)])) := by rw [eg1]; exact hM.same
  refine mn_aload_n 0 dMo_where_5 rfl rfl ?_
  refine mn_get okMo 12 lMo_140 (by decide) hM_g1 rfl dMo_where_6 ?_
  refine mn_if_eq 31 dMo_where_9 (by decide) (fun c2 => ?_) (fun c2 => ?_)
  · exact absurd c2 (by decide)
  · refine mn_iload_n 1 dMo_where_12 rfl rfl ?_
    refine mn_iconst (v := 0) dMo_where_13 (by decide) ?_
    refine mn_aload_n 0 dMo_where_14 rfl rfl ?_
    refine mn_get okMo 13 lMo_144 (by decide) hM_g1 rfl dMo_where_15 ?_
    refine mn_aload_n 0 dMo_where_18 rfl rfl ?_
    refine mn_get okMo 14 lMo_147 (by decide) hM_g1 rfl dMo_where_19 ?_
    refine mn_iadd (z := nI (m + r)) dMo_where_22 (nI_add m r) ?_
    refine mn_iconst (v := 1) dMo_where_23 (by decide) ?_
    refine mn_isub (z := nI (m + r - 1)) dMo_where_24 (pk_sub (a := m + r) (b := 1) (by omega)) ?_
    refine mn_cS (d' := 0) (w' := 0) (As := [.int x, .int 0, .int (nI (m + r - 1))]) (stk' := [.int 0]) okMo_in lMo_68 dMo_where_25 rfl rfl (Nat.le_of_ble_eq_true rfl) (Nat.le_of_ble_eq_true rfl) (by decide) (c_M_in_n (i32_n1 (by omega) (by omega) hx)) rfl ?_
    refine mn_if_ne 35 dMo_where_28 (by decide) (fun c3 => ?_) (fun c3 => ?_)
    · exact absurd c3 (by decide)
    · refine mn_iconst (v := -1) dMo_where_31 (by decide) ?_
      refine mn_goto 41 dMo_where_32 (by decide) ?_
      exact mn_iret rfl dMo_where_41 ⟨rfl, (mn_fr.rf.set eg1 (by show mo = mo; omega)), hM_g1⟩
set_option maxRecDepth 100000 in
theorem c_M_where {E : mn_En} {g : mn_H} {mo tl e sz rp st m r wd ag td om : Nat} {pm : Nat → Option Nat} (hM : mn_at g mo (.inr (11, [.int 0, .ref (mo + 1), .int (nI tl), .ref (mo + 2), .ref (mo + 3), .int (nI e), .int (nI sz), .int (nI rp), .int (nI st), .ref (mo + 4), .ref (mo + 5), .ref (mo + 6), .int 1, .int (nI m), .int (nI r), .int (nI wd), .int (nI ag), .ref (mo + 7), .ref (mo + 8), .ref (mo + 9), .ref (mo + 10), .int (nI td), .int (nI om), .ref (mo + 11), .ref (mo + 12), .ref (mo + 13), .ref (mo + 14), .ref (mo + 15), .ref (mo + 16)]))) (hPm : mn_at g (mo + 7) (.inl (0, 64, .inl (fun j => onI (pm j))))) (hm1 : 1 ≤ m) (hm : m ≤ 60) (hr3 : r ≤ 3) {k : Nat} (hk : k < m + r) : mn_R E MMo_where 1 22 0 0 0 [(0, .ref mo), (1, .int (nI k))] [] g (fun x g' => x = some (.int (onI (pm k))) ∧ mn_fr (fun q => q = mo) g g' ∧ mn_at g' mo (.inr (11, [.int 0, .ref (mo + 1), .int (nI tl), .ref (mo + 2), .ref (mo + 3), .int (nI e), .int (nI sz), .int (nI rp), .int (nI st), .ref (mo + 4), .ref (mo + 5), .ref (mo + 6), .int 1, .int (nI m), .int (nI r), .int (nI wd), .int (nI ag), .ref (mo + 7), .ref (mo + 8), .ref (mo + 9), .ref (mo + 10), .int (nI td), .int (nI om), .ref (mo + 11), .ref (mo + 12), .ref (mo + 13), .ref (mo + 14), .ref (mo + 15), .ref (mo + 16)]))) := by
  refine mn_aload_n 0 dMo_where_0 rfl rfl ?_
  refine mn_iconst (v := 0) dMo_where_1 (by decide) ?_
  refine mn_putf okMo 0 lMo_1 (by decide) rfl hM rfl rfl (Nat.le_of_ble_eq_true rfl) dMo_where_2 ?_
  obtain ⟨g1, eg1⟩ : ∃ gg_, gg_ = mn_set g mo (.inr (11, [.int 0, .ref (mo + 1), .int (nI tl), .ref (mo + 2), .ref (mo + 3), .int (nI e), .int (nI sz), .int (nI rp), .int (nI st), .ref (mo + 4), .ref (mo + 5), .ref (mo + 6), .int 1, .int (nI m), .int (nI r), .int (nI wd), .int (nI ag), .ref (mo + 7), .ref (mo + 8), .ref (mo + 9), .ref (mo + 10), .int (nI td), .int (nI om), .ref (mo + 11), .ref (mo + 12), .ref (mo + 13), .ref (mo + 14), .ref (mo + 15), .ref (mo + 16)])) := ⟨_, rfl⟩
  refine mn_R.toG eg1 ?_
  have hM_g1 : mn_at g1 mo (.inr (11, [.int 0, .ref (mo + 1), .int (nI tl), .ref (mo + 2), .ref (mo + 3), .int (nI e), .int (nI sz), .int (nI rp), .int (nI st), .ref (mo + 4), .ref (mo + 5), .ref (mo + 6), .int 1, .int (nI m), .int (nI r), .int (nI wd), .int (nI ag), .ref (mo + 7), .ref (mo + 8), .ref (mo + 9), .ref (mo + 10), .int (nI td), .int (nI om), .ref (mo + 11), .ref (mo + 12), .ref (mo + 13), .ref (mo + 14), .ref (mo + 15), .ref (mo + 16)])) := by rw [eg1]; exact hM.same
  have hPm_g1 : mn_at g1 (mo + 7) (.inl (0, 64, .inl (fun j => onI (pm j)))) := by rw [eg1]; exact hPm.off (by omega)
  refine mn_aload_n 0 dMo_where_5 rfl rfl ?_
  refine mn_get okMo 12 lMo_140 (by decide) hM_g1 rfl dMo_where_6 ?_
  refine mn_if_eq 31 dMo_where_9 (by decide) (fun c2 => ?_) (fun c2 => ?_)
  · exact absurd c2 (by decide)
  · refine mn_iload_n 1 dMo_where_12 rfl rfl ?_
    refine mn_iconst (v := 0) dMo_where_13 (by decide) ?_
    refine mn_aload_n 0 dMo_where_14 rfl rfl ?_
    refine mn_get okMo 13 lMo_144 (by decide) hM_g1 rfl dMo_where_15 ?_
    refine mn_aload_n 0 dMo_where_18 rfl rfl ?_
    refine mn_get okMo 14 lMo_147 (by decide) hM_g1 rfl dMo_where_19 ?_
    refine mn_iadd (z := nI (m + r)) dMo_where_22 (nI_add m r) ?_
    refine mn_iconst (v := 1) dMo_where_23 (by decide) ?_
    refine mn_isub (z := nI (m + r - 1)) dMo_where_24 (pk_sub (a := m + r) (b := 1) (by omega)) ?_
    refine mn_cS (d' := 0) (w' := 0) (As := [.int (nI k), .int 0, .int (nI (m + r - 1))]) (stk' := [.int 1]) okMo_in lMo_68 dMo_where_25 rfl rfl (Nat.le_of_ble_eq_true rfl) (Nat.le_of_ble_eq_true rfl) (by decide) (c_M_in_y (nI_pos (by omega)) (ml_lt (a := k) (b := m + r - 1) (by omega) (by omega) (by omega))) rfl ?_
    refine mn_if_ne 35 dMo_where_28 (by decide) (fun c3 => ?_) (fun c3 => ?_)
    · refine mn_aload_n 0 dMo_where_35 rfl rfl ?_
      refine mn_get okMo 17 lMo_35 (by decide) hM_g1 rfl dMo_where_36 ?_
      refine mn_iload_n 1 dMo_where_39 rfl rfl ?_
      refine mn_ialdN (j := k) hPm_g1 rfl (by omega) (by omega) dMo_where_40 ?_
      exact mn_iret rfl dMo_where_41 ⟨rfl, (mn_fr.rf.set eg1 (by show mo = mo; omega)), hM_g1⟩
    · exact absurd c3 (by decide)
set_option maxRecDepth 100000 in
theorem c_M_got_none {E : mn_En} {g : mn_H} {mo tl e sz rp st m r wd ag td om : Nat} (hM : mn_at g mo (.inr (11, [.int 0, .ref (mo + 1), .int (nI tl), .ref (mo + 2), .ref (mo + 3), .int (nI e), .int (nI sz), .int (nI rp), .int (nI st), .ref (mo + 4), .ref (mo + 5), .ref (mo + 6), .int 0, .int (nI m), .int (nI r), .int (nI wd), .int (nI ag), .ref (mo + 7), .ref (mo + 8), .ref (mo + 9), .ref (mo + 10), .int (nI td), .int (nI om), .ref (mo + 11), .ref (mo + 12), .ref (mo + 13), .ref (mo + 14), .ref (mo + 15), .ref (mo + 16)]))) {x : Int32} : mn_R E MMo_got 1 22 0 0 0 [(0, .ref mo), (1, .int x)] [] g (fun x g' => x = some (.int (-1)) ∧ mn_fr (fun q => q = mo) g g' ∧ mn_at g' mo (.inr (11, [.int 0, .ref (mo + 1), .int (nI tl), .ref (mo + 2), .ref (mo + 3), .int (nI e), .int (nI sz), .int (nI rp), .int (nI st), .ref (mo + 4), .ref (mo + 5), .ref (mo + 6), .int 0, .int (nI m), .int (nI r), .int (nI wd), .int (nI ag), .ref (mo + 7), .ref (mo + 8), .ref (mo + 9), .ref (mo + 10), .int (nI td), .int (nI om), .ref (mo + 11), .ref (mo + 12), .ref (mo + 13), .ref (mo + 14), .ref (mo + 15), .ref (mo + 16)]))) := by
  refine mn_aload_n 0 dMo_got_0 rfl rfl ?_
  refine mn_iconst (v := 0) dMo_got_1 (by decide) ?_
  refine mn_putf okMo 0 lMo_1 (by decide) rfl hM rfl rfl (Nat.le_of_ble_eq_true rfl) dMo_got_2 ?_
  obtain ⟨g1, eg1⟩ : ∃ gg_, gg_ = mn_set g mo (.inr (11, [.int 0, .ref (mo + 1), .int (nI tl), .ref (mo + 2), .ref (mo + 3), .int (nI e), .int (nI sz), .int (nI rp), .int (nI st), .ref (mo + 4), .ref (mo + 5), .ref (mo + 6), .int 0, .int (nI m), .int (nI r), .int (nI wd), .int (nI ag), .ref (mo + 7), .ref (mo + 8), .ref (mo + 9), .ref (mo + 10), .int (nI td), .int (nI om), .ref (mo + 11), .ref (mo + 12), .ref (mo + 13), .ref (mo + 14), .ref (mo + 15), .ref (mo + 16)])) := ⟨_, rfl⟩
  refine mn_R.toG eg1 ?_
  have hM_g1 : mn_at g1 mo (.inr (11, [.int 0, .ref (mo + 1), .int (nI tl), .ref (mo + 2), .ref (mo + 3), .int (nI e), .int (nI sz), .int (nI rp), .int (nI st), .ref (mo + 4), .ref (mo + 5), .ref (mo + 6), .int 0, .int (nI m), .int (nI r), .int (nI wd), .int (nI ag), .ref (mo + 7), .ref (mo + 8), .ref (mo + 9), .ref (mo + 10), .int (nI td), .int (nI om), .ref (mo + 11), .ref (mo + 12), .ref (mo + 13), .ref (mo + 14), .ref (mo + 15), .ref (mo + 16)])) := by rw [eg1]; exact hM.same
  refine mn_aload_n 0 dMo_got_5 rfl rfl ?_
  refine mn_get okMo 12 lMo_140 (by decide) hM_g1 rfl dMo_got_6 ?_
  refine mn_if_eq 34 dMo_got_9 (by decide) (fun c2 => ?_) (fun c2 => ?_)
  · refine mn_iconst (v := -1) dMo_got_34 (by decide) ?_
    exact mn_iret rfl dMo_got_35 ⟨rfl, (mn_fr.rf.set eg1 (by show mo = mo; omega)), hM_g1⟩
  · exact absurd c2 (by decide)
set_option maxRecDepth 100000 in
theorem c_M_got_bad {E : mn_En} {g : mn_H} {mo tl e sz rp st m r wd ag td om : Nat} (hM : mn_at g mo (.inr (11, [.int 0, .ref (mo + 1), .int (nI tl), .ref (mo + 2), .ref (mo + 3), .int (nI e), .int (nI sz), .int (nI rp), .int (nI st), .ref (mo + 4), .ref (mo + 5), .ref (mo + 6), .int 1, .int (nI m), .int (nI r), .int (nI wd), .int (nI ag), .ref (mo + 7), .ref (mo + 8), .ref (mo + 9), .ref (mo + 10), .int (nI td), .int (nI om), .ref (mo + 11), .ref (mo + 12), .ref (mo + 13), .ref (mo + 14), .ref (mo + 15), .ref (mo + 16)]))) (hm1 : 1 ≤ m) (hmw : m * (wd - 12) ≤ 4080) (hwd : 20 ≤ wd) (hwd2 : wd ≤ 80) {x : Int32} (hx : x < 0 ∨ nI (m * (wd - 12)) ≤ x) : mn_R E MMo_got 1 22 0 0 0 [(0, .ref mo), (1, .int x)] [] g (fun x g' => x = some (.int (-1)) ∧ mn_fr (fun q => q = mo) g g' ∧ mn_at g' mo (.inr (11, [.int 0, .ref (mo + 1), .int (nI tl), .ref (mo + 2), .ref (mo + 3), .int (nI e), .int (nI sz), .int (nI rp), .int (nI st), .ref (mo + 4), .ref (mo + 5), .ref (mo + 6), .int 1, .int (nI m), .int (nI r), .int (nI wd), .int (nI ag), .ref (mo + 7), .ref (mo + 8), .ref (mo + 9), .ref (mo + 10), .int (nI td), .int (nI om), .ref (mo + 11), .ref (mo + 12), .ref (mo + 13), .ref (mo + 14), .ref (mo + 15), .ref (mo + 16)]))) := by
  have hmpos : 1 ≤ m * (wd - 12) := Nat.mul_pos (by omega) (by omega)
  refine mn_aload_n 0 dMo_got_0 rfl rfl ?_
  refine mn_iconst (v := 0) dMo_got_1 (by decide) ?_
  refine mn_putf okMo 0 lMo_1 (by decide) rfl hM rfl rfl (Nat.le_of_ble_eq_true rfl) dMo_got_2 ?_
  obtain ⟨g1, eg1⟩ : ∃ gg_, gg_ = mn_set g mo (.inr (11, [.int 0, .ref (mo + 1), .int (nI tl), .ref (mo + 2), .ref (mo + 3), .int (nI e), .int (nI sz), .int (nI rp), .int (nI st), .ref (mo + 4), .ref (mo + 5), .ref (mo + 6), .int 1, .int (nI m), .int (nI r), .int (nI wd), .int (nI ag), .ref (mo + 7), .ref (mo + 8), .ref (mo + 9), .ref (mo + 10), .int (nI td), .int (nI om), .ref (mo + 11), .ref (mo + 12), .ref (mo + 13), .ref (mo + 14), .ref (mo + 15), .ref (mo + 16)])) := ⟨_, rfl⟩
  refine mn_R.toG eg1 ?_
  have hM_g1 : mn_at g1 mo (.inr (11, [.int 0, .ref (mo + 1), .int (nI tl), .ref (mo + 2), .ref (mo + 3), .int (nI e), .int (nI sz), .int (nI rp), .int (nI st), .ref (mo + 4), .ref (mo + 5), .ref (mo + 6), .int 1, .int (nI m), .int (nI r), .int (nI wd), .int (nI ag), .ref (mo + 7), .ref (mo + 8), .ref (mo + 9), .ref (mo + 10), .int (nI td), .int (nI om), .ref (mo + 11), .ref (mo + 12), .ref (mo + 13), .ref (mo + 14), .ref (mo + 15), .ref (mo + 16)])) := by rw [eg1]; exact hM.same
  refine mn_aload_n 0 dMo_got_5 rfl rfl ?_
  refine mn_get okMo 12 lMo_140 (by decide) hM_g1 rfl dMo_got_6 ?_
  refine mn_if_eq 34 dMo_got_9 (by decide) (fun c2 => ?_) (fun c2 => ?_)
  · exact absurd c2 (by decide)
  · refine mn_iload_n 1 dMo_got_12 rfl rfl ?_
    refine mn_iconst (v := 0) dMo_got_13 (by decide) ?_
    refine mn_aload_n 0 dMo_got_14 rfl rfl ?_
    refine mn_get okMo 13 lMo_144 (by decide) hM_g1 rfl dMo_got_15 ?_
    refine mn_aload_n 0 dMo_got_18 rfl rfl ?_
    refine mn_get okMo 15 lMo_150 (by decide) hM_g1 rfl dMo_got_19 ?_
    refine mn_bipush (v := 12) dMo_got_22 (by decide) ?_
    refine mn_isub (z := nI (wd - 12)) dMo_got_24 (pk_sub (a := wd) (b := 12) (by omega)) ?_
    refine mn_imul (z := nI (m * (wd - 12))) dMo_got_25 (pk_mul m (wd - 12)) ?_
    refine mn_iconst (v := 1) dMo_got_26 (by decide) ?_
    refine mn_isub (z := nI (m * (wd - 12) - 1)) dMo_got_27 (pk_sub (a := m * (wd - 12)) (b := 1) (by omega)) ?_
    refine mn_cS (d' := 0) (w' := 0) (As := [.int x, .int 0, .int (nI (m * (wd - 12) - 1))]) (stk' := [.int 0]) okMo_in lMo_68 dMo_got_28 rfl rfl (Nat.le_of_ble_eq_true rfl) (Nat.le_of_ble_eq_true rfl) (by decide) (c_M_in_n (i32_n1 (by omega) (by omega) hx)) rfl ?_
    refine mn_if_ne 36 dMo_got_31 (by decide) (fun c3 => ?_) (fun c3 => ?_)
    · exact absurd c3 (by decide)
    · refine mn_iconst (v := -1) dMo_got_34 (by decide) ?_
      exact mn_iret rfl dMo_got_35 ⟨rfl, (mn_fr.rf.set eg1 (by show mo = mo; omega)), hM_g1⟩
set_option maxRecDepth 100000 in
theorem c_M_got_y {E : mn_En} {g : mn_H} {mo tl e sz rp st m r wd ag td om : Nat} {ml mg : Nat → Nat} {pm : Nat → Option Nat} (hM : mn_at g mo (.inr (11, [.int 0, .ref (mo + 1), .int (nI tl), .ref (mo + 2), .ref (mo + 3), .int (nI e), .int (nI sz), .int (nI rp), .int (nI st), .ref (mo + 4), .ref (mo + 5), .ref (mo + 6), .int 1, .int (nI m), .int (nI r), .int (nI wd), .int (nI ag), .ref (mo + 7), .ref (mo + 8), .ref (mo + 9), .ref (mo + 10), .int (nI td), .int (nI om), .ref (mo + 11), .ref (mo + 12), .ref (mo + 13), .ref (mo + 14), .ref (mo + 15), .ref (mo + 16)]))) (hPm : mn_at g (mo + 7) (.inl (0, 64, .inl (fun j => onI (pm j))))) (hMl : mn_at g (mo + 8) (.inl (0, 64, .inl (fun j => nI (ml j))))) (hMg : mn_at g (mo + 10) (.inl (0, 4800, .inl (fun j => nI (mg j))))) (hm : m ≤ 60) (hwd : 20 ≤ wd) (hwd2 : wd ≤ 80) (hml : ∀ j, ml j < 256) (hpm : ∀ j q, j < 64 → pm j = some q → q < 1000) (hm1 : 1 ≤ m) (hmw : m * (wd - 12) ≤ 4080) {k : Nat} (hk : k < m * (wd - 12)) (hkn : kN (eL pm ml) m (wd - 12) k) : mn_R E MMo_got 1 22 0 0 0 [(0, .ref mo), (1, .int (nI k))] [] g (fun x g' => x = some (.int (nI (mg k))) ∧ mn_fr (fun q => q = mo) g g' ∧ mn_at g' mo (.inr (11, [.int 0, .ref (mo + 1), .int (nI tl), .ref (mo + 2), .ref (mo + 3), .int (nI e), .int (nI sz), .int (nI rp), .int (nI st), .ref (mo + 4), .ref (mo + 5), .ref (mo + 6), .int 1, .int (nI m), .int (nI r), .int (nI wd), .int (nI ag), .ref (mo + 7), .ref (mo + 8), .ref (mo + 9), .ref (mo + 10), .int (nI td), .int (nI om), .ref (mo + 11), .ref (mo + 12), .ref (mo + 13), .ref (mo + 14), .ref (mo + 15), .ref (mo + 16)]))) := by
  have hmpos : 1 ≤ m * (wd - 12) := Nat.mul_pos (by omega) (by omega)
  refine mn_aload_n 0 dMo_got_0 rfl rfl ?_
  refine mn_iconst (v := 0) dMo_got_1 (by decide) ?_
  refine mn_putf okMo 0 lMo_1 (by decide) rfl hM rfl rfl (Nat.le_of_ble_eq_true rfl) dMo_got_2 ?_
  obtain ⟨g1, eg1⟩ : ∃ gg_, gg_ = mn_set g mo (.inr (11, [.int 0, .ref (mo + 1), .int (nI tl), .ref (mo + 2), .ref (mo + 3), .int (nI e), .int (nI sz), .int (nI rp), .int (nI st), .ref (mo + 4), .ref (mo + 5), .ref (mo + 6), .int 1, .int (nI m), .int (nI r), .int (nI wd), .int (nI ag), .ref (mo + 7), .ref (mo + 8), .ref (mo + 9), .ref (mo + 10), .int (nI td), .int (nI om), .ref (mo + 11), .ref (mo + 12), .ref (mo + 13), .ref (mo + 14), .ref (mo + 15), .ref (mo + 16)])) := ⟨_, rfl⟩
  refine mn_R.toG eg1 ?_
  have hM_g1 : mn_at g1 mo (.inr (11, [.int 0, .ref (mo + 1), .int (nI tl), .ref (mo + 2), .ref (mo + 3), .int (nI e), .int (nI sz), .int (nI rp), .int (nI st), .ref (mo + 4), .ref (mo + 5), .ref (mo + 6), .int 1, .int (nI m), .int (nI r), .int (nI wd), .int (nI ag), .ref (mo + 7), .ref (mo + 8), .ref (mo + 9), .ref (mo + 10), .int (nI td), .int (nI om), .ref (mo + 11), .ref (mo + 12), .ref (mo + 13), .ref (mo + 14), .ref (mo + 15), .ref (mo + 16)])) := by rw [eg1]; exact hM.same
  have hPm_g1 : mn_at g1 (mo + 7) (.inl (0, 64, .inl (fun j => onI (pm j)))) := by rw [eg1]; exact hPm.off (by omega)
  have hMl_g1 : mn_at g1 (mo + 8) (.inl (0, 64, .inl (fun j => nI (ml j)))) := by rw [eg1]; exact hMl.off (by omega)
  have hMg_g1 : mn_at g1 (mo + 10) (.inl (0, 4800, .inl (fun j => nI (mg j)))) := by rw [eg1]; exact hMg.off (by omega)
  refine mn_aload_n 0 dMo_got_5 rfl rfl ?_
  refine mn_get okMo 12 lMo_140 (by decide) hM_g1 rfl dMo_got_6 ?_
  refine mn_if_eq 34 dMo_got_9 (by decide) (fun c2 => ?_) (fun c2 => ?_)
  · exact absurd c2 (by decide)
  · refine mn_iload_n 1 dMo_got_12 rfl rfl ?_
    refine mn_iconst (v := 0) dMo_got_13 (by decide) ?_
    refine mn_aload_n 0 dMo_got_14 rfl rfl ?_
    refine mn_get okMo 13 lMo_144 (by decide) hM_g1 rfl dMo_got_15 ?_
    refine mn_aload_n 0 dMo_got_18 rfl rfl ?_
    refine mn_get okMo 15 lMo_150 (by decide) hM_g1 rfl dMo_got_19 ?_
    refine mn_bipush (v := 12) dMo_got_22 (by decide) ?_
    refine mn_isub (z := nI (wd - 12)) dMo_got_24 (pk_sub (a := wd) (b := 12) (by omega)) ?_
    refine mn_imul (z := nI (m * (wd - 12))) dMo_got_25 (pk_mul m (wd - 12)) ?_
    refine mn_iconst (v := 1) dMo_got_26 (by decide) ?_
    refine mn_isub (z := nI (m * (wd - 12) - 1)) dMo_got_27 (pk_sub (a := m * (wd - 12)) (b := 1) (by omega)) ?_
    refine mn_cS (d' := 0) (w' := 0) (As := [.int (nI k), .int 0, .int (nI (m * (wd - 12) - 1))]) (stk' := [.int 1]) okMo_in lMo_68 dMo_got_28 rfl rfl (Nat.le_of_ble_eq_true rfl) (Nat.le_of_ble_eq_true rfl) (by decide) (c_M_in_y (nI_pos (by omega)) (ml_lt (a := k) (b := m * (wd - 12) - 1) (by omega) (by omega) (by omega))) rfl ?_
    refine mn_if_ne 36 dMo_got_31 (by decide) (fun c3 => ?_) (fun c3 => ?_)
    · refine mn_aload_n 0 dMo_got_36 rfl rfl ?_
      refine mn_iload_n 1 dMo_got_37 rfl rfl ?_
      refine mn_cV (d' := 0) (w' := 0) (As := [.int (nI k)]) (stk' := [.int (kV (eL pm ml) m (wd - 12) k)]) okMo_isKnown lMo_172 dMo_got_38 hM_g1 rfl rfl rfl rfl (Nat.le_of_ble_eq_true rfl) (Nat.le_of_ble_eq_true rfl) (by decide) (c_M_isKnown hM_g1 hPm_g1 hMl_g1 hm hwd hwd2 hml hpm (p := k) (by omega)) rfl ?_
      refine mn_if_eq 53 dMo_got_41 (by decide) (fun c4 => ?_) (fun c4 => ?_)
      · refine mn_bipush (v := (-2)) dMo_got_53 (by decide) ?_
        exact mn_iret rfl dMo_got_55 (absurd hkn (kV_no c4))
      · refine mn_aload_n 0 dMo_got_44 rfl rfl ?_
        refine mn_get okMo 20 lMo_44 (by decide) hM_g1 rfl dMo_got_45 ?_
        refine mn_iload_n 1 dMo_got_48 rfl rfl ?_
        refine mn_ialdN (j := k) hMg_g1 rfl (by omega) (by omega) dMo_got_49 ?_
        refine mn_goto 55 dMo_got_50 (by decide) ?_
        exact mn_iret rfl dMo_got_55 ⟨rfl, (mn_fr.rf.set eg1 (by show mo = mo; omega)), hM_g1⟩
    · exact absurd c3 (by decide)
set_option maxRecDepth 100000 in
theorem c_M_got_n {E : mn_En} {g : mn_H} {mo tl e sz rp st m r wd ag td om : Nat} {ml mg : Nat → Nat} {pm : Nat → Option Nat} (hM : mn_at g mo (.inr (11, [.int 0, .ref (mo + 1), .int (nI tl), .ref (mo + 2), .ref (mo + 3), .int (nI e), .int (nI sz), .int (nI rp), .int (nI st), .ref (mo + 4), .ref (mo + 5), .ref (mo + 6), .int 1, .int (nI m), .int (nI r), .int (nI wd), .int (nI ag), .ref (mo + 7), .ref (mo + 8), .ref (mo + 9), .ref (mo + 10), .int (nI td), .int (nI om), .ref (mo + 11), .ref (mo + 12), .ref (mo + 13), .ref (mo + 14), .ref (mo + 15), .ref (mo + 16)]))) (hPm : mn_at g (mo + 7) (.inl (0, 64, .inl (fun j => onI (pm j))))) (hMl : mn_at g (mo + 8) (.inl (0, 64, .inl (fun j => nI (ml j))))) (hMg : mn_at g (mo + 10) (.inl (0, 4800, .inl (fun j => nI (mg j))))) (hm : m ≤ 60) (hwd : 20 ≤ wd) (hwd2 : wd ≤ 80) (hml : ∀ j, ml j < 256) (hpm : ∀ j q, j < 64 → pm j = some q → q < 1000) (hm1 : 1 ≤ m) (hmw : m * (wd - 12) ≤ 4080) {k : Nat} (hk : k < m * (wd - 12)) (hkn : ¬ kN (eL pm ml) m (wd - 12) k) : mn_R E MMo_got 1 22 0 0 0 [(0, .ref mo), (1, .int (nI k))] [] g (fun x g' => x = some (.int (-2)) ∧ mn_fr (fun q => q = mo) g g' ∧ mn_at g' mo (.inr (11, [.int 0, .ref (mo + 1), .int (nI tl), .ref (mo + 2), .ref (mo + 3), .int (nI e), .int (nI sz), .int (nI rp), .int (nI st), .ref (mo + 4), .ref (mo + 5), .ref (mo + 6), .int 1, .int (nI m), .int (nI r), .int (nI wd), .int (nI ag), .ref (mo + 7), .ref (mo + 8), .ref (mo + 9), .ref (mo + 10), .int (nI td), .int (nI om), .ref (mo + 11), .ref (mo + 12), .ref (mo + 13), .ref (mo + 14), .ref (mo + 15), .ref (mo + 16)]))) := by
  have hmpos : 1 ≤ m * (wd - 12) := Nat.mul_pos (by omega) (by omega)
  refine mn_aload_n 0 dMo_got_0 rfl rfl ?_
  refine mn_iconst (v := 0) dMo_got_1 (by decide) ?_
  refine mn_putf okMo 0 lMo_1 (by decide) rfl hM rfl rfl (Nat.le_of_ble_eq_true rfl) dMo_got_2 ?_
  obtain ⟨g1, eg1⟩ : ∃ gg_, gg_ = mn_set g mo (.inr (11, [.int 0, .ref (mo + 1), .int (nI tl), .ref (mo + 2), .ref (mo + 3), .int (nI e), .int (nI sz), .int (nI rp), .int (nI st), .ref (mo + 4), .ref (mo + 5), .ref (mo + 6), .int 1, .int (nI m), .int (nI r), .int (nI wd), .int (nI ag), .ref (mo + 7), .ref (mo + 8), .ref (mo + 9), .ref (mo + 10), .int (nI td), .int (nI om), .ref (mo + 11), .ref (mo + 12), .ref (mo + 13), .ref (mo + 14), .ref (mo + 15), .ref (mo + 16)])) := ⟨_, rfl⟩
  refine mn_R.toG eg1 ?_
  have hM_g1 : mn_at g1 mo (.inr (11, [.int 0, .ref (mo + 1), .int (nI tl), .ref (mo + 2), .ref (mo + 3), .int (nI e), .int (nI sz), .int (nI rp), .int (nI st), .ref (mo + 4), .ref (mo + 5), .ref (mo + 6), .int 1, .int (nI m), .int (nI r), .int (nI wd), .int (nI ag), .ref (mo + 7), .ref (mo + 8), .ref (mo + 9), .ref (mo + 10), .int (nI td), .int (nI om), .ref (mo + 11), .ref (mo + 12), .ref (mo + 13), .ref (mo + 14), .ref (mo + 15), .ref (mo + 16)])) := by rw [eg1]; exact hM.same
  have hPm_g1 : mn_at g1 (mo + 7) (.inl (0, 64, .inl (fun j => onI (pm j)))) := by rw [eg1]; exact hPm.off (by omega)
  have hMl_g1 : mn_at g1 (mo + 8) (.inl (0, 64, .inl (fun j => nI (ml j)))) := by rw [eg1]; exact hMl.off (by omega)
  have hMg_g1 : mn_at g1 (mo + 10) (.inl (0, 4800, .inl (fun j => nI (mg j)))) := by rw [eg1]; exact hMg.off (by omega)
  refine mn_aload_n 0 dMo_got_5 rfl rfl ?_
  refine mn_get okMo 12 lMo_140 (by decide) hM_g1 rfl dMo_got_6 ?_
  refine mn_if_eq 34 dMo_got_9 (by decide) (fun c2 => ?_) (fun c2 => ?_)
  · exact absurd c2 (by decide)
  · refine mn_iload_n 1 dMo_got_12 rfl rfl ?_
    refine mn_iconst (v := 0) dMo_got_13 (by decide) ?_
    refine mn_aload_n 0 dMo_got_14 rfl rfl ?_
    refine mn_get okMo 13 lMo_144 (by decide) hM_g1 rfl dMo_got_15 ?_
    refine mn_aload_n 0 dMo_got_18 rfl rfl ?_
    refine mn_get okMo 15 lMo_150 (by decide) hM_g1 rfl dMo_got_19 ?_
    refine mn_bipush (v := 12) dMo_got_22 (by decide) ?_
    refine mn_isub (z := nI (wd - 12)) dMo_got_24 (pk_sub (a := wd) (b := 12) (by omega)) ?_
    refine mn_imul (z := nI (m * (wd - 12))) dMo_got_25 (pk_mul m (wd - 12)) ?_
    refine mn_iconst (v := 1) dMo_got_26 (by decide) ?_
    refine mn_isub (z := nI (m * (wd - 12) - 1)) dMo_got_27 (pk_sub (a := m * (wd - 12)) (b := 1) (by omega)) ?_
    refine mn_cS (d' := 0) (w' := 0) (As := [.int (nI k), .int 0, .int (nI (m * (wd - 12) - 1))]) (stk' := [.int 1]) okMo_in lMo_68 dMo_got_28 rfl rfl (Nat.le_of_ble_eq_true rfl) (Nat.le_of_ble_eq_true rfl) (by decide) (c_M_in_y (nI_pos (by omega)) (ml_lt (a := k) (b := m * (wd - 12) - 1) (by omega) (by omega) (by omega))) rfl ?_
    refine mn_if_ne 36 dMo_got_31 (by decide) (fun c3 => ?_) (fun c3 => ?_)
    · refine mn_aload_n 0 dMo_got_36 rfl rfl ?_
      refine mn_iload_n 1 dMo_got_37 rfl rfl ?_
      refine mn_cV (d' := 0) (w' := 0) (As := [.int (nI k)]) (stk' := [.int (kV (eL pm ml) m (wd - 12) k)]) okMo_isKnown lMo_172 dMo_got_38 hM_g1 rfl rfl rfl rfl (Nat.le_of_ble_eq_true rfl) (Nat.le_of_ble_eq_true rfl) (by decide) (c_M_isKnown hM_g1 hPm_g1 hMl_g1 hm hwd hwd2 hml hpm (p := k) (by omega)) rfl ?_
      refine mn_if_eq 53 dMo_got_41 (by decide) (fun c4 => ?_) (fun c4 => ?_)
      · refine mn_bipush (v := (-2)) dMo_got_53 (by decide) ?_
        exact mn_iret rfl dMo_got_55 ⟨rfl, (mn_fr.rf.set eg1 (by show mo = mo; omega)), hM_g1⟩
      · refine mn_aload_n 0 dMo_got_44 rfl rfl ?_
        refine mn_get okMo 20 lMo_44 (by decide) hM_g1 rfl dMo_got_45 ?_
        refine mn_iload_n 1 dMo_got_48 rfl rfl ?_
        refine mn_ialdN (j := k) hMg_g1 rfl (by omega) (by omega) dMo_got_49 ?_
        refine mn_goto 55 dMo_got_50 (by decide) ?_
        exact mn_iret rfl dMo_got_55 (absurd (kV_of c4) hkn)
    · exact absurd c3 (by decide)
set_option maxRecDepth 100000 in
theorem c_M_opened_none {E : mn_En} {g : mn_H} {mo tl e sz rp st m r wd ag td om : Nat} (hM : mn_at g mo (.inr (11, [.int 0, .ref (mo + 1), .int (nI tl), .ref (mo + 2), .ref (mo + 3), .int (nI e), .int (nI sz), .int (nI rp), .int (nI st), .ref (mo + 4), .ref (mo + 5), .ref (mo + 6), .int 0, .int (nI m), .int (nI r), .int (nI wd), .int (nI ag), .ref (mo + 7), .ref (mo + 8), .ref (mo + 9), .ref (mo + 10), .int (nI td), .int (nI om), .ref (mo + 11), .ref (mo + 12), .ref (mo + 13), .ref (mo + 14), .ref (mo + 15), .ref (mo + 16)]))) {x x2 : Int32} : mn_R E MMo_opened 1 22 0 0 0 [(0, .ref mo), (1, .int x), (2, .int x2)] [] g (fun x g' => x = some (.int (-1)) ∧ mn_fr (fun q => q = mo) g g' ∧ mn_at g' mo (.inr (11, [.int 0, .ref (mo + 1), .int (nI tl), .ref (mo + 2), .ref (mo + 3), .int (nI e), .int (nI sz), .int (nI rp), .int (nI st), .ref (mo + 4), .ref (mo + 5), .ref (mo + 6), .int 0, .int (nI m), .int (nI r), .int (nI wd), .int (nI ag), .ref (mo + 7), .ref (mo + 8), .ref (mo + 9), .ref (mo + 10), .int (nI td), .int (nI om), .ref (mo + 11), .ref (mo + 12), .ref (mo + 13), .ref (mo + 14), .ref (mo + 15), .ref (mo + 16)]))) := by
  refine mn_aload_n 0 dMo_opened_0 rfl rfl ?_
  refine mn_iconst (v := 0) dMo_opened_1 (by decide) ?_
  refine mn_putf okMo 0 lMo_1 (by decide) rfl hM rfl rfl (Nat.le_of_ble_eq_true rfl) dMo_opened_2 ?_
  obtain ⟨g1, eg1⟩ : ∃ gg_, gg_ = mn_set g mo (.inr (11, [.int 0, .ref (mo + 1), .int (nI tl), .ref (mo + 2), .ref (mo + 3), .int (nI e), .int (nI sz), .int (nI rp), .int (nI st), .ref (mo + 4), .ref (mo + 5), .ref (mo + 6), .int 0, .int (nI m), .int (nI r), .int (nI wd), .int (nI ag), .ref (mo + 7), .ref (mo + 8), .ref (mo + 9), .ref (mo + 10), .int (nI td), .int (nI om), .ref (mo + 11), .ref (mo + 12), .ref (mo + 13), .ref (mo + 14), .ref (mo + 15), .ref (mo + 16)])) := ⟨_, rfl⟩
  refine mn_R.toG eg1 ?_
  have hM_g1 : mn_at g1 mo (.inr (11, [.int 0, .ref (mo + 1), .int (nI tl), .ref (mo + 2), .ref (mo + 3), .int (nI e), .int (nI sz), .int (nI rp), .int (nI st), .ref (mo + 4), .ref (mo + 5), .ref (mo + 6), .int 0, .int (nI m), .int (nI r), .int (nI wd), .int (nI ag), .ref (mo + 7), .ref (mo + 8), .ref (mo + 9), .ref (mo + 10), .int (nI td), .int (nI om), .ref (mo + 11), .ref (mo + 12), .ref (mo + 13), .ref (mo + 14), .ref (mo + 15), .ref (mo + 16)])) := by rw [eg1]; exact hM.same
  refine mn_aload_n 0 dMo_opened_5 rfl rfl ?_
  refine mn_get okMo 12 lMo_140 (by decide) hM_g1 rfl dMo_opened_6 ?_
  refine mn_if_eq 35 dMo_opened_9 (by decide) (fun c2 => ?_) (fun c2 => ?_)
  · refine mn_iconst (v := -1) dMo_opened_35 (by decide) ?_
    exact mn_iret rfl dMo_opened_36 ⟨rfl, (mn_fr.rf.set eg1 (by show mo = mo; omega)), hM_g1⟩
  · exact absurd c2 (by decide)
set_option maxRecDepth 100000 in
theorem c_M_opened_bad {E : mn_En} {g : mn_H} {mo tl e sz rp st m r wd ag td om : Nat} (hM : mn_at g mo (.inr (11, [.int 0, .ref (mo + 1), .int (nI tl), .ref (mo + 2), .ref (mo + 3), .int (nI e), .int (nI sz), .int (nI rp), .int (nI st), .ref (mo + 4), .ref (mo + 5), .ref (mo + 6), .int 1, .int (nI m), .int (nI r), .int (nI wd), .int (nI ag), .ref (mo + 7), .ref (mo + 8), .ref (mo + 9), .ref (mo + 10), .int (nI td), .int (nI om), .ref (mo + 11), .ref (mo + 12), .ref (mo + 13), .ref (mo + 14), .ref (mo + 15), .ref (mo + 16)]))) (htd : td ≤ 40) {x x2 : Int32} (hx : x < 0 ∨ nI td ≤ x) : mn_R E MMo_opened 1 22 0 0 0 [(0, .ref mo), (1, .int x), (2, .int x2)] [] g (fun x g' => x = some (.int (-1)) ∧ mn_fr (fun q => q = mo) g g' ∧ mn_at g' mo (.inr (11, [.int 0, .ref (mo + 1), .int (nI tl), .ref (mo + 2), .ref (mo + 3), .int (nI e), .int (nI sz), .int (nI rp), .int (nI st), .ref (mo + 4), .ref (mo + 5), .ref (mo + 6), .int 1, .int (nI m), .int (nI r), .int (nI wd), .int (nI ag), .ref (mo + 7), .ref (mo + 8), .ref (mo + 9), .ref (mo + 10), .int (nI td), .int (nI om), .ref (mo + 11), .ref (mo + 12), .ref (mo + 13), .ref (mo + 14), .ref (mo + 15), .ref (mo + 16)]))) := by
  refine mn_aload_n 0 dMo_opened_0 rfl rfl ?_
  refine mn_iconst (v := 0) dMo_opened_1 (by decide) ?_
  refine mn_putf okMo 0 lMo_1 (by decide) rfl hM rfl rfl (Nat.le_of_ble_eq_true rfl) dMo_opened_2 ?_
  obtain ⟨g1, eg1⟩ : ∃ gg_, gg_ = mn_set g mo (.inr (11, [.int 0, .ref (mo + 1), .int (nI tl), .ref (mo + 2), .ref (mo + 3), .int (nI e), .int (nI sz), .int (nI rp), .int (nI st), .ref (mo + 4), .ref (mo + 5), .ref (mo + 6), .int 1, .int (nI m), .int (nI r), .int (nI wd), .int (nI ag), .ref (mo + 7), .ref (mo + 8), .ref (mo + 9), .ref (mo + 10), .int (nI td), .int (nI om), .ref (mo + 11), .ref (mo + 12), .ref (mo + 13), .ref (mo + 14), .ref (mo + 15), .ref (mo + 16)])) := ⟨_, rfl⟩
  refine mn_R.toG eg1 ?_
  have hM_g1 : mn_at g1 mo (.inr (11, [.int 0, .ref (mo + 1), .int (nI tl), .ref (mo + 2), .ref (mo + 3), .int (nI e), .int (nI sz), .int (nI rp), .int (nI st), .ref (mo + 4), .ref (mo + 5), .ref (mo + 6), .int 1, .int (nI m), .int (nI r), .int (nI wd), .int (nI ag), .ref (mo + 7), .ref (mo + 8), .ref (mo + 9), .ref (mo + 10), .int (nI td), .int (nI om), .ref (mo + 11), .ref (mo + 12), .ref (mo + 13), .ref (mo + 14), .ref (mo + 15), .ref (mo + 16)])) := by rw [eg1]; exact hM.same
  refine mn_aload_n 0 dMo_opened_5 rfl rfl ?_
  refine mn_get okMo 12 lMo_140 (by decide) hM_g1 rfl dMo_opened_6 ?_
  refine mn_if_eq 35 dMo_opened_9 (by decide) (fun c2 => ?_) (fun c2 => ?_)
  · exact absurd c2 (by decide)
  · refine mn_iload_n 1 dMo_opened_12 rfl rfl ?_
    refine mn_iconst (v := 0) dMo_opened_13 (by decide) ?_
    refine mn_aload_n 0 dMo_opened_14 rfl rfl ?_
    refine mn_get okMo 21 lMo_175 (by decide) hM_g1 rfl dMo_opened_15 ?_
    refine mn_iconst (v := 1) dMo_opened_18 (by decide) ?_
    refine mn_isub (z := nI td - 1) dMo_opened_19 rfl ?_
    refine mn_cS (d' := 0) (w' := 0) (As := [.int x, .int 0, .int (nI td - 1)]) (stk' := [.int 0]) okMo_in lMo_68 dMo_opened_20 rfl rfl (Nat.le_of_ble_eq_true rfl) (Nat.le_of_ble_eq_true rfl) (by decide) (c_M_in_n (i32_n0 (by omega) hx)) rfl ?_
    refine mn_if_eq 35 dMo_opened_23 (by decide) (fun c3 => ?_) (fun c3 => ?_)
    · refine mn_iconst (v := -1) dMo_opened_35 (by decide) ?_
      exact mn_iret rfl dMo_opened_36 ⟨rfl, (mn_fr.rf.set eg1 (by show mo = mo; omega)), hM_g1⟩
    · exact absurd c3 (by decide)
set_option maxRecDepth 100000 in
theorem c_M_opened_what {E : mn_En} {g : mn_H} {mo tl e sz rp st m r wd ag td om : Nat} (hM : mn_at g mo (.inr (11, [.int 0, .ref (mo + 1), .int (nI tl), .ref (mo + 2), .ref (mo + 3), .int (nI e), .int (nI sz), .int (nI rp), .int (nI st), .ref (mo + 4), .ref (mo + 5), .ref (mo + 6), .int 1, .int (nI m), .int (nI r), .int (nI wd), .int (nI ag), .ref (mo + 7), .ref (mo + 8), .ref (mo + 9), .ref (mo + 10), .int (nI td), .int (nI om), .ref (mo + 11), .ref (mo + 12), .ref (mo + 13), .ref (mo + 14), .ref (mo + 15), .ref (mo + 16)]))) (htd : td ≤ 40) {k : Nat} (hk : k < td) {x : Int32} (hx : x < 0 ∨ 2 < x) : mn_R E MMo_opened 1 22 0 0 0 [(0, .ref mo), (1, .int (nI k)), (2, .int x)] [] g (fun x g' => x = some (.int (-1)) ∧ mn_fr (fun q => q = mo) g g' ∧ mn_at g' mo (.inr (11, [.int 0, .ref (mo + 1), .int (nI tl), .ref (mo + 2), .ref (mo + 3), .int (nI e), .int (nI sz), .int (nI rp), .int (nI st), .ref (mo + 4), .ref (mo + 5), .ref (mo + 6), .int 1, .int (nI m), .int (nI r), .int (nI wd), .int (nI ag), .ref (mo + 7), .ref (mo + 8), .ref (mo + 9), .ref (mo + 10), .int (nI td), .int (nI om), .ref (mo + 11), .ref (mo + 12), .ref (mo + 13), .ref (mo + 14), .ref (mo + 15), .ref (mo + 16)]))) := by
  refine mn_aload_n 0 dMo_opened_0 rfl rfl ?_
  refine mn_iconst (v := 0) dMo_opened_1 (by decide) ?_
  refine mn_putf okMo 0 lMo_1 (by decide) rfl hM rfl rfl (Nat.le_of_ble_eq_true rfl) dMo_opened_2 ?_
  obtain ⟨g1, eg1⟩ : ∃ gg_, gg_ = mn_set g mo (.inr (11, [.int 0, .ref (mo + 1), .int (nI tl), .ref (mo + 2), .ref (mo + 3), .int (nI e), .int (nI sz), .int (nI rp), .int (nI st), .ref (mo + 4), .ref (mo + 5), .ref (mo + 6), .int 1, .int (nI m), .int (nI r), .int (nI wd), .int (nI ag), .ref (mo + 7), .ref (mo + 8), .ref (mo + 9), .ref (mo + 10), .int (nI td), .int (nI om), .ref (mo + 11), .ref (mo + 12), .ref (mo + 13), .ref (mo + 14), .ref (mo + 15), .ref (mo + 16)])) := ⟨_, rfl⟩
  refine mn_R.toG eg1 ?_
  have hM_g1 : mn_at g1 mo (.inr (11, [.int 0, .ref (mo + 1), .int (nI tl), .ref (mo + 2), .ref (mo + 3), .int (nI e), .int (nI sz), .int (nI rp), .int (nI st), .ref (mo + 4), .ref (mo + 5), .ref (mo + 6), .int 1, .int (nI m), .int (nI r), .int (nI wd), .int (nI ag), .ref (mo + 7), .ref (mo + 8), .ref (mo + 9), .ref (mo + 10), .int (nI td), .int (nI om), .ref (mo + 11), .ref (mo + 12), .ref (mo + 13), .ref (mo + 14), .ref (mo + 15), .ref (mo + 16)])) := by rw [eg1]; exact hM.same
  refine mn_aload_n 0 dMo_opened_5 rfl rfl ?_
  refine mn_get okMo 12 lMo_140 (by decide) hM_g1 rfl dMo_opened_6 ?_
  refine mn_if_eq 35 dMo_opened_9 (by decide) (fun c2 => ?_) (fun c2 => ?_)
  · exact absurd c2 (by decide)
  · refine mn_iload_n 1 dMo_opened_12 rfl rfl ?_
    refine mn_iconst (v := 0) dMo_opened_13 (by decide) ?_
    refine mn_aload_n 0 dMo_opened_14 rfl rfl ?_
    refine mn_get okMo 21 lMo_175 (by decide) hM_g1 rfl dMo_opened_15 ?_
    refine mn_iconst (v := 1) dMo_opened_18 (by decide) ?_
    refine mn_isub (z := nI (td - 1)) dMo_opened_19 (pk_sub (a := td) (b := 1) (by omega)) ?_
    refine mn_cS (d' := 0) (w' := 0) (As := [.int (nI k), .int 0, .int (nI (td - 1))]) (stk' := [.int 1]) okMo_in lMo_68 dMo_opened_20 rfl rfl (Nat.le_of_ble_eq_true rfl) (Nat.le_of_ble_eq_true rfl) (by decide) (c_M_in_y (nI_pos (by omega)) (ml_lt (a := k) (b := td - 1) (by omega) (by omega) (by omega))) rfl ?_
    refine mn_if_eq 35 dMo_opened_23 (by decide) (fun c3 => ?_) (fun c3 => ?_)
    · exact absurd c3 (by decide)
    · refine mn_iload_n 2 dMo_opened_26 rfl rfl ?_
      refine mn_iconst (v := 0) dMo_opened_27 (by decide) ?_
      refine mn_iconst (v := 2) dMo_opened_28 (by decide) ?_
      refine mn_cS (d' := 0) (w' := 0) (As := [.int x, .int 0, .int 2]) (stk' := [.int 0]) okMo_in lMo_68 dMo_opened_29 rfl rfl (Nat.le_of_ble_eq_true rfl) (Nat.le_of_ble_eq_true rfl) (by decide) (c_M_in_n hx) rfl ?_
      refine mn_if_ne 37 dMo_opened_32 (by decide) (fun c4 => ?_) (fun c4 => ?_)
      · exact absurd c4 (by decide)
      · refine mn_iconst (v := -1) dMo_opened_35 (by decide) ?_
        exact mn_iret rfl dMo_opened_36 ⟨rfl, (mn_fr.rf.set eg1 (by show mo = mo; omega)), hM_g1⟩
set_option maxRecDepth 100000 in
theorem c_M_opened0 {E : mn_En} {g : mn_H} {mo tl e sz rp st m r wd ag td om : Nat} {tA tL tO : Nat → Nat} (hM : mn_at g mo (.inr (11, [.int 0, .ref (mo + 1), .int (nI tl), .ref (mo + 2), .ref (mo + 3), .int (nI e), .int (nI sz), .int (nI rp), .int (nI st), .ref (mo + 4), .ref (mo + 5), .ref (mo + 6), .int 1, .int (nI m), .int (nI r), .int (nI wd), .int (nI ag), .ref (mo + 7), .ref (mo + 8), .ref (mo + 9), .ref (mo + 10), .int (nI td), .int (nI om), .ref (mo + 11), .ref (mo + 12), .ref (mo + 13), .ref (mo + 14), .ref (mo + 15), .ref (mo + 16)]))) (hTA : mn_at g (mo + 11) (.inl (0, 40, .inl (fun j => nI (tA j))))) (hTL : mn_at g (mo + 12) (.inl (0, 40, .inl (fun j => nI (tL j))))) (hTO : mn_at g (mo + 13) (.inl (0, 40, .inl (fun j => nI (tO j))))) (htd : td ≤ 40) {k : Nat} (hk : k < td) : mn_R E MMo_opened 1 22 0 0 0 [(0, .ref mo), (1, .int (nI k)), (2, .int 0)] [] g (fun x g' => x = some (.int (nI (tA k))) ∧ mn_fr (fun q => q = mo) g g' ∧ mn_at g' mo (.inr (11, [.int 0, .ref (mo + 1), .int (nI tl), .ref (mo + 2), .ref (mo + 3), .int (nI e), .int (nI sz), .int (nI rp), .int (nI st), .ref (mo + 4), .ref (mo + 5), .ref (mo + 6), .int 1, .int (nI m), .int (nI r), .int (nI wd), .int (nI ag), .ref (mo + 7), .ref (mo + 8), .ref (mo + 9), .ref (mo + 10), .int (nI td), .int (nI om), .ref (mo + 11), .ref (mo + 12), .ref (mo + 13), .ref (mo + 14), .ref (mo + 15), .ref (mo + 16)]))) := by
  refine mn_aload_n 0 dMo_opened_0 rfl rfl ?_
  refine mn_iconst (v := 0) dMo_opened_1 (by decide) ?_
  refine mn_putf okMo 0 lMo_1 (by decide) rfl hM rfl rfl (Nat.le_of_ble_eq_true rfl) dMo_opened_2 ?_
  obtain ⟨g1, eg1⟩ : ∃ gg_, gg_ = mn_set g mo (.inr (11, [.int 0, .ref (mo + 1), .int (nI tl), .ref (mo + 2), .ref (mo + 3), .int (nI e), .int (nI sz), .int (nI rp), .int (nI st), .ref (mo + 4), .ref (mo + 5), .ref (mo + 6), .int 1, .int (nI m), .int (nI r), .int (nI wd), .int (nI ag), .ref (mo + 7), .ref (mo + 8), .ref (mo + 9), .ref (mo + 10), .int (nI td), .int (nI om), .ref (mo + 11), .ref (mo + 12), .ref (mo + 13), .ref (mo + 14), .ref (mo + 15), .ref (mo + 16)])) := ⟨_, rfl⟩
  refine mn_R.toG eg1 ?_
  have hM_g1 : mn_at g1 mo (.inr (11, [.int 0, .ref (mo + 1), .int (nI tl), .ref (mo + 2), .ref (mo + 3), .int (nI e), .int (nI sz), .int (nI rp), .int (nI st), .ref (mo + 4), .ref (mo + 5), .ref (mo + 6), .int 1, .int (nI m), .int (nI r), .int (nI wd), .int (nI ag), .ref (mo + 7), .ref (mo + 8), .ref (mo + 9), .ref (mo + 10), .int (nI td), .int (nI om), .ref (mo + 11), .ref (mo + 12), .ref (mo + 13), .ref (mo + 14), .ref (mo + 15), .ref (mo + 16)])) := by rw [eg1]; exact hM.same
  have hTA_g1 : mn_at g1 (mo + 11) (.inl (0, 40, .inl (fun j => nI (tA j)))) := by rw [eg1]; exact hTA.off (by omega)
  have hTL_g1 : mn_at g1 (mo + 12) (.inl (0, 40, .inl (fun j => nI (tL j)))) := by rw [eg1]; exact hTL.off (by omega)
  have hTO_g1 : mn_at g1 (mo + 13) (.inl (0, 40, .inl (fun j => nI (tO j)))) := by rw [eg1]; exact hTO.off (by omega)
  refine mn_aload_n 0 dMo_opened_5 rfl rfl ?_
  refine mn_get okMo 12 lMo_140 (by decide) hM_g1 rfl dMo_opened_6 ?_
  refine mn_if_eq 35 dMo_opened_9 (by decide) (fun c2 => ?_) (fun c2 => ?_)
  · exact absurd c2 (by decide)
  · refine mn_iload_n 1 dMo_opened_12 rfl rfl ?_
    refine mn_iconst (v := 0) dMo_opened_13 (by decide) ?_
    refine mn_aload_n 0 dMo_opened_14 rfl rfl ?_
    refine mn_get okMo 21 lMo_175 (by decide) hM_g1 rfl dMo_opened_15 ?_
    refine mn_iconst (v := 1) dMo_opened_18 (by decide) ?_
    refine mn_isub (z := nI (td - 1)) dMo_opened_19 (pk_sub (a := td) (b := 1) (by omega)) ?_
    refine mn_cS (d' := 0) (w' := 0) (As := [.int (nI k), .int 0, .int (nI (td - 1))]) (stk' := [.int 1]) okMo_in lMo_68 dMo_opened_20 rfl rfl (Nat.le_of_ble_eq_true rfl) (Nat.le_of_ble_eq_true rfl) (by decide) (c_M_in_y (nI_pos (by omega)) (ml_lt (a := k) (b := td - 1) (by omega) (by omega) (by omega))) rfl ?_
    refine mn_if_eq 35 dMo_opened_23 (by decide) (fun c3 => ?_) (fun c3 => ?_)
    · exact absurd c3 (by decide)
    · refine mn_iload_n 2 dMo_opened_26 rfl rfl ?_
      refine mn_iconst (v := 0) dMo_opened_27 (by decide) ?_
      refine mn_iconst (v := 2) dMo_opened_28 (by decide) ?_
      refine mn_cS (d' := 0) (w' := 0) (As := [.int 0, .int 0, .int 2]) (stk' := [.int 1]) okMo_in lMo_68 dMo_opened_29 rfl rfl (Nat.le_of_ble_eq_true rfl) (Nat.le_of_ble_eq_true rfl) (by decide) (c_M_in_y (by decide) (by decide)) rfl ?_
      refine mn_if_ne 37 dMo_opened_32 (by decide) (fun c4 => ?_) (fun c4 => ?_)
      · refine mn_iload_n 2 dMo_opened_37 rfl rfl ?_
        refine mn_if_ne 50 dMo_opened_38 (by decide) (fun c5 => ?_) (fun c5 => ?_)
        · exact absurd c5 (by decide)
        · refine mn_aload_n 0 dMo_opened_41 rfl rfl ?_
          refine mn_get okMo 23 lMo_47 (by decide) hM_g1 rfl dMo_opened_42 ?_
          refine mn_iload_n 1 dMo_opened_45 rfl rfl ?_
          refine mn_ialdN (j := k) hTA_g1 rfl (by omega) (by omega) dMo_opened_46 ?_
          refine mn_goto 70 dMo_opened_47 (by decide) ?_
          exact mn_iret rfl dMo_opened_70 ⟨rfl, (mn_fr.rf.set eg1 (by show mo = mo; omega)), hM_g1⟩
      · exact absurd c4 (by decide)
set_option maxRecDepth 100000 in
theorem c_M_opened1 {E : mn_En} {g : mn_H} {mo tl e sz rp st m r wd ag td om : Nat} {tA tL tO : Nat → Nat} (hM : mn_at g mo (.inr (11, [.int 0, .ref (mo + 1), .int (nI tl), .ref (mo + 2), .ref (mo + 3), .int (nI e), .int (nI sz), .int (nI rp), .int (nI st), .ref (mo + 4), .ref (mo + 5), .ref (mo + 6), .int 1, .int (nI m), .int (nI r), .int (nI wd), .int (nI ag), .ref (mo + 7), .ref (mo + 8), .ref (mo + 9), .ref (mo + 10), .int (nI td), .int (nI om), .ref (mo + 11), .ref (mo + 12), .ref (mo + 13), .ref (mo + 14), .ref (mo + 15), .ref (mo + 16)]))) (hTA : mn_at g (mo + 11) (.inl (0, 40, .inl (fun j => nI (tA j))))) (hTL : mn_at g (mo + 12) (.inl (0, 40, .inl (fun j => nI (tL j))))) (hTO : mn_at g (mo + 13) (.inl (0, 40, .inl (fun j => nI (tO j))))) (htd : td ≤ 40) {k : Nat} (hk : k < td) : mn_R E MMo_opened 1 22 0 0 0 [(0, .ref mo), (1, .int (nI k)), (2, .int 1)] [] g (fun x g' => x = some (.int (nI (tL k))) ∧ mn_fr (fun q => q = mo) g g' ∧ mn_at g' mo (.inr (11, [.int 0, .ref (mo + 1), .int (nI tl), .ref (mo + 2), .ref (mo + 3), .int (nI e), .int (nI sz), .int (nI rp), .int (nI st), .ref (mo + 4), .ref (mo + 5), .ref (mo + 6), .int 1, .int (nI m), .int (nI r), .int (nI wd), .int (nI ag), .ref (mo + 7), .ref (mo + 8), .ref (mo + 9), .ref (mo + 10), .int (nI td), .int (nI om), .ref (mo + 11), .ref (mo + 12), .ref (mo + 13), .ref (mo + 14), .ref (mo + 15), .ref (mo + 16)]))) := by
  refine mn_aload_n 0 dMo_opened_0 rfl rfl ?_
  refine mn_iconst (v := 0) dMo_opened_1 (by decide) ?_
  refine mn_putf okMo 0 lMo_1 (by decide) rfl hM rfl rfl (Nat.le_of_ble_eq_true rfl) dMo_opened_2 ?_
  obtain ⟨g1, eg1⟩ : ∃ gg_, gg_ = mn_set g mo (.inr (11, [.int 0, .ref (mo + 1), .int (nI tl), .ref (mo + 2), .ref (mo + 3), .int (nI e), .int (nI sz), .int (nI rp), .int (nI st), .ref (mo + 4), .ref (mo + 5), .ref (mo + 6), .int 1, .int (nI m), .int (nI r), .int (nI wd), .int (nI ag), .ref (mo + 7), .ref (mo + 8), .ref (mo + 9), .ref (mo + 10), .int (nI td), .int (nI om), .ref (mo + 11), .ref (mo + 12), .ref (mo + 13), .ref (mo + 14), .ref (mo + 15), .ref (mo + 16)])) := ⟨_, rfl⟩
  refine mn_R.toG eg1 ?_
  have hM_g1 : mn_at g1 mo (.inr (11, [.int 0, .ref (mo + 1), .int (nI tl), .ref (mo + 2), .ref (mo + 3), .int (nI e), .int (nI sz), .int (nI rp), .int (nI st), .ref (mo + 4), .ref (mo + 5), .ref (mo + 6), .int 1, .int (nI m), .int (nI r), .int (nI wd), .int (nI ag), .ref (mo + 7), .ref (mo + 8), .ref (mo + 9), .ref (mo + 10), .int (nI td), .int (nI om), .ref (mo + 11), .ref (mo + 12), .ref (mo + 13), .ref (mo + 14), .ref (mo + 15), .ref (mo + 16)])) := by rw [eg1]; exact hM.same
  have hTA_g1 : mn_at g1 (mo + 11) (.inl (0, 40, .inl (fun j => nI (tA j)))) := by rw [eg1]; exact hTA.off (by omega)
  have hTL_g1 : mn_at g1 (mo + 12) (.inl (0, 40, .inl (fun j => nI (tL j)))) := by rw [eg1]; exact hTL.off (by omega)
  have hTO_g1 : mn_at g1 (mo + 13) (.inl (0, 40, .inl (fun j => nI (tO j)))) := by rw [eg1]; exact hTO.off (by omega)
  refine mn_aload_n 0 dMo_opened_5 rfl rfl ?_
  refine mn_get okMo 12 lMo_140 (by decide) hM_g1 rfl dMo_opened_6 ?_
  refine mn_if_eq 35 dMo_opened_9 (by decide) (fun c2 => ?_) (fun c2 => ?_)
  · exact absurd c2 (by decide)
  · refine mn_iload_n 1 dMo_opened_12 rfl rfl ?_
    refine mn_iconst (v := 0) dMo_opened_13 (by decide) ?_
    refine mn_aload_n 0 dMo_opened_14 rfl rfl ?_
    refine mn_get okMo 21 lMo_175 (by decide) hM_g1 rfl dMo_opened_15 ?_
    refine mn_iconst (v := 1) dMo_opened_18 (by decide) ?_
    refine mn_isub (z := nI (td - 1)) dMo_opened_19 (pk_sub (a := td) (b := 1) (by omega)) ?_
    refine mn_cS (d' := 0) (w' := 0) (As := [.int (nI k), .int 0, .int (nI (td - 1))]) (stk' := [.int 1]) okMo_in lMo_68 dMo_opened_20 rfl rfl (Nat.le_of_ble_eq_true rfl) (Nat.le_of_ble_eq_true rfl) (by decide) (c_M_in_y (nI_pos (by omega)) (ml_lt (a := k) (b := td - 1) (by omega) (by omega) (by omega))) rfl ?_
    refine mn_if_eq 35 dMo_opened_23 (by decide) (fun c3 => ?_) (fun c3 => ?_)
    · exact absurd c3 (by decide)
    · refine mn_iload_n 2 dMo_opened_26 rfl rfl ?_
      refine mn_iconst (v := 0) dMo_opened_27 (by decide) ?_
      refine mn_iconst (v := 2) dMo_opened_28 (by decide) ?_
      refine mn_cS (d' := 0) (w' := 0) (As := [.int 1, .int 0, .int 2]) (stk' := [.int 1]) okMo_in lMo_68 dMo_opened_29 rfl rfl (Nat.le_of_ble_eq_true rfl) (Nat.le_of_ble_eq_true rfl) (by decide) (c_M_in_y (by decide) (by decide)) rfl ?_
      refine mn_if_ne 37 dMo_opened_32 (by decide) (fun c4 => ?_) (fun c4 => ?_)
      · refine mn_iload_n 2 dMo_opened_37 rfl rfl ?_
        refine mn_if_ne 50 dMo_opened_38 (by decide) (fun c5 => ?_) (fun c5 => ?_)
        · refine mn_iload_n 2 dMo_opened_50 rfl rfl ?_
          refine mn_iconst (v := 1) dMo_opened_51 (by decide) ?_
          refine mn_icmp_ne 64 dMo_opened_52 (by decide) (fun c6 => ?_) (fun c6 => ?_)
          · exact absurd c6 (by decide)
          · refine mn_aload_n 0 dMo_opened_55 rfl rfl ?_
            refine mn_get okMo 24 lMo_50 (by decide) hM_g1 rfl dMo_opened_56 ?_
            refine mn_iload_n 1 dMo_opened_59 rfl rfl ?_
            refine mn_ialdN (j := k) hTL_g1 rfl (by omega) (by omega) dMo_opened_60 ?_
            refine mn_goto 70 dMo_opened_61 (by decide) ?_
            exact mn_iret rfl dMo_opened_70 ⟨rfl, (mn_fr.rf.set eg1 (by show mo = mo; omega)), hM_g1⟩
        · exact absurd c5 (by decide)
      · exact absurd c4 (by decide)
set_option maxRecDepth 100000 in
theorem c_M_opened2 {E : mn_En} {g : mn_H} {mo tl e sz rp st m r wd ag td om : Nat} {tA tL tO : Nat → Nat} (hM : mn_at g mo (.inr (11, [.int 0, .ref (mo + 1), .int (nI tl), .ref (mo + 2), .ref (mo + 3), .int (nI e), .int (nI sz), .int (nI rp), .int (nI st), .ref (mo + 4), .ref (mo + 5), .ref (mo + 6), .int 1, .int (nI m), .int (nI r), .int (nI wd), .int (nI ag), .ref (mo + 7), .ref (mo + 8), .ref (mo + 9), .ref (mo + 10), .int (nI td), .int (nI om), .ref (mo + 11), .ref (mo + 12), .ref (mo + 13), .ref (mo + 14), .ref (mo + 15), .ref (mo + 16)]))) (hTA : mn_at g (mo + 11) (.inl (0, 40, .inl (fun j => nI (tA j))))) (hTL : mn_at g (mo + 12) (.inl (0, 40, .inl (fun j => nI (tL j))))) (hTO : mn_at g (mo + 13) (.inl (0, 40, .inl (fun j => nI (tO j))))) (htd : td ≤ 40) {k : Nat} (hk : k < td) : mn_R E MMo_opened 1 22 0 0 0 [(0, .ref mo), (1, .int (nI k)), (2, .int 2)] [] g (fun x g' => x = some (.int (nI (tO k))) ∧ mn_fr (fun q => q = mo) g g' ∧ mn_at g' mo (.inr (11, [.int 0, .ref (mo + 1), .int (nI tl), .ref (mo + 2), .ref (mo + 3), .int (nI e), .int (nI sz), .int (nI rp), .int (nI st), .ref (mo + 4), .ref (mo + 5), .ref (mo + 6), .int 1, .int (nI m), .int (nI r), .int (nI wd), .int (nI ag), .ref (mo + 7), .ref (mo + 8), .ref (mo + 9), .ref (mo + 10), .int (nI td), .int (nI om), .ref (mo + 11), .ref (mo + 12), .ref (mo + 13), .ref (mo + 14), .ref (mo + 15), .ref (mo + 16)]))) := by
  refine mn_aload_n 0 dMo_opened_0 rfl rfl ?_
  refine mn_iconst (v := 0) dMo_opened_1 (by decide) ?_
  refine mn_putf okMo 0 lMo_1 (by decide) rfl hM rfl rfl (Nat.le_of_ble_eq_true rfl) dMo_opened_2 ?_
  obtain ⟨g1, eg1⟩ : ∃ gg_, gg_ = mn_set g mo (.inr (11, [.int 0, .ref (mo + 1), .int (nI tl), .ref (mo + 2), .ref (mo + 3), .int (nI e), .int (nI sz), .int (nI rp), .int (nI st), .ref (mo + 4), .ref (mo + 5), .ref (mo + 6), .int 1, .int (nI m), .int (nI r), .int (nI wd), .int (nI ag), .ref (mo + 7), .ref (mo + 8), .ref (mo + 9), .ref (mo + 10), .int (nI td), .int (nI om), .ref (mo + 11), .ref (mo + 12), .ref (mo + 13), .ref (mo + 14), .ref (mo + 15), .ref (mo + 16)])) := ⟨_, rfl⟩
  refine mn_R.toG eg1 ?_
  have hM_g1 : mn_at g1 mo (.inr (11, [.int 0, .ref (mo + 1), .int (nI tl), .ref (mo + 2), .ref (mo + 3), .int (nI e), .int (nI sz), .int (nI rp), .int (nI st), .ref (mo + 4), .ref (mo + 5), .ref (mo + 6), .int 1, .int (nI m), .int (nI r), .int (nI wd), .int (nI ag), .ref (mo + 7), .ref (mo + 8), .ref (mo + 9), .ref (mo + 10), .int (nI td), .int (nI om), .ref (mo + 11), .ref (mo + 12), .ref (mo + 13), .ref (mo + 14), .ref (mo + 15), .ref (mo + 16)])) := by rw [eg1]; exact hM.same
  have hTA_g1 : mn_at g1 (mo + 11) (.inl (0, 40, .inl (fun j => nI (tA j)))) := by rw [eg1]; exact hTA.off (by omega)
  have hTL_g1 : mn_at g1 (mo + 12) (.inl (0, 40, .inl (fun j => nI (tL j)))) := by rw [eg1]; exact hTL.off (by omega)
  have hTO_g1 : mn_at g1 (mo + 13) (.inl (0, 40, .inl (fun j => nI (tO j)))) := by rw [eg1]; exact hTO.off (by omega)
  refine mn_aload_n 0 dMo_opened_5 rfl rfl ?_
  refine mn_get okMo 12 lMo_140 (by decide) hM_g1 rfl dMo_opened_6 ?_
  refine mn_if_eq 35 dMo_opened_9 (by decide) (fun c2 => ?_) (fun c2 => ?_)
  · exact absurd c2 (by decide)
  · refine mn_iload_n 1 dMo_opened_12 rfl rfl ?_
    refine mn_iconst (v := 0) dMo_opened_13 (by decide) ?_
    refine mn_aload_n 0 dMo_opened_14 rfl rfl ?_
    refine mn_get okMo 21 lMo_175 (by decide) hM_g1 rfl dMo_opened_15 ?_
    refine mn_iconst (v := 1) dMo_opened_18 (by decide) ?_
    refine mn_isub (z := nI (td - 1)) dMo_opened_19 (pk_sub (a := td) (b := 1) (by omega)) ?_
    refine mn_cS (d' := 0) (w' := 0) (As := [.int (nI k), .int 0, .int (nI (td - 1))]) (stk' := [.int 1]) okMo_in lMo_68 dMo_opened_20 rfl rfl (Nat.le_of_ble_eq_true rfl) (Nat.le_of_ble_eq_true rfl) (by decide) (c_M_in_y (nI_pos (by omega)) (ml_lt (a := k) (b := td - 1) (by omega) (by omega) (by omega))) rfl ?_
    refine mn_if_eq 35 dMo_opened_23 (by decide) (fun c3 => ?_) (fun c3 => ?_)
    · exact absurd c3 (by decide)
    · refine mn_iload_n 2 dMo_opened_26 rfl rfl ?_
      refine mn_iconst (v := 0) dMo_opened_27 (by decide) ?_
      refine mn_iconst (v := 2) dMo_opened_28 (by decide) ?_
      refine mn_cS (d' := 0) (w' := 0) (As := [.int 2, .int 0, .int 2]) (stk' := [.int 1]) okMo_in lMo_68 dMo_opened_29 rfl rfl (Nat.le_of_ble_eq_true rfl) (Nat.le_of_ble_eq_true rfl) (by decide) (c_M_in_y (by decide) (by decide)) rfl ?_
      refine mn_if_ne 37 dMo_opened_32 (by decide) (fun c4 => ?_) (fun c4 => ?_)
      · refine mn_iload_n 2 dMo_opened_37 rfl rfl ?_
        refine mn_if_ne 50 dMo_opened_38 (by decide) (fun c5 => ?_) (fun c5 => ?_)
        · refine mn_iload_n 2 dMo_opened_50 rfl rfl ?_
          refine mn_iconst (v := 1) dMo_opened_51 (by decide) ?_
          refine mn_icmp_ne 64 dMo_opened_52 (by decide) (fun c6 => ?_) (fun c6 => ?_)
          · refine mn_aload_n 0 dMo_opened_64 rfl rfl ?_
            refine mn_get okMo 25 lMo_53 (by decide) hM_g1 rfl dMo_opened_65 ?_
            refine mn_iload_n 1 dMo_opened_68 rfl rfl ?_
            refine mn_ialdN (j := k) hTO_g1 rfl (by omega) (by omega) dMo_opened_69 ?_
            exact mn_iret rfl dMo_opened_70 ⟨rfl, (mn_fr.rf.set eg1 (by show mo = mo; omega)), hM_g1⟩
          · exact absurd c6 (by decide)
        · exact absurd c5 (by decide)
      · exact absurd c4 (by decide)
