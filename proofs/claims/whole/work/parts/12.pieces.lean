theorem dAr_fill_0 : decode kAr_fill 0 = .ok (.iconst 0, 1) := by decide +kernel
theorem dAr_fill_1 : decode kAr_fill 1 = .ok (.istore_n 2, 1) := by decide +kernel
theorem dAr_fill_2 : decode kAr_fill 2 = .ok (.aload_n 0, 1) := by decide +kernel
theorem dAr_fill_3 : decode kAr_fill 3 = .ok (.arraylength, 1) := by decide +kernel
theorem dAr_fill_4 : decode kAr_fill 4 = .ok (.istore_n 3, 1) := by decide +kernel
theorem dAr_fill_5 : decode kAr_fill 5 = .ok (.iload_n 2, 1) := by decide +kernel
theorem dAr_fill_6 : decode kAr_fill 6 = .ok (.iload_n 3, 1) := by decide +kernel
theorem dAr_fill_7 : decode kAr_fill 7 = .ok (.if_icmp .ge 13, 3) := by decide +kernel
theorem dAr_fill_10 : decode kAr_fill 10 = .ok (.aload_n 0, 1) := by decide +kernel
theorem dAr_fill_11 : decode kAr_fill 11 = .ok (.iload_n 2, 1) := by decide +kernel
theorem dAr_fill_12 : decode kAr_fill 12 = .ok (.iload_n 1, 1) := by decide +kernel
theorem dAr_fill_13 : decode kAr_fill 13 = .ok (.iastore, 1) := by decide +kernel
theorem dAr_fill_14 : decode kAr_fill 14 = .ok (.iinc 2 1, 3) := by decide +kernel
theorem dAr_fill_17 : decode kAr_fill 17 = .ok (.goto (-12), 3) := by decide +kernel
theorem dAr_fill_20 : decode kAr_fill 20 = .ok (.return_, 1) := by decide +kernel
set_option maxRecDepth 100000 in
theorem c_fill_l {E : mn_En} {g : mn_H} {r n : Nat} {f : Nat → Int32} {x : Int32} (hn : n < 2 ^ 31) : ∀ (k i : Nat) (g0 : mn_H), i ≤ n → n - i < k → mn_fr (fun q => q = r) g g0 → mn_at g0 r (.inl (0, n, .inl (flN f x i))) → mn_R E MAr_fill 0 0 0 0 5 [(0, .ref r), (1, .int x), (2, .int (nI i)), (3, .int (nI n))] [] g0 (fun v g' => v = none ∧ mn_fr (fun q => q = r) g g' ∧ mn_at g' r (.inl (0, n, .inl (flN f x n)))) := by
  intro k
  induction k with
  | zero => intro i g0 h1 h2; exact absurd h2 (by omega)
  | succ k ih =>
    intro i g0 h1 h2 hf hr
    refine mn_iload_n 2 dAr_fill_5 rfl rfl ?_
    refine mn_iload_n 3 dAr_fill_6 rfl rfl ?_
    refine mn_icmp_ge 20 dAr_fill_7 (by decide) (fun c1 => ?_) (fun c1 => ?_)
    · have c1 := (nI_leI (a := n) (b := i) (by omega) (by omega)).mp c1
      exact mn_vret rfl dAr_fill_20 ⟨rfl, hf, by rw [show n = i by omega] at hr ⊢; exact hr⟩
    · have c1 := mt (nI_leI (a := n) (b := i) (by omega) (by omega)).mpr c1
      refine mn_aload_n 0 dAr_fill_10 rfl rfl ?_
      refine mn_iload_n 2 dAr_fill_11 rfl rfl ?_
      refine mn_iload_n 1 dAr_fill_12 rfl rfl ?_
      refine mn_iastN (j := i) hr rfl (by omega) (by omega) dAr_fill_13 ?_
      obtain ⟨g2, eg2⟩ : ∃ gg_, gg_ = mn_set g0 r (.inl (0, n, .inl (upd (flN f x i) i x))) := ⟨_, rfl⟩
      refine mn_R.toG eg2 ?_
      have hr_g2 : mn_at g2 r (.inl (0, n, .inl (upd (flN f x i) i x))) := by rw [eg2]; exact hr.same
      refine mn_iinc (v := nI (i + 1)) (ls' := [(0, .ref r), (1, .int x), (2, .int (nI (i + 1))), (3, .int (nI n))]) 2 dAr_fill_14 rfl (nI_add i 1) (by decide) rfl ?_
      refine mn_goto 5 dAr_fill_17 (by decide) ?_
      rw [flN_s] at hr_g2
      exact ih (i + 1) g2 (by omega) (by omega) (hf.set eg2 rfl) hr_g2
set_option maxRecDepth 100000 in
theorem c_fill {E : mn_En} {g : mn_H} {r n : Nat} {f : Nat → Int32} {x : Int32} (hr : mn_at g r (.inl (0, n, .inl f))) (hn : n < 2 ^ 31) : mn_R E MAr_fill 0 0 0 0 0 [(0, .ref r), (1, .int x)] [] g (fun v g' => v = none ∧ mn_fr (fun q => q = r) g g' ∧ mn_at g' r (.inl (0, n, .inl (flN f x n)))) := by
  refine mn_iconst (v := 0) dAr_fill_0 (by decide) ?_
  refine mn_istore_n (ls' := [(0, .ref r), (1, .int x), (2, .int 0)]) dAr_fill_1 rfl (by decide) rfl ?_
  refine mn_aload_n 0 dAr_fill_2 rfl rfl ?_
  refine mn_alen hr rfl dAr_fill_3 ?_
  refine mn_istore_n (ls' := [(0, .ref r), (1, .int x), (2, .int 0), (3, .int (nI n))]) dAr_fill_4 rfl (by decide) rfl ?_
  have hr : mn_at g r (.inl (0, n, .inl (flN f x 0))) := by rw [flN_0]; exact hr
  exact c_fill_l hn (n + 1) 0 g (by omega) (by omega) mn_fr.rf hr
set_option maxRecDepth 100000 in
theorem c_P_blank {E : mn_En} {g : mn_H} {a nb m w : Nat} {fb fl fs : Nat → Int32} (ha : mn_at g a (.inr (2, [.ref (a + 3), .ref (a + 1), .ref (a + 2), .int (nI m), .int (nI w)]))) (hb : mn_at g (a + 3) (.inl (0, nb, .inl fb))) (hl : mn_at g (a + 1) (.inl (0, 60, .inl fl))) (hs : mn_at g (a + 2) (.inl (0, 60, .inl fs))) (hnb : nb < 5000) : mn_R E MPc_blank 1 23 0 0 0 [(0, .ref a)] [] g (fun v g' => v = none ∧ mn_fr (fun q => q = a + 1 ∨ q = a + 2 ∨ q = a + 3) g g' ∧ mn_at g' (a + 3) (.inl (0, nb, .inl (flN fb 0 nb))) ∧ mn_at g' (a + 1) (.inl (0, 60, .inl (flN fl 0 60))) ∧ mn_at g' (a + 2) (.inl (0, 60, .inl (flN fs 0 60)))) := by
  refine mn_aload_n 0 dPc_blank_0 rfl rfl ?_
  refine mn_get okPc 0 lPc_24 (by decide) ha rfl dPc_blank_1 ?_
  refine mn_iconst (v := 0) dPc_blank_4 (by decide) ?_
  refine mn_callS (As := [.ref (a + 3), .int 0]) (st := []) okAr_fill lPc_27 dPc_blank_5 rfl rfl (Nat.le_of_ble_eq_true rfl) (Nat.le_of_ble_eq_true rfl) (by decide) (c_fill hb (by omega)) (fun v g1 hq => ?_)
  obtain ⟨rfl, fg1, hb_g1⟩ := hq
  show mn_R E MPc_blank 1 23 _ _ 8 [(0, .ref a)] [] g1 _
  have ha_g1 := ha.fr fg1 (fun h => by have h9 : a = a + 3 := h; omega)
  have hl_g1 := hl.fr fg1 (fun h => by have h9 : (a + 1) = a + 3 := h; omega)
  have hs_g1 := hs.fr fg1 (fun h => by have h9 : (a + 2) = a + 3 := h; omega)
  refine mn_aload_n 0 dPc_blank_8 rfl rfl ?_
  refine mn_get okPc 1 lPc_9 (by decide) ha_g1 rfl dPc_blank_9 ?_
  refine mn_iconst (v := 0) dPc_blank_12 (by decide) ?_
  refine mn_callS (As := [.ref (a + 1), .int 0]) (st := []) okAr_fill lPc_27 dPc_blank_13 rfl rfl (Nat.le_of_ble_eq_true rfl) (Nat.le_of_ble_eq_true rfl) (by decide) (c_fill hl_g1 (by omega)) (fun v g2 hq => ?_)
  obtain ⟨rfl, fg2, hl_g2⟩ := hq
  show mn_R E MPc_blank 1 23 _ _ 16 [(0, .ref a)] [] g2 _
  have ha_g2 := ha_g1.fr fg2 (fun h => by have h9 : a = a + 1 := h; omega)
  have hb_g2 := hb_g1.fr fg2 (fun h => by have h9 : (a + 3) = a + 1 := h; omega)
  have hs_g2 := hs_g1.fr fg2 (fun h => by have h9 : (a + 2) = a + 1 := h; omega)
  refine mn_aload_n 0 dPc_blank_16 rfl rfl ?_
  refine mn_get okPc 2 lPc_15 (by decide) ha_g2 rfl dPc_blank_17 ?_
  refine mn_iconst (v := 0) dPc_blank_20 (by decide) ?_
  refine mn_callS (As := [.ref (a + 2), .int 0]) (st := []) okAr_fill lPc_27 dPc_blank_21 rfl rfl (Nat.le_of_ble_eq_true rfl) (Nat.le_of_ble_eq_true rfl) (by decide) (c_fill hs_g2 (by omega)) (fun v g3 hq => ?_)
  obtain ⟨rfl, fg3, hs_g3⟩ := hq
  show mn_R E MPc_blank 1 23 _ _ 24 [(0, .ref a)] [] g3 _
  have ha_g3 := ha_g2.fr fg3 (fun h => by have h9 : a = a + 2 := h; omega)
  have hb_g3 := hb_g2.fr fg3 (fun h => by have h9 : (a + 3) = a + 2 := h; omega)
  have hl_g3 := hl_g2.fr fg3 (fun h => by have h9 : (a + 1) = a + 2 := h; omega)
  exact mn_vret rfl dPc_blank_24 ⟨rfl, (((mn_fr.rf.tr (fg1.mo (fun q h => by have h9 : q = a + 3 := h; show q = a + 1 ∨ q = a + 2 ∨ q = a + 3; omega))).tr (fg2.mo (fun q h => by have h9 : q = a + 1 := h; show q = a + 1 ∨ q = a + 2 ∨ q = a + 3; omega))).tr (fg3.mo (fun q h => by have h9 : q = a + 2 := h; show q = a + 1 ∨ q = a + 2 ∨ q = a + 3; omega))), hb_g3, hl_g3, hs_g3⟩
set_option maxRecDepth 100000 in
theorem c_P_room {E : mn_En} {g : mn_H} {a nb m w : Nat} {fb fl fs : Nat → Int32} (ha : mn_at g a (.inr (2, [.ref (a + 3), .ref (a + 1), .ref (a + 2), .int (nI m), .int (nI w)]))) (hb : mn_at g (a + 3) (.inl (0, nb, .inl fb))) (hl : mn_at g (a + 1) (.inl (0, 60, .inl fl))) (hs : mn_at g (a + 2) (.inl (0, 60, .inl fs))) (hnb : nb < 5000) : mn_R E MPc_room 0 0 0 0 0 [(0, .ref a)] [] g (mn_is (some (.int (nI (m * w)))) g) := by
  refine mn_aload_n 0 dPc_room_0 rfl rfl ?_
  refine mn_get okPc 3 lPc_33 (by decide) ha rfl dPc_room_1 ?_
  refine mn_aload_n 0 dPc_room_4 rfl rfl ?_
  refine mn_get okPc 4 lPc_37 (by decide) ha rfl dPc_room_5 ?_
  refine mn_imul (z := nI (m * w)) dPc_room_8 (pk_mul m w) ?_
  exact mn_iret rfl dPc_room_9 ⟨rfl, rfl⟩
set_option maxRecDepth 100000 in
theorem c_P_byteAt {E : mn_En} {g : mn_H} {a nb m w : Nat} {fb fl fs : Nat → Int32} (ha : mn_at g a (.inr (2, [.ref (a + 3), .ref (a + 1), .ref (a + 2), .int (nI m), .int (nI w)]))) (hb : mn_at g (a + 3) (.inl (0, nb, .inl fb))) (hl : mn_at g (a + 1) (.inl (0, 60, .inl fl))) (hs : mn_at g (a + 2) (.inl (0, 60, .inl fs))) (hnb : nb < 5000) {j : Nat} (hj : j < nb) : mn_R E MPc_byteAt 0 0 0 0 0 [(0, .ref a), (1, .int (nI j))] [] g (mn_is (some (.int (fb j))) g) := by
  refine mn_iload_n 1 dPc_byteAt_0 rfl rfl ?_
  refine mn_if_lt 13 dPc_byteAt_1 (by decide) (fun c1 => ?_) (fun c1 => ?_)
  · exact absurd c1 (nI_pos (by omega))
  · refine mn_iload_n 1 dPc_byteAt_4 rfl rfl ?_
    refine mn_aload_n 0 dPc_byteAt_5 rfl rfl ?_
    refine mn_get okPc 0 lPc_24 (by decide) ha rfl dPc_byteAt_6 ?_
    refine mn_alen hb rfl dPc_byteAt_9 ?_
    refine mn_icmp_lt 17 dPc_byteAt_10 (by decide) (fun c2 => ?_) (fun c2 => ?_)
    · have c2 := (nI_ltI (a := j) (b := nb) (by omega) (by omega)).mp c2
      refine mn_aload_n 0 dPc_byteAt_17 rfl rfl ?_
      refine mn_get okPc 0 lPc_24 (by decide) ha rfl dPc_byteAt_18 ?_
      refine mn_iload_n 1 dPc_byteAt_21 rfl rfl ?_
      refine mn_ialdN (j := j) hb rfl (by omega) (by omega) dPc_byteAt_22 ?_
      exact mn_iret rfl dPc_byteAt_23 ⟨rfl, rfl⟩
    · have c2 := mt (nI_ltI (a := j) (b := nb) (by omega) (by omega)).mpr c2
      refine mn_iconst (v := 0) dPc_byteAt_13 (by decide) ?_
      refine mn_goto 23 dPc_byteAt_14 (by decide) ?_
      exact mn_iret rfl dPc_byteAt_23 (absurd hj (by omega))
set_option maxRecDepth 100000 in
theorem c_P_put {E : mn_En} {g : mn_H} {a nb m w : Nat} {fb fl fs : Nat → Int32} (ha : mn_at g a (.inr (2, [.ref (a + 3), .ref (a + 1), .ref (a + 2), .int (nI m), .int (nI w)]))) (hb : mn_at g (a + 3) (.inl (0, nb, .inl fb))) (hl : mn_at g (a + 1) (.inl (0, 60, .inl fl))) (hs : mn_at g (a + 2) (.inl (0, 60, .inl fs))) (hnb : nb < 5000) {j : Nat} (hj : j < nb) {x : Int32} : mn_R E MPc_put 0 0 0 0 0 [(0, .ref a), (1, .int (nI j)), (2, .int x)] [] g (mn_is none (mn_set g (a + 3) (.inl (0, nb, .inl (upd fb j x))))) := by
  refine mn_iload_n 1 dPc_put_0 rfl rfl ?_
  refine mn_if_lt 20 dPc_put_1 (by decide) (fun c1 => ?_) (fun c1 => ?_)
  · exact absurd c1 (nI_pos (by omega))
  · refine mn_iload_n 1 dPc_put_4 rfl rfl ?_
    refine mn_aload_n 0 dPc_put_5 rfl rfl ?_
    refine mn_get okPc 0 lPc_24 (by decide) ha rfl dPc_put_6 ?_
    refine mn_alen hb rfl dPc_put_9 ?_
    refine mn_icmp_ge 20 dPc_put_10 (by decide) (fun c2 => ?_) (fun c2 => ?_)
    · have c2 := (nI_leI (a := nb) (b := j) (by omega) (by omega)).mp c2
      exact mn_vret rfl dPc_put_20 (absurd hj (by omega))
    · have c2 := mt (nI_leI (a := nb) (b := j) (by omega) (by omega)).mpr c2
      refine mn_aload_n 0 dPc_put_13 rfl rfl ?_
      refine mn_get okPc 0 lPc_24 (by decide) ha rfl dPc_put_14 ?_
      refine mn_iload_n 1 dPc_put_17 rfl rfl ?_
      refine mn_iload_n 2 dPc_put_18 rfl rfl ?_
      refine mn_iastN (j := j) hb rfl (by omega) (by omega) dPc_put_19 ?_
      obtain ⟨g3, eg3⟩ : ∃ gg_, gg_ = mn_set g (a + 3) (.inl (0, nb, .inl (upd fb j x))) := ⟨_, rfl⟩
      refine mn_R.toG eg3 ?_
      have ha_g3 : mn_at g3 a (.inr (2, [.ref (a + 3), .ref (a + 1), .ref (a + 2), .int (nI m), .int (nI w)])) := by rw [eg3]; exact ha.off (by omega)
      have hb_g3 : mn_at g3 (a + 3) (.inl (0, nb, .inl (upd fb j x))) := by rw [eg3]; exact hb.same
      have hl_g3 : mn_at g3 (a + 1) (.inl (0, 60, .inl fl)) := by rw [eg3]; exact hl.off (by omega)
      have hs_g3 : mn_at g3 (a + 2) (.inl (0, 60, .inl fs)) := by rw [eg3]; exact hs.off (by omega)
      exact mn_vret rfl dPc_put_20 ⟨rfl, eg3⟩
set_option maxRecDepth 100000 in
theorem c_P_sum {E : mn_En} {g : mn_H} {a nb m w : Nat} {fb fl fs : Nat → Int32} (ha : mn_at g a (.inr (2, [.ref (a + 3), .ref (a + 1), .ref (a + 2), .int (nI m), .int (nI w)]))) (hb : mn_at g (a + 3) (.inl (0, nb, .inl fb))) (hl : mn_at g (a + 1) (.inl (0, 60, .inl fl))) (hs : mn_at g (a + 2) (.inl (0, 60, .inl fs))) (hnb : nb < 5000) {i j : Nat} (hij : i ≤ j) (hj : j ≤ nb) : mn_R E MPc_sum 2 45 0 0 0 [(0, .ref a), (1, .int (nI i)), (2, .int (nI j))] [] g (mn_is (some (.int (su fb i (j - i)))) g) := by
  refine mn_aload_n 0 dPc_sum_0 rfl rfl ?_
  refine mn_get okPc 0 lPc_24 (by decide) ha rfl dPc_sum_1 ?_
  refine mn_iload_n 1 dPc_sum_4 rfl rfl ?_
  refine mn_iload_n 2 dPc_sum_5 rfl rfl ?_
  refine mn_cS (As := [.ref (a + 3), .int (nI i), .int (nI j)]) (stk' := [.int (su fb i (j - i))]) okBy_sum lPc_40 dPc_sum_6 rfl rfl (Nat.le_of_ble_eq_true rfl) (Nat.le_of_ble_eq_true rfl) (by decide) (c_sum hb (a := i) (b := j) (by omega) (by omega) (by omega)) rfl ?_
  exact mn_iret rfl dPc_sum_9 ⟨rfl, rfl⟩
set_option maxRecDepth 100000 in
theorem c_P_part {E : mn_En} {g : mn_H} {a nb m w : Nat} {fb fl fs : Nat → Int32} (ha : mn_at g a (.inr (2, [.ref (a + 3), .ref (a + 1), .ref (a + 2), .int (nI m), .int (nI w)]))) (hb : mn_at g (a + 3) (.inl (0, nb, .inl fb))) (hl : mn_at g (a + 1) (.inl (0, 60, .inl fl))) (hs : mn_at g (a + 2) (.inl (0, 60, .inl fs))) (hnb : nb < 5000) {n i : Nat} (hn : n < 60) (hi : i < 80) (hw : n * w + i < nb + 12) (hw0 : n * w < 5000) : mn_R E MPc_part 1 21 0 0 0 [(0, .ref a), (1, .int (nI n)), (2, .int (nI i))] [] g (mn_is (some (.int (pt fb fl fs w n i))) g) := by
  refine mn_iload_n 1 dPc_part_0 rfl rfl ?_
  refine mn_if_lt 10 dPc_part_1 (by decide) (fun c1 => ?_) (fun c1 => ?_)
  · exact absurd c1 (nI_pos (by omega))
  · refine mn_iload_n 1 dPc_part_4 rfl rfl ?_
    refine mn_bipush (v := 60) dPc_part_5 (by decide) ?_
    refine mn_icmp_lt 12 dPc_part_7 (by decide) (fun c2 => ?_) (fun c2 => ?_)
    · have c2 := (nI_ltI (a := n) (b := 60) (by omega) (by omega)).mp c2
      refine mn_iload_n 2 dPc_part_12 rfl rfl ?_
      refine mn_bipush (v := 6) dPc_part_13 (by decide) ?_
      refine mn_icmp_ne 25 dPc_part_15 (by decide) (fun c3 => ?_) (fun c3 => ?_)
      · have c3 := mt (nI_eq (a := i) (b := 6) (by omega) (by omega)).mpr c3
        refine mn_iload_n 2 dPc_part_25 rfl rfl ?_
        refine mn_bipush (v := 7) dPc_part_26 (by decide) ?_
        refine mn_icmp_ne 38 dPc_part_28 (by decide) (fun c4 => ?_) (fun c4 => ?_)
        · have c4 := mt (nI_eq (a := i) (b := 7) (by omega) (by omega)).mpr c4
          refine mn_iload_n 2 dPc_part_38 rfl rfl ?_
          refine mn_bipush (v := 12) dPc_part_39 (by decide) ?_
          refine mn_icmp_ge 48 dPc_part_41 (by decide) (fun c5 => ?_) (fun c5 => ?_)
          · have c5 := (nI_leI (a := 12) (b := i) (by omega) (by omega)).mp c5
            refine mn_aload_n 0 dPc_part_48 rfl rfl ?_
            refine mn_iload_n 1 dPc_part_49 rfl rfl ?_
            refine mn_aload_n 0 dPc_part_50 rfl rfl ?_
            refine mn_get okPc 4 lPc_37 (by decide) ha rfl dPc_part_51 ?_
            refine mn_imul (z := nI (n * w)) dPc_part_54 (pk_mul n w) ?_
            refine mn_iload_n 2 dPc_part_55 rfl rfl ?_
            refine mn_iadd (z := nI (n * w + i)) dPc_part_56 (nI_add (n * w) i) ?_
            refine mn_bipush (v := 12) dPc_part_57 (by decide) ?_
            refine mn_isub (z := nI ((n * w + i) - 12)) dPc_part_59 (pk_sub (a := n * w + i) (b := 12) (by omega)) ?_
            refine mn_cV (As := [.int (nI ((n * w + i) - 12))]) (stk' := [.int (fb ((n * w + i) - 12))]) okPc_byteAt lPc_46 dPc_part_60 ha rfl rfl rfl rfl (Nat.le_of_ble_eq_true rfl) (Nat.le_of_ble_eq_true rfl) (by decide) (c_P_byteAt ha hb hl hs (by omega) (j := (n * w + i) - 12) (by omega)) rfl ?_
            exact mn_iret rfl dPc_part_63 ⟨by unfold pt; rw [if_neg c3, if_neg c4, if_neg (by omega)], rfl⟩
          · have c5 := mt (nI_leI (a := 12) (b := i) (by omega) (by omega)).mpr c5
            refine mn_iconst (v := 0) dPc_part_44 (by decide) ?_
            refine mn_goto 63 dPc_part_45 (by decide) ?_
            exact mn_iret rfl dPc_part_63 ⟨by unfold pt; rw [if_neg c3, if_neg c4, if_pos (by omega)], rfl⟩
        · have c4 := (nI_eq (a := i) (b := 7) (by omega) (by omega)).mp c4
          refine mn_aload_n 0 dPc_part_31 rfl rfl ?_
          refine mn_get okPc 2 lPc_15 (by decide) ha rfl dPc_part_32 ?_
          refine mn_iload_n 1 dPc_part_35 rfl rfl ?_
          refine mn_ialdN (j := n) hs rfl (by omega) (by omega) dPc_part_36 ?_
          exact mn_iret rfl dPc_part_37 ⟨by unfold pt; rw [if_neg c3, if_pos c4], rfl⟩
      · have c3 := (nI_eq (a := i) (b := 6) (by omega) (by omega)).mp c3
        refine mn_aload_n 0 dPc_part_18 rfl rfl ?_
        refine mn_get okPc 1 lPc_9 (by decide) ha rfl dPc_part_19 ?_
        refine mn_iload_n 1 dPc_part_22 rfl rfl ?_
        refine mn_ialdN (j := n) hl rfl (by omega) (by omega) dPc_part_23 ?_
        exact mn_iret rfl dPc_part_24 ⟨by unfold pt; rw [if_pos c3], rfl⟩
    · have c2 := mt (nI_ltI (a := n) (b := 60) (by omega) (by omega)).mpr c2
      refine mn_iconst (v := 0) dPc_part_10 (by decide) ?_
      exact mn_iret rfl dPc_part_11 (absurd hn (by omega))
set_option maxRecDepth 100000 in
theorem c_P_putPart {E : mn_En} {g : mn_H} {a nb m w : Nat} {fb fl fs : Nat → Int32} (ha : mn_at g a (.inr (2, [.ref (a + 3), .ref (a + 1), .ref (a + 2), .int (nI m), .int (nI w)]))) (hb : mn_at g (a + 3) (.inl (0, nb, .inl fb))) (hl : mn_at g (a + 1) (.inl (0, 60, .inl fl))) (hs : mn_at g (a + 2) (.inl (0, 60, .inl fs))) (hnb : nb < 5000) {n i : Nat} (hn : n < 60) (hi : i < 80) (hw : n * w + i < nb + 12) (hw0 : n * w < 5000) {x : Int32} : mn_R E MPc_putPart 1 22 0 0 0 [(0, .ref a), (1, .int (nI n)), (2, .int (nI i)), (3, .int x)] [] g (fun v g' => v = none ∧ mn_fr (fun q => q = a + 1 ∨ q = a + 2 ∨ q = a + 3) g g' ∧ mn_at g' (a + 3) (.inl (0, nb, .inl (ppB w n i x fb))) ∧ mn_at g' (a + 1) (.inl (0, 60, .inl (ppL n i x fl))) ∧ mn_at g' (a + 2) (.inl (0, 60, .inl (ppS n i x fs)))) := by
  refine mn_iload_n 1 dPc_putPart_0 rfl rfl ?_
  refine mn_if_lt 10 dPc_putPart_1 (by decide) (fun c1 => ?_) (fun c1 => ?_)
  · exact absurd c1 (nI_pos (by omega))
  · refine mn_iload_n 1 dPc_putPart_4 rfl rfl ?_
    refine mn_bipush (v := 60) dPc_putPart_5 (by decide) ?_
    refine mn_icmp_lt 11 dPc_putPart_7 (by decide) (fun c2 => ?_) (fun c2 => ?_)
    · have c2 := (nI_ltI (a := n) (b := 60) (by omega) (by omega)).mp c2
      refine mn_iload_n 2 dPc_putPart_11 rfl rfl ?_
      refine mn_bipush (v := 6) dPc_putPart_12 (by decide) ?_
      refine mn_icmp_ne 27 dPc_putPart_14 (by decide) (fun c3 => ?_) (fun c3 => ?_)
      · have c3 := mt (nI_eq (a := i) (b := 6) (by omega) (by omega)).mpr c3
        refine mn_iload_n 2 dPc_putPart_27 rfl rfl ?_
        refine mn_bipush (v := 7) dPc_putPart_28 (by decide) ?_
        refine mn_icmp_ne 43 dPc_putPart_30 (by decide) (fun c4 => ?_) (fun c4 => ?_)
        · have c4 := mt (nI_eq (a := i) (b := 7) (by omega) (by omega)).mpr c4
          refine mn_iload_n 2 dPc_putPart_43 rfl rfl ?_
          refine mn_bipush (v := 12) dPc_putPart_44 (by decide) ?_
          refine mn_icmp_lt 65 dPc_putPart_46 (by decide) (fun c5 => ?_) (fun c5 => ?_)
          · have c5 := (nI_ltI (a := i) (b := 12) (by omega) (by omega)).mp c5
            exact mn_vret rfl dPc_putPart_65 ⟨rfl, mn_fr.rf, by unfold ppB; rw [if_neg (by omega)]; exact hb, by unfold ppL; rw [if_neg c3]; exact hl, by unfold ppS; rw [if_neg c4]; exact hs⟩
          · have c5 := mt (nI_ltI (a := i) (b := 12) (by omega) (by omega)).mpr c5
            refine mn_aload_n 0 dPc_putPart_49 rfl rfl ?_
            refine mn_iload_n 1 dPc_putPart_50 rfl rfl ?_
            refine mn_aload_n 0 dPc_putPart_51 rfl rfl ?_
            refine mn_get okPc 4 lPc_37 (by decide) ha rfl dPc_putPart_52 ?_
            refine mn_imul (z := nI (n * w)) dPc_putPart_55 (pk_mul n w) ?_
            refine mn_iload_n 2 dPc_putPart_56 rfl rfl ?_
            refine mn_iadd (z := nI (n * w + i)) dPc_putPart_57 (nI_add (n * w) i) ?_
            refine mn_bipush (v := 12) dPc_putPart_58 (by decide) ?_
            refine mn_isub (z := nI ((n * w + i) - 12)) dPc_putPart_60 (pk_sub (a := n * w + i) (b := 12) (by omega)) ?_
            refine mn_iload_n 3 dPc_putPart_61 rfl rfl ?_
            refine mn_cV (As := [.int (nI ((n * w + i) - 12)), .int x]) (stk' := []) okPc_put lPc_50 dPc_putPart_62 ha rfl rfl rfl rfl (Nat.le_of_ble_eq_true rfl) (Nat.le_of_ble_eq_true rfl) (by decide) (c_P_put ha hb hl hs (by omega) (j := (n * w + i) - 12) (by omega)) rfl ?_
            obtain ⟨g6, eg6⟩ : ∃ gg_, gg_ = mn_set g (a + 3) (.inl (0, nb, .inl (upd fb ((n * w + i) - 12) x))) := ⟨_, rfl⟩
            refine mn_R.toG eg6 ?_
            have ha_g6 : mn_at g6 a (.inr (2, [.ref (a + 3), .ref (a + 1), .ref (a + 2), .int (nI m), .int (nI w)])) := by rw [eg6]; exact ha.off (by omega)
            have hb_g6 : mn_at g6 (a + 3) (.inl (0, nb, .inl (upd fb ((n * w + i) - 12) x))) := by rw [eg6]; exact hb.same
            have hl_g6 : mn_at g6 (a + 1) (.inl (0, 60, .inl fl)) := by rw [eg6]; exact hl.off (by omega)
            have hs_g6 : mn_at g6 (a + 2) (.inl (0, 60, .inl fs)) := by rw [eg6]; exact hs.off (by omega)
            exact mn_vret rfl dPc_putPart_65 ⟨rfl, (mn_fr.rf.set eg6 (by omega)), by unfold ppB; rw [if_pos (by omega)]; exact hb_g6, by unfold ppL; rw [if_neg c3]; exact hl_g6, by unfold ppS; rw [if_neg c4]; exact hs_g6⟩
        · have c4 := (nI_eq (a := i) (b := 7) (by omega) (by omega)).mp c4
          refine mn_aload_n 0 dPc_putPart_33 rfl rfl ?_
          refine mn_get okPc 2 lPc_15 (by decide) ha rfl dPc_putPart_34 ?_
          refine mn_iload_n 1 dPc_putPart_37 rfl rfl ?_
          refine mn_iload_n 3 dPc_putPart_38 rfl rfl ?_
          refine mn_iastN (j := n) hs rfl (by omega) (by omega) dPc_putPart_39 ?_
          obtain ⟨g7, eg7⟩ : ∃ gg_, gg_ = mn_set g (a + 2) (.inl (0, 60, .inl (upd fs n x))) := ⟨_, rfl⟩
          refine mn_R.toG eg7 ?_
          have ha_g7 : mn_at g7 a (.inr (2, [.ref (a + 3), .ref (a + 1), .ref (a + 2), .int (nI m), .int (nI w)])) := by rw [eg7]; exact ha.off (by omega)
          have hb_g7 : mn_at g7 (a + 3) (.inl (0, nb, .inl fb)) := by rw [eg7]; exact hb.off (by omega)
          have hl_g7 : mn_at g7 (a + 1) (.inl (0, 60, .inl fl)) := by rw [eg7]; exact hl.off (by omega)
          have hs_g7 : mn_at g7 (a + 2) (.inl (0, 60, .inl (upd fs n x))) := by rw [eg7]; exact hs.same
          refine mn_goto 65 dPc_putPart_40 (by decide) ?_
          exact mn_vret rfl dPc_putPart_65 ⟨rfl, (mn_fr.rf.set eg7 (by omega)), by unfold ppB; rw [if_neg (by omega)]; exact hb_g7, by unfold ppL; rw [if_neg c3]; exact hl_g7, by unfold ppS; rw [if_pos c4]; exact hs_g7⟩
      · have c3 := (nI_eq (a := i) (b := 6) (by omega) (by omega)).mp c3
        refine mn_aload_n 0 dPc_putPart_17 rfl rfl ?_
        refine mn_get okPc 1 lPc_9 (by decide) ha rfl dPc_putPart_18 ?_
        refine mn_iload_n 1 dPc_putPart_21 rfl rfl ?_
        refine mn_iload_n 3 dPc_putPart_22 rfl rfl ?_
        refine mn_iastN (j := n) hl rfl (by omega) (by omega) dPc_putPart_23 ?_
        obtain ⟨g8, eg8⟩ : ∃ gg_, gg_ = mn_set g (a + 1) (.inl (0, 60, .inl (upd fl n x))) := ⟨_, rfl⟩
        refine mn_R.toG eg8 ?_
        have ha_g8 : mn_at g8 a (.inr (2, [.ref (a + 3), .ref (a + 1), .ref (a + 2), .int (nI m), .int (nI w)])) := by rw [eg8]; exact ha.off (by omega)
        have hb_g8 : mn_at g8 (a + 3) (.inl (0, nb, .inl fb)) := by rw [eg8]; exact hb.off (by omega)
        have hl_g8 : mn_at g8 (a + 1) (.inl (0, 60, .inl (upd fl n x))) := by rw [eg8]; exact hl.same
        have hs_g8 : mn_at g8 (a + 2) (.inl (0, 60, .inl fs)) := by rw [eg8]; exact hs.off (by omega)
        refine mn_goto 65 dPc_putPart_24 (by decide) ?_
        exact mn_vret rfl dPc_putPart_65 ⟨rfl, (mn_fr.rf.set eg8 (by omega)), by unfold ppB; rw [if_neg (by omega)]; exact hb_g8, by unfold ppL; rw [if_pos c3]; exact hl_g8, by unfold ppS; rw [if_neg (by omega)]; exact hs_g8⟩
    · have c2 := mt (nI_ltI (a := n) (b := 60) (by omega) (by omega)).mpr c2
      exact mn_vret rfl dPc_putPart_10 (absurd hn (by omega))
