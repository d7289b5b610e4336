theorem c_V_putN {E : mn_En} {g : mn_H} {a r s : Nat} {b : Nat → Nat} (ha : mn_at g a (.inr (8, [.ref r, .int (nI s)]))) (hr : mn_at g r (.inl (0, 80, .inl (fun j => nI (b j))))) {j v : Nat} (hj : j < 80) : mn_R E MVo_put 0 0 0 0 0 [(0, .ref a), (1, .int (nI j)), (2, .int (nI v))] [] g (mn_is none (mn_set g r (.inl (0, 80, .inl (fun i => nI (va_up b j v i)))))) := by
  rw [← upd_nI]
  exact c_V_put ha hr hj
set_option maxRecDepth 100000 in
theorem c_W_make_l {E : mn_En} {g : mn_H} {y a u nb m w sz rp st : Nat} {pb ln sn c : Nat → Nat} (hnb : nb < 5000) (hya : y + 2 < a ∨ a + 3 < y) (hyu : y + 2 < u ∨ u < y) (hsz : 20 ≤ sz) (hsz2 : sz ≤ 80) (hw : w = sz - 12) (hm1 : 1 ≤ m) (hm : m ≤ 60) (hmw : m * w ≤ nb) (hrp : rp ≤ 3) (hst : st < 256) {n : Nat} (hn : n < m + rp) (hpb : ∀ j, pb j < 256) (hln : ∀ j, ln j < 256) (hsn : ∀ j, sn j < 256) (hc : ∀ j, c j < 256) : ∀ (f i : Nat) (g0 : mn_H), 6 ≤ i → i ≤ sz → sz - i < f → mn_fr (fun q => q = y + 1 ∨ q = y + 2) g g0 → mn_at g0 y (.inr (9, [.ref (y + 1)])) → mn_at g0 (y + 1) (.inr (8, [.ref (y + 2), .int (nI sz)])) → mn_at g0 (y + 2) (.inl (0, 80, .inl (fun j => nI ((mkL (hd6 c st n m rp) (mkV pb ln sn w m n) i) j)))) → mn_at g0 a (.inr (2, [.ref (a + 3), .ref (a + 1), .ref (a + 2), .int (nI m), .int (nI w)])) → mn_at g0 (a + 3) (.inl (0, nb, .inl (fun j => nI (pb j)))) → mn_at g0 (a + 1) (.inl (0, 60, .inl (fun j => nI (ln j)))) → mn_at g0 (a + 2) (.inl (0, 60, .inl (fun j => nI (sn j)))) → mn_at g0 u (.inr (4, [.int (nI sz), .int (nI rp), .int (nI st)])) → mn_R E MWr_make 3 70 0 0 80 [(0, .ref y), (1, .int (nI n)), (2, .ref a), (3, .ref u), (4, .int (nI i))] [] g0 (fun x g' => x = none ∧ mn_fr (fun q => q = y + 1 ∨ q = y + 2) g g' ∧ mn_at g' (y + 1) (.inr (8, [.ref (y + 2), .int (nI sz)])) ∧ mn_at g' (y + 2) (.inl (0, 80, .inl (fun j => nI (vlN c pb ln sn w m n st rp sz j))))) := by
  intro f
  induction f with
  | zero => intro i g0 h0 h1 h2; exact absurd h2 (by omega)
  | succ f ih =>
    intro i g0 h0 h1 h2 hf hy hy1 hy2 ha hb hl hs hu
    refine mn_iload 4 dWr_make_80 rfl ?_
    refine mn_aload_n 3 dWr_make_82 rfl rfl ?_
    refine mn_get okRu 0 lWr_18 (by decide) hu rfl dWr_make_83 ?_
    refine mn_icmp_ge 134 dWr_make_86 (by decide) (fun c1 => ?_) (fun c1 => ?_)
    · have c1 := (nI_leI (a := sz) (b := i) (by omega) (by omega)).mp c1
      refine mn_aload_n 0 dWr_make_134 rfl rfl ?_
      refine mn_get okWr 0 lWr_12 (by decide) hy rfl dWr_make_135 ?_
      refine mn_cV (d' := 2) (w' := 45) (As := []) (stk' := []) okVo_seal lWr_47 dWr_make_138 hy1 rfl rfl rfl rfl (Nat.le_of_ble_eq_true rfl) (Nat.le_of_ble_eq_true rfl) (by decide) (by have h0 := c_V_seal (E := E) hy1 hy2 (by omega) (by omega); rw [seal_nI] at h0; exact h0) rfl ?_
      obtain ⟨g2, eg2⟩ : ∃ gg_, gg_ = mn_set g0 (y + 2) (.inl (0, 80, .inl (fun j => nI ((sealN (mkL (hd6 c st n m rp) (mkV pb ln sn w m n) i) sz) j)))) := ⟨_, rfl⟩
      refine mn_R.toG eg2 ?_
      have hy_g2 : mn_at g2 y (.inr (9, [.ref (y + 1)])) := by rw [eg2]; exact hy.off (by omega)
      have hy1_g2 : mn_at g2 (y + 1) (.inr (8, [.ref (y + 2), .int (nI sz)])) := by rw [eg2]; exact hy1.off (by omega)
      have hy2_g2 : mn_at g2 (y + 2) (.inl (0, 80, .inl (fun j => nI ((sealN (mkL (hd6 c st n m rp) (mkV pb ln sn w m n) i) sz) j)))) := by rw [eg2]; exact hy2.same
      have ha_g2 : mn_at g2 a (.inr (2, [.ref (a + 3), .ref (a + 1), .ref (a + 2), .int (nI m), .int (nI w)])) := by rw [eg2]; exact ha.off (by omega)
      have hb_g2 : mn_at g2 (a + 3) (.inl (0, nb, .inl (fun j => nI (pb j)))) := by rw [eg2]; exact hb.off (by omega)
      have hl_g2 : mn_at g2 (a + 1) (.inl (0, 60, .inl (fun j => nI (ln j)))) := by rw [eg2]; exact hl.off (by omega)
      have hs_g2 : mn_at g2 (a + 2) (.inl (0, 60, .inl (fun j => nI (sn j)))) := by rw [eg2]; exact hs.off (by omega)
      have hu_g2 : mn_at g2 u (.inr (4, [.int (nI sz), .int (nI rp), .int (nI st)])) := by rw [eg2]; exact hu.off (by omega)
      exact mn_vret rfl dWr_make_141 (by obtain rfl : i = sz := (by omega); exact ⟨rfl, (hf.set eg2 (by show (y + 2) = y + 1 ∨ (y + 2) = y + 2; omega)), hy1_g2, hy2_g2⟩)
    · have c1 := mt (nI_leI (a := sz) (b := i) (by omega) (by omega)).mpr c1
      have hwi : ∀ k, k < m → k * w + i < nb + 12 ∧ k * w < 5000 := fun k hk => by have := Nat.mul_le_mul_right w (show k + 1 ≤ m by omega); rw [Nat.succ_mul] at this; omega
      refine mn_aload_n 0 dWr_make_89 rfl rfl ?_
      refine mn_get okWr 0 lWr_12 (by decide) hy rfl dWr_make_90 ?_
      refine mn_iload 4 dWr_make_93 rfl ?_
      refine mn_iload_n 1 dWr_make_95 rfl rfl ?_
      refine mn_aload_n 2 dWr_make_96 rfl rfl ?_
      refine mn_get okPc 3 lWr_32 (by decide) ha rfl dWr_make_97 ?_
      refine mn_icmp_ge 113 dWr_make_100 (by decide) (fun c3 => ?_) (fun c3 => ?_)
      · have c3 := (nI_leI (a := m) (b := n) (by omega) (by omega)).mp c3
        refine mn_aload_n 2 dWr_make_113 rfl rfl ?_
        refine mn_iload_n 1 dWr_make_114 rfl rfl ?_
        refine mn_aload_n 2 dWr_make_115 rfl rfl ?_
        refine mn_get okPc 3 lWr_32 (by decide) ha rfl dWr_make_116 ?_
        refine mn_isub (z := nI (n - m)) dWr_make_119 (pk_sub (a := n) (b := m) (by omega)) ?_
        refine mn_iload 4 dWr_make_120 rfl ?_
        refine mn_cV (d' := 2) (w' := 46) (As := [.int (nI (n - m)), .int (nI i)]) (stk' := [.int (nI (horN (fun k => ptN pb ln sn w k i) (n - m) m m)), .int (nI i), .ref (y + 1)]) okPc_mixed lWr_44 dWr_make_122 ha rfl rfl rfl rfl (Nat.le_of_ble_eq_true rfl) (Nat.le_of_ble_eq_true rfl) (by decide) (c_P_mixedN ha hb hl hs (by omega) (j := n - m) (i := i) (by omega) (by omega) hm hwi hpb hln hsn hm1) rfl ?_
        refine mn_cV (d' := 0) (w' := 0) (As := [.int (nI i), .int (nI (horN (fun k => ptN pb ln sn w k i) (n - m) m m))]) (stk' := []) okVo_put lWr_25 dWr_make_125 hy1 rfl rfl rfl rfl (Nat.le_of_ble_eq_true rfl) (Nat.le_of_ble_eq_true rfl) (by decide) (c_V_putN hy1 hy2 (j := i) (v := horN (fun k => ptN pb ln sn w k i) (n - m) m m) (by omega)) rfl ?_
        obtain ⟨g4, eg4⟩ : ∃ gg_, gg_ = mn_set g0 (y + 2) (.inl (0, 80, .inl (fun j => nI ((va_up (mkL (hd6 c st n m rp) (mkV pb ln sn w m n) i) i (horN (fun k => ptN pb ln sn w k i) (n - m) m m)) j)))) := ⟨_, rfl⟩
        refine mn_R.toG eg4 ?_
        have hy_g4 : mn_at g4 y (.inr (9, [.ref (y + 1)])) := by rw [eg4]; exact hy.off (by omega)
        have hy1_g4 : mn_at g4 (y + 1) (.inr (8, [.ref (y + 2), .int (nI sz)])) := by rw [eg4]; exact hy1.off (by omega)
        have hy2_g4 : mn_at g4 (y + 2) (.inl (0, 80, .inl (fun j => nI ((va_up (mkL (hd6 c st n m rp) (mkV pb ln sn w m n) i) i (horN (fun k => ptN pb ln sn w k i) (n - m) m m)) j)))) := by rw [eg4]; exact hy2.same
        have ha_g4 : mn_at g4 a (.inr (2, [.ref (a + 3), .ref (a + 1), .ref (a + 2), .int (nI m), .int (nI w)])) := by rw [eg4]; exact ha.off (by omega)
        have hb_g4 : mn_at g4 (a + 3) (.inl (0, nb, .inl (fun j => nI (pb j)))) := by rw [eg4]; exact hb.off (by omega)
        have hl_g4 : mn_at g4 (a + 1) (.inl (0, 60, .inl (fun j => nI (ln j)))) := by rw [eg4]; exact hl.off (by omega)
        have hs_g4 : mn_at g4 (a + 2) (.inl (0, 60, .inl (fun j => nI (sn j)))) := by rw [eg4]; exact hs.off (by omega)
        have hu_g4 : mn_at g4 u (.inr (4, [.int (nI sz), .int (nI rp), .int (nI st)])) := by rw [eg4]; exact hu.off (by omega)
        refine mn_iinc (v := nI (i + 1)) (ls' := [(0, .ref y), (1, .int (nI n)), (2, .ref a), (3, .ref u), (4, .int (nI (i + 1)))]) 4 dWr_make_128 rfl (nI_add i 1) (by decide) rfl ?_
        refine mn_goto 80 dWr_make_131 (by decide) ?_
        rw [show horN (fun k => ptN pb ln sn w k i) (n - m) m m = mkV pb ln sn w m n i by unfold mkV; rw [if_neg (by omega)], mkL_s _ _ h0] at hy2_g4
        exact ih (i + 1) g4 (by omega) (by omega) (by omega) (hf.set eg4 (by show (y + 2) = y + 1 ∨ (y + 2) = y + 2; omega)) hy_g4 hy1_g4 hy2_g4 ha_g4 hb_g4 hl_g4 hs_g4 hu_g4
      · have c3 := mt (nI_leI (a := m) (b := n) (by omega) (by omega)).mpr c3
        have hwn := hwi n (by omega)
        have hwn1 := hwn.1
        have hwn2 := hwn.2
        refine mn_aload_n 2 dWr_make_103 rfl rfl ?_
        refine mn_iload_n 1 dWr_make_104 rfl rfl ?_
        refine mn_iload 4 dWr_make_105 rfl ?_
        refine mn_cV (d' := 1) (w' := 21) (As := [.int (nI n), .int (nI i)]) (stk' := [.int (nI (ptN pb ln sn w n i)), .int (nI i), .ref (y + 1)]) okPc_part lWr_40 dWr_make_107 ha rfl rfl rfl rfl (Nat.le_of_ble_eq_true rfl) (Nat.le_of_ble_eq_true rfl) (by decide) (c_P_partN ha hb hl hs (by omega) (n := n) (i := i) (by omega) (by omega) (by first | assumption | omega) (by first | assumption | omega)) rfl ?_
        refine mn_goto 125 dWr_make_110 (by decide) ?_
        refine mn_cV (d' := 0) (w' := 0) (As := [.int (nI i), .int (nI (ptN pb ln sn w n i))]) (stk' := []) okVo_put lWr_25 dWr_make_125 hy1 rfl rfl rfl rfl (Nat.le_of_ble_eq_true rfl) (Nat.le_of_ble_eq_true rfl) (by decide) (c_V_putN hy1 hy2 (j := i) (v := ptN pb ln sn w n i) (by omega)) rfl ?_
        obtain ⟨g5, eg5⟩ : ∃ gg_, gg_ = mn_set g0 (y + 2) (.inl (0, 80, .inl (fun j => nI ((va_up (mkL (hd6 c st n m rp) (mkV pb ln sn w m n) i) i (ptN pb ln sn w n i)) j)))) := ⟨_, rfl⟩
        refine mn_R.toG eg5 ?_
        have hy_g5 : mn_at g5 y (.inr (9, [.ref (y + 1)])) := by rw [eg5]; exact hy.off (by omega)
        have hy1_g5 : mn_at g5 (y + 1) (.inr (8, [.ref (y + 2), .int (nI sz)])) := by rw [eg5]; exact hy1.off (by omega)
        have hy2_g5 : mn_at g5 (y + 2) (.inl (0, 80, .inl (fun j => nI ((va_up (mkL (hd6 c st n m rp) (mkV pb ln sn w m n) i) i (ptN pb ln sn w n i)) j)))) := by rw [eg5]; exact hy2.same
        have ha_g5 : mn_at g5 a (.inr (2, [.ref (a + 3), .ref (a + 1), .ref (a + 2), .int (nI m), .int (nI w)])) := by rw [eg5]; exact ha.off (by omega)
        have hb_g5 : mn_at g5 (a + 3) (.inl (0, nb, .inl (fun j => nI (pb j)))) := by rw [eg5]; exact hb.off (by omega)
        have hl_g5 : mn_at g5 (a + 1) (.inl (0, 60, .inl (fun j => nI (ln j)))) := by rw [eg5]; exact hl.off (by omega)
        have hs_g5 : mn_at g5 (a + 2) (.inl (0, 60, .inl (fun j => nI (sn j)))) := by rw [eg5]; exact hs.off (by omega)
        have hu_g5 : mn_at g5 u (.inr (4, [.int (nI sz), .int (nI rp), .int (nI st)])) := by rw [eg5]; exact hu.off (by omega)
        refine mn_iinc (v := nI (i + 1)) (ls' := [(0, .ref y), (1, .int (nI n)), (2, .ref a), (3, .ref u), (4, .int (nI (i + 1)))]) 4 dWr_make_128 rfl (nI_add i 1) (by decide) rfl ?_
        refine mn_goto 80 dWr_make_131 (by decide) ?_
        rw [show ptN pb ln sn w n i = mkV pb ln sn w m n i by unfold mkV; rw [if_pos (by omega)], mkL_s _ _ h0] at hy2_g5
        exact ih (i + 1) g5 (by omega) (by omega) (by omega) (hf.set eg5 (by show (y + 2) = y + 1 ∨ (y + 2) = y + 2; omega)) hy_g5 hy1_g5 hy2_g5 ha_g5 hb_g5 hl_g5 hs_g5 hu_g5
set_option maxRecDepth 100000 in
theorem c_W_make {E : mn_En} {g : mn_H} {y a u nb m w sz rp st s0 : Nat} {pb ln sn c : Nat → Nat} (hy : mn_at g y (.inr (9, [.ref (y + 1)]))) (hy1 : mn_at g (y + 1) (.inr (8, [.ref (y + 2), .int (nI s0)]))) (hy2 : mn_at g (y + 2) (.inl (0, 80, .inl (fun j => nI (c j))))) (ha : mn_at g a (.inr (2, [.ref (a + 3), .ref (a + 1), .ref (a + 2), .int (nI m), .int (nI w)]))) (hb : mn_at g (a + 3) (.inl (0, nb, .inl (fun j => nI (pb j))))) (hl : mn_at g (a + 1) (.inl (0, 60, .inl (fun j => nI (ln j))))) (hs : mn_at g (a + 2) (.inl (0, 60, .inl (fun j => nI (sn j))))) (hu : mn_at g u (.inr (4, [.int (nI sz), .int (nI rp), .int (nI st)]))) (hnb : nb < 5000) (hya : y + 2 < a ∨ a + 3 < y) (hyu : y + 2 < u ∨ u < y) (hsz : 20 ≤ sz) (hsz2 : sz ≤ 80) (hw : w = sz - 12) (hm1 : 1 ≤ m) (hm : m ≤ 60) (hmw : m * w ≤ nb) (hrp : rp ≤ 3) (hst : st < 256) {n : Nat} (hn : n < m + rp) (hpb : ∀ j, pb j < 256) (hln : ∀ j, ln j < 256) (hsn : ∀ j, sn j < 256) (hc : ∀ j, c j < 256) : mn_R E MWr_make 3 70 0 0 0 [(0, .ref y), (1, .int (nI n)), (2, .ref a), (3, .ref u)] [] g (fun x g' => x = none ∧ mn_fr (fun q => q = y + 1 ∨ q = y + 2) g g' ∧ mn_at g' (y + 1) (.inr (8, [.ref (y + 2), .int (nI sz)])) ∧ mn_at g' (y + 2) (.inl (0, 80, .inl (fun j => nI (vlN c pb ln sn w m n st rp sz j))))) := by
  refine mn_aload_n 0 dWr_make_0 rfl rfl ?_
  refine mn_get okWr 0 lWr_12 (by decide) hy rfl dWr_make_1 ?_
  refine mn_aload_n 3 dWr_make_4 rfl rfl ?_
  refine mn_get okRu 0 lWr_18 (by decide) hu rfl dWr_make_5 ?_
  refine mn_putf okVo 1 lWr_24 (by decide) rfl hy1 rfl rfl (Nat.le_of_ble_eq_true rfl) dWr_make_8 ?_
  obtain ⟨g1, eg1⟩ : ∃ gg_, gg_ = mn_set g (y + 1) (.inr (8, [.ref (y + 2), .int (nI sz)])) := ⟨_, rfl⟩
  refine mn_R.toG eg1 ?_
  have hy_g1 : mn_at g1 y (.inr (9, [.ref (y + 1)])) := by rw [eg1]; exact hy.off (by omega)
  have hy1_g1 : mn_at g1 (y + 1) (.inr (8, [.ref (y + 2), .int (nI sz)])) := by rw [eg1]; exact hy1.same
  have hy2_g1 : mn_at g1 (y + 2) (.inl (0, 80, .inl (fun j => nI (c j)))) := by rw [eg1]; exact hy2.off (by omega)
  have ha_g1 : mn_at g1 a (.inr (2, [.ref (a + 3), .ref (a + 1), .ref (a + 2), .int (nI m), .int (nI w)])) := by rw [eg1]; exact ha.off (by omega)
  have hb_g1 : mn_at g1 (a + 3) (.inl (0, nb, .inl (fun j => nI (pb j)))) := by rw [eg1]; exact hb.off (by omega)
  have hl_g1 : mn_at g1 (a + 1) (.inl (0, 60, .inl (fun j => nI (ln j)))) := by rw [eg1]; exact hl.off (by omega)
  have hs_g1 : mn_at g1 (a + 2) (.inl (0, 60, .inl (fun j => nI (sn j)))) := by rw [eg1]; exact hs.off (by omega)
  have hu_g1 : mn_at g1 u (.inr (4, [.int (nI sz), .int (nI rp), .int (nI st)])) := by rw [eg1]; exact hu.off (by omega)
  refine mn_aload_n 0 dWr_make_11 rfl rfl ?_
  refine mn_get okWr 0 lWr_12 (by decide) hy_g1 rfl dWr_make_12 ?_
  refine mn_iconst (v := 0) dWr_make_15 (by decide) ?_
  refine mn_bipush (v := 86) dWr_make_16 (by decide) ?_
  refine mn_cV (d' := 0) (w' := 0) (As := [.int 0, .int 86]) (stk' := []) okVo_put lWr_25 dWr_make_18 hy1_g1 rfl rfl rfl rfl (Nat.le_of_ble_eq_true rfl) (Nat.le_of_ble_eq_true rfl) (by decide) (c_V_putN hy1_g1 hy2_g1 (j := 0) (v := 86) (by omega)) rfl ?_
  obtain ⟨g2, eg2⟩ : ∃ gg_, gg_ = mn_set g1 (y + 2) (.inl (0, 80, .inl (fun j => nI ((va_up c 0 86) j)))) := ⟨_, rfl⟩
  refine mn_R.toG eg2 ?_
  have hy_g2 : mn_at g2 y (.inr (9, [.ref (y + 1)])) := by rw [eg2]; exact hy_g1.off (by omega)
  have hy1_g2 : mn_at g2 (y + 1) (.inr (8, [.ref (y + 2), .int (nI sz)])) := by rw [eg2]; exact hy1_g1.off (by omega)
  have hy2_g2 : mn_at g2 (y + 2) (.inl (0, 80, .inl (fun j => nI ((va_up c 0 86) j)))) := by rw [eg2]; exact hy2_g1.same
  have ha_g2 : mn_at g2 a (.inr (2, [.ref (a + 3), .ref (a + 1), .ref (a + 2), .int (nI m), .int (nI w)])) := by rw [eg2]; exact ha_g1.off (by omega)
  have hb_g2 : mn_at g2 (a + 3) (.inl (0, nb, .inl (fun j => nI (pb j)))) := by rw [eg2]; exact hb_g1.off (by omega)
  have hl_g2 : mn_at g2 (a + 1) (.inl (0, 60, .inl (fun j => nI (ln j)))) := by rw [eg2]; exact hl_g1.off (by omega)
  have hs_g2 : mn_at g2 (a + 2) (.inl (0, 60, .inl (fun j => nI (sn j)))) := by rw [eg2]; exact hs_g1.off (by omega)
  have hu_g2 : mn_at g2 u (.inr (4, [.int (nI sz), .int (nI rp), .int (nI st)])) := by rw [eg2]; exact hu_g1.off (by omega)
  refine mn_aload_n 0 dWr_make_21 rfl rfl ?_
  refine mn_get okWr 0 lWr_12 (by decide) hy_g2 rfl dWr_make_22 ?_
  refine mn_iconst (v := 1) dWr_make_25 (by decide) ?_
  refine mn_bipush (v := 83) dWr_make_26 (by decide) ?_
  refine mn_cV (d' := 0) (w' := 0) (As := [.int 1, .int 83]) (stk' := []) okVo_put lWr_25 dWr_make_28 hy1_g2 rfl rfl rfl rfl (Nat.le_of_ble_eq_true rfl) (Nat.le_of_ble_eq_true rfl) (by decide) (c_V_putN hy1_g2 hy2_g2 (j := 1) (v := 83) (by omega)) rfl ?_
  obtain ⟨g3, eg3⟩ : ∃ gg_, gg_ = mn_set g2 (y + 2) (.inl (0, 80, .inl (fun j => nI ((va_up (va_up c 0 86) 1 83) j)))) := ⟨_, rfl⟩
  refine mn_R.toG eg3 ?_
  have hy_g3 : mn_at g3 y (.inr (9, [.ref (y + 1)])) := by rw [eg3]; exact hy_g2.off (by omega)
  have hy1_g3 : mn_at g3 (y + 1) (.inr (8, [.ref (y + 2), .int (nI sz)])) := by rw [eg3]; exact hy1_g2.off (by omega)
  have hy2_g3 : mn_at g3 (y + 2) (.inl (0, 80, .inl (fun j => nI ((va_up (va_up c 0 86) 1 83) j)))) := by rw [eg3]; exact hy2_g2.same
  have ha_g3 : mn_at g3 a (.inr (2, [.ref (a + 3), .ref (a + 1), .ref (a + 2), .int (nI m), .int (nI w)])) := by rw [eg3]; exact ha_g2.off (by omega)
  have hb_g3 : mn_at g3 (a + 3) (.inl (0, nb, .inl (fun j => nI (pb j)))) := by rw [eg3]; exact hb_g2.off (by omega)
  have hl_g3 : mn_at g3 (a + 1) (.inl (0, 60, .inl (fun j => nI (ln j)))) := by rw [eg3]; exact hl_g2.off (by omega)
  have hs_g3 : mn_at g3 (a + 2) (.inl (0, 60, .inl (fun j => nI (sn j)))) := by rw [eg3]; exact hs_g2.off (by omega)
  have hu_g3 : mn_at g3 u (.inr (4, [.int (nI sz), .int (nI rp), .int (nI st)])) := by rw [eg3]; exact hu_g2.off (by omega)
  refine mn_aload_n 0 dWr_make_31 rfl rfl ?_
  refine mn_get okWr 0 lWr_12 (by decide) hy_g3 rfl dWr_make_32 ?_
  refine mn_iconst (v := 2) dWr_make_35 (by decide) ?_
  refine mn_aload_n 3 dWr_make_36 rfl rfl ?_
  refine mn_get okRu 2 lWr_29 (by decide) hu_g3 rfl dWr_make_37 ?_
  refine mn_cV (d' := 0) (w' := 0) (As := [.int 2, .int (nI st)]) (stk' := []) okVo_put lWr_25 dWr_make_40 hy1_g3 rfl rfl rfl rfl (Nat.le_of_ble_eq_true rfl) (Nat.le_of_ble_eq_true rfl) (by decide) (c_V_putN hy1_g3 hy2_g3 (j := 2) (v := st) (by omega)) rfl ?_
  obtain ⟨g4, eg4⟩ : ∃ gg_, gg_ = mn_set g3 (y + 2) (.inl (0, 80, .inl (fun j => nI ((va_up (va_up (va_up c 0 86) 1 83) 2 st) j)))) := ⟨_, rfl⟩
  refine mn_R.toG eg4 ?_
  have hy_g4 : mn_at g4 y (.inr (9, [.ref (y + 1)])) := by rw [eg4]; exact hy_g3.off (by omega)
  have hy1_g4 : mn_at g4 (y + 1) (.inr (8, [.ref (y + 2), .int (nI sz)])) := by rw [eg4]; exact hy1_g3.off (by omega)
  have hy2_g4 : mn_at g4 (y + 2) (.inl (0, 80, .inl (fun j => nI ((va_up (va_up (va_up c 0 86) 1 83) 2 st) j)))) := by rw [eg4]; exact hy2_g3.same
  have ha_g4 : mn_at g4 a (.inr (2, [.ref (a + 3), .ref (a + 1), .ref (a + 2), .int (nI m), .int (nI w)])) := by rw [eg4]; exact ha_g3.off (by omega)
  have hb_g4 : mn_at g4 (a + 3) (.inl (0, nb, .inl (fun j => nI (pb j)))) := by rw [eg4]; exact hb_g3.off (by omega)
  have hl_g4 : mn_at g4 (a + 1) (.inl (0, 60, .inl (fun j => nI (ln j)))) := by rw [eg4]; exact hl_g3.off (by omega)
  have hs_g4 : mn_at g4 (a + 2) (.inl (0, 60, .inl (fun j => nI (sn j)))) := by rw [eg4]; exact hs_g3.off (by omega)
  have hu_g4 : mn_at g4 u (.inr (4, [.int (nI sz), .int (nI rp), .int (nI st)])) := by rw [eg4]; exact hu_g3.off (by omega)
  refine mn_aload_n 0 dWr_make_43 rfl rfl ?_
  refine mn_get okWr 0 lWr_12 (by decide) hy_g4 rfl dWr_make_44 ?_
  refine mn_iconst (v := 3) dWr_make_47 (by decide) ?_
  refine mn_iload_n 1 dWr_make_48 rfl rfl ?_
  refine mn_cV (d' := 0) (w' := 0) (As := [.int 3, .int (nI n)]) (stk' := []) okVo_put lWr_25 dWr_make_49 hy1_g4 rfl rfl rfl rfl (Nat.le_of_ble_eq_true rfl) (Nat.le_of_ble_eq_true rfl) (by decide) (c_V_putN hy1_g4 hy2_g4 (j := 3) (v := n) (by omega)) rfl ?_
  obtain ⟨g5, eg5⟩ : ∃ gg_, gg_ = mn_set g4 (y + 2) (.inl (0, 80, .inl (fun j => nI ((va_up (va_up (va_up (va_up c 0 86) 1 83) 2 st) 3 n) j)))) := ⟨_, rfl⟩
  refine mn_R.toG eg5 ?_
  have hy_g5 : mn_at g5 y (.inr (9, [.ref (y + 1)])) := by rw [eg5]; exact hy_g4.off (by omega)
  have hy1_g5 : mn_at g5 (y + 1) (.inr (8, [.ref (y + 2), .int (nI sz)])) := by rw [eg5]; exact hy1_g4.off (by omega)
  have hy2_g5 : mn_at g5 (y + 2) (.inl (0, 80, .inl (fun j => nI ((va_up (va_up (va_up (va_up c 0 86) 1 83) 2 st) 3 n) j)))) := by rw [eg5]; exact hy2_g4.same
  have ha_g5 : mn_at g5 a (.inr (2, [.ref (a + 3), .ref (a + 1), .ref (a + 2), .int (nI m), .int (nI w)])) := by rw [eg5]; exact ha_g4.off (by omega)
  have hb_g5 : mn_at g5 (a + 3) (.inl (0, nb, .inl (fun j => nI (pb j)))) := by rw [eg5]; exact hb_g4.off (by omega)
  have hl_g5 : mn_at g5 (a + 1) (.inl (0, 60, .inl (fun j => nI (ln j)))) := by rw [eg5]; exact hl_g4.off (by omega)
  have hs_g5 : mn_at g5 (a + 2) (.inl (0, 60, .inl (fun j => nI (sn j)))) := by rw [eg5]; exact hs_g4.off (by omega)
  have hu_g5 : mn_at g5 u (.inr (4, [.int (nI sz), .int (nI rp), .int (nI st)])) := by rw [eg5]; exact hu_g4.off (by omega)
  refine mn_aload_n 0 dWr_make_52 rfl rfl ?_
  refine mn_get okWr 0 lWr_12 (by decide) hy_g5 rfl dWr_make_53 ?_
  refine mn_iconst (v := 4) dWr_make_56 (by decide) ?_
  refine mn_aload_n 2 dWr_make_57 rfl rfl ?_
  refine mn_get okPc 3 lWr_32 (by decide) ha_g5 rfl dWr_make_58 ?_
  refine mn_cV (d' := 0) (w' := 0) (As := [.int 4, .int (nI m)]) (stk' := []) okVo_put lWr_25 dWr_make_61 hy1_g5 rfl rfl rfl rfl (Nat.le_of_ble_eq_true rfl) (Nat.le_of_ble_eq_true rfl) (by decide) (c_V_putN hy1_g5 hy2_g5 (j := 4) (v := m) (by omega)) rfl ?_
  obtain ⟨g6, eg6⟩ : ∃ gg_, gg_ = mn_set g5 (y + 2) (.inl (0, 80, .inl (fun j => nI ((va_up (va_up (va_up (va_up (va_up c 0 86) 1 83) 2 st) 3 n) 4 m) j)))) := ⟨_, rfl⟩
  refine mn_R.toG eg6 ?_
  have hy_g6 : mn_at g6 y (.inr (9, [.ref (y + 1)])) := by rw [eg6]; exact hy_g5.off (by omega)
  have hy1_g6 : mn_at g6 (y + 1) (.inr (8, [.ref (y + 2), .int (nI sz)])) := by rw [eg6]; exact hy1_g5.off (by omega)
  have hy2_g6 : mn_at g6 (y + 2) (.inl (0, 80, .inl (fun j => nI ((va_up (va_up (va_up (va_up (va_up c 0 86) 1 83) 2 st) 3 n) 4 m) j)))) := by rw [eg6]; exact hy2_g5.same
  have ha_g6 : mn_at g6 a (.inr (2, [.ref (a + 3), .ref (a + 1), .ref (a + 2), .int (nI m), .int (nI w)])) := by rw [eg6]; exact ha_g5.off (by omega)
  have hb_g6 : mn_at g6 (a + 3) (.inl (0, nb, .inl (fun j => nI (pb j)))) := by rw [eg6]; exact hb_g5.off (by omega)
  have hl_g6 : mn_at g6 (a + 1) (.inl (0, 60, .inl (fun j => nI (ln j)))) := by rw [eg6]; exact hl_g5.off (by omega)
  have hs_g6 : mn_at g6 (a + 2) (.inl (0, 60, .inl (fun j => nI (sn j)))) := by rw [eg6]; exact hs_g5.off (by omega)
  have hu_g6 : mn_at g6 u (.inr (4, [.int (nI sz), .int (nI rp), .int (nI st)])) := by rw [eg6]; exact hu_g5.off (by omega)
  refine mn_aload_n 0 dWr_make_64 rfl rfl ?_
  refine mn_get okWr 0 lWr_12 (by decide) hy_g6 rfl dWr_make_65 ?_
  refine mn_iconst (v := 5) dWr_make_68 (by decide) ?_
  refine mn_aload_n 3 dWr_make_69 rfl rfl ?_
  refine mn_get okRu 1 lWr_37 (by decide) hu_g6 rfl dWr_make_70 ?_
  refine mn_cV (d' := 0) (w' := 0) (As := [.int 5, .int (nI rp)]) (stk' := []) okVo_put lWr_25 dWr_make_73 hy1_g6 rfl rfl rfl rfl (Nat.le_of_ble_eq_true rfl) (Nat.le_of_ble_eq_true rfl) (by decide) (c_V_putN hy1_g6 hy2_g6 (j := 5) (v := rp) (by omega)) rfl ?_
  obtain ⟨g7, eg7⟩ : ∃ gg_, gg_ = mn_set g6 (y + 2) (.inl (0, 80, .inl (fun j => nI ((va_up (va_up (va_up (va_up (va_up (va_up c 0 86) 1 83) 2 st) 3 n) 4 m) 5 rp) j)))) := ⟨_, rfl⟩
  refine mn_R.toG eg7 ?_
  have hy_g7 : mn_at g7 y (.inr (9, [.ref (y + 1)])) := by rw [eg7]; exact hy_g6.off (by omega)
  have hy1_g7 : mn_at g7 (y + 1) (.inr (8, [.ref (y + 2), .int (nI sz)])) := by rw [eg7]; exact hy1_g6.off (by omega)
  have hy2_g7 : mn_at g7 (y + 2) (.inl (0, 80, .inl (fun j => nI ((va_up (va_up (va_up (va_up (va_up (va_up c 0 86) 1 83) 2 st) 3 n) 4 m) 5 rp) j)))) := by rw [eg7]; exact hy2_g6.same
  have ha_g7 : mn_at g7 a (.inr (2, [.ref (a + 3), .ref (a + 1), .ref (a + 2), .int (nI m), .int (nI w)])) := by rw [eg7]; exact ha_g6.off (by omega)
  have hb_g7 : mn_at g7 (a + 3) (.inl (0, nb, .inl (fun j => nI (pb j)))) := by rw [eg7]; exact hb_g6.off (by omega)
  have hl_g7 : mn_at g7 (a + 1) (.inl (0, 60, .inl (fun j => nI (ln j)))) := by rw [eg7]; exact hl_g6.off (by omega)
  have hs_g7 : mn_at g7 (a + 2) (.inl (0, 60, .inl (fun j => nI (sn j)))) := by rw [eg7]; exact hs_g6.off (by omega)
  have hu_g7 : mn_at g7 u (.inr (4, [.int (nI sz), .int (nI rp), .int (nI st)])) := by rw [eg7]; exact hu_g6.off (by omega)
  refine mn_bipush (v := 6) dWr_make_76 (by decide) ?_
  refine mn_istore (ls' := [(0, .ref y), (1, .int (nI n)), (2, .ref a), (3, .ref u), (4, .int 6)]) dWr_make_78 (by decide) rfl ?_
  have h6 : mn_at g7 (y + 2) (.inl (0, 80, .inl (fun j => nI (mkL (hd6 c st n m rp) (mkV pb ln sn w m n) 6 j)))) := by rw [mkL_6]; exact hy2_g7
  exact c_W_make_l hnb hya hyu hsz hsz2 hw hm1 hm hmw hrp hst hn hpb hln hsn hc (sz + 1) 6 g7 (by omega) (by omega) (by omega) (((((((mn_fr.rf.set eg1 (by show (y + 1) = y + 1 ∨ (y + 1) = y + 2; omega)).set eg2 (by show (y + 2) = y + 1 ∨ (y + 2) = y + 2; omega)).set eg3 (by show (y + 2) = y + 1 ∨ (y + 2) = y + 2; omega)).set eg4 (by show (y + 2) = y + 1 ∨ (y + 2) = y + 2; omega)).set eg5 (by show (y + 2) = y + 1 ∨ (y + 2) = y + 2; omega)).set eg6 (by show (y + 2) = y + 1 ∨ (y + 2) = y + 2; omega)).set eg7 (by show (y + 2) = y + 1 ∨ (y + 2) = y + 2; omega)) hy_g7 hy1_g7 h6 ha_g7 hb_g7 hl_g7 hs_g7 hu_g7
set_option maxRecDepth 100000 in
theorem c_Sl_putn_l {E : mn_En} {g : mn_H} {z : Nat} {pi ss : Nat → Nat} {sb : Nat → Nat → Nat} (hSl : SlP g z pi ss sb) {v t : Nat} {c : Nat → Nat} (hv0 : mn_at g v (.inr (8, [.ref (v + 1), .int (nI t)]))) (hv1 : mn_at g (v + 1) (.inl (0, 80, .inl (fun j => nI (c j))))) (ht : t ≤ 80) (hc : ∀ j, c j < 256) (hkm : ∀ i, i < 60 → ss i ≠ 0) : ∀ (f i : Nat), i ≤ 60 → 60 - i < f → mn_R E MSl_putIntoLeastEmpty 2 47 0 0 2 [(0, .ref z), (1, .ref v), (2, .int (nI i))] [] g (mn_is none g) := by
  have hSl0 := hSl
  obtain ⟨hz, hzr, hv, hpi, hpj, hss, hsb⟩ := hSl
  intro f
  induction f with
  | zero => intro i h1 h2; exact absurd h2 (by omega)
  | succ f ih =>
    intro i h1 h2
    refine mn_iload_n 2 dSl_putIntoLeastEmpty_2 rfl rfl ?_
    refine mn_bipush (v := 60) dSl_putIntoLeastEmpty_3 (by decide) ?_
    refine mn_icmp_ge 37 dSl_putIntoLeastEmpty_5 (by decide) (fun c1 => ?_) (fun c1 => ?_)
    · have c1 := (nI_leI (a := 60) (b := i) (by omega) (by omega)).mp c1
      exact mn_vret rfl dSl_putIntoLeastEmpty_37 ⟨rfl, rfl⟩
    · have c1 := mt (nI_leI (a := 60) (b := i) (by omega) (by omega)).mpr c1
      have ho := (hv i (by omega)).1
      have hr := (hv i (by omega)).2
      have hssi := hss i
      have hpii := hpi i (by omega)
      refine mn_aload_n 0 dSl_putIntoLeastEmpty_8 rfl rfl ?_
      refine mn_get okSl 0 lSl_11 (by decide) hz rfl dSl_putIntoLeastEmpty_9 ?_
      refine mn_iload_n 2 dSl_putIntoLeastEmpty_12 rfl rfl ?_
      refine mn_aaldN (j := i) hzr rfl rfl (by omega) (by omega) (show sl_q z pi i = some (z + 2 + 2 * pi i) from if_pos (by omega)) dSl_putIntoLeastEmpty_13 ?_
      refine mn_get okVo 1 lSl_22 (by decide) ho rfl dSl_putIntoLeastEmpty_14 ?_
      refine mn_if_ne 31 dSl_putIntoLeastEmpty_17 (by decide) (fun c2 => ?_) (fun c2 => ?_)
      · have c2 := mt (nI_eq (a := (ss i)) (b := 0) (by omega) (by omega)).mpr c2
        refine mn_iinc (v := nI (i + 1)) (ls' := [(0, .ref z), (1, .ref v), (2, .int (nI (i + 1)))]) 2 dSl_putIntoLeastEmpty_31 rfl (nI_add i 1) (by decide) rfl ?_
        refine mn_goto 2 dSl_putIntoLeastEmpty_34 (by decide) ?_
        exact ih (i + 1) (by omega) (by omega)
      · have c2 := (nI_eq (a := (ss i)) (b := 0) (by omega) (by omega)).mp c2
        exact absurd c2 (hkm i (by omega))
theorem c_Sl_putA {E : mn_En} {g : mn_H} {z : Nat} {pi ss : Nat → Nat} {sb : Nat → Nat → Nat} (hSl : SlP g z pi ss sb) {v t : Nat} {c : Nat → Nat} (hv0 : mn_at g v (.inr (8, [.ref (v + 1), .int (nI t)]))) (hv1 : mn_at g (v + 1) (.inl (0, 80, .inl (fun j => nI (c j))))) (ht : t ≤ 80) (hc : ∀ j, c j < 256) (hvz : v + 1 < z ∨ z + 121 < v) {sb0 : Nat → Nat → Nat} (hag : Agr ss sb sb0) {b : Nat → Nat} (hcb : ∀ j, j < t → c j = b j) : mn_R E MSl_putIntoLeastEmpty 2 47 0 0 0 [(0, .ref z), (1, .ref v)] [] g (fun x g' => x = none ∧ mn_fr (fun q => z + 2 ≤ q ∧ q < z + 122) g g' ∧ ∃ sb', SlP g' z pi (putA ss sb0 t b).1 sb' ∧ Agr (putA ss sb0 t b).1 sb' (putA ss sb0 t b).2) := by
  have hpi := hSl.2.2.2.1
  cases hk : fst' (fun k => ss k = 0) 60 60 with
  | none =>
    rw [putA_none hk]
    have hno := fst_none (Nat.le_refl 60) hk
    refine mn_R.post (Q' := mn_is none g) ?_ (fun x g' hq => ⟨hq.1, by rw [hq.2]; exact mn_fr.rf, sb, by rw [hq.2]; exact hSl, hag⟩)
    refine mn_iconst (v := 0) dSl_putIntoLeastEmpty_0 (by decide) ?_
    refine mn_istore_n (ls' := [(0, .ref z), (1, .ref v), (2, .int 0)]) dSl_putIntoLeastEmpty_1 rfl (by decide) rfl ?_
    exact c_Sl_putn_l hSl hv0 hv1 ht hc (fun i hi => hno i (by omega) hi) 61 0 (by omega) (by omega)
  | some k =>
    rw [putA_some hk]
    obtain ⟨-, h1, h2, h3⟩ := fst_some (Nat.le_refl 60) hk
    have h4 := hpi k h1
    refine mn_R.post (c_Sl_put hSl hv0 hv1 ht hc hvz h1 h2 (fun i hi => h3 i (by omega) hi)) (fun x g' hq => ⟨hq.1, hq.2.1.mo (fun q h => by have h9 : q = z + 2 + 2 * pi k ∨ q = z + 2 + 2 * pi k + 1 := h; show z + 2 ≤ q ∧ q < z + 122; omega), _, hq.2.2, Agr_put hag ht hcb⟩)
set_option maxRecDepth 100000 in
theorem c_W_missing_l {E : mn_En} {g : mn_H} {y a u z nb m w sz rp st : Nat} {pb ln sn : Nat → Nat} {pi : Nat → Nat} {ss : Nat → Nat} {sb sb0 : Nat → Nat → Nat} (hnb : nb < 5000) (hya : y + 2 < a ∨ a + 3 < y) (hyu : y + 2 < u ∨ u < y) (hyz : y + 2 < z ∨ z + 121 < y) (hza : z + 121 < a ∨ a + 3 < z) (hzu : z + 121 < u ∨ u < z) (hsz : 20 ≤ sz) (hsz2 : sz ≤ 80) (hw : w = sz - 12) (hm1 : 1 ≤ m) (hm : m ≤ 60) (hmw : m * w ≤ nb) (hrp : rp ≤ 3) (hst : st < 256) (hpb : ∀ j, pb j < 256) (hln : ∀ j, ln j < 256) (hsn : ∀ j, sn j < 256) (hag : Agr ss sb sb0) : ∀ (f n : Nat) (g0 : mn_H) (s1 : Nat) (bz : Nat → Nat), n ≤ m + rp → m + rp - n < f → mn_fr (fun q => q = y + 1 ∨ q = y + 2) g g0 → (∀ j, bz j < 256) → mn_at g0 y (.inr (9, [.ref (y + 1)])) → mn_at g0 (y + 1) (.inr (8, [.ref (y + 2), .int (nI s1)])) → mn_at g0 (y + 2) (.inl (0, 80, .inl (fun j => nI (bz j)))) → mn_at g0 a (.inr (2, [.ref (a + 3), .ref (a + 1), .ref (a + 2), .int (nI m), .int (nI w)])) → mn_at g0 (a + 3) (.inl (0, nb, .inl (fun j => nI (pb j)))) → mn_at g0 (a + 1) (.inl (0, 60, .inl (fun j => nI (ln j)))) → mn_at g0 (a + 2) (.inl (0, 60, .inl (fun j => nI (sn j)))) → mn_at g0 u (.inr (4, [.int (nI sz), .int (nI rp), .int (nI st)])) → SlP g0 z pi ss sb → mn_R E MWr_missingIn 4 94 0 0 6 [(0, .ref y), (1, .ref z), (2, .ref a), (3, .ref u), (4, .int (nI (cnt (fun n => ¬ hld ss sb0 sz ((fun n => vlN (fun _ => 0) pb ln sn w m n st rp sz) n)) n))), (5, .int (nI n))] [] g0 (fun x g' => x = some (.int (nI (cnt (fun n => ¬ hld ss sb0 sz ((fun n => vlN (fun _ => 0) pb ln sn w m n st rp sz) n)) (m + rp)))) ∧ mn_fr (fun q => q = y + 1 ∨ q = y + 2) g g' ∧ ∃ (s2 : Nat) (bw : Nat → Nat), mn_at g' (y + 1) (.inr (8, [.ref (y + 2), .int (nI s2)])) ∧ mn_at g' (y + 2) (.inl (0, 80, .inl (fun j => nI (bw j)))) ∧ ∀ j, bw j < 256) := by
  intro f
  induction f with
  | zero => intro n g0 s1 bz h1 h2; exact absurd h2 (by omega)
  | succ f ih =>
    intro n g0 s1 bz h1 h2 hf hbz hy hy1 hy2 ha hb hl hs hu hSl
    have hz := hSl.1
    have hcn := cnt_le (fun n => ¬ hld ss sb0 sz ((fun n => vlN (fun _ => 0) pb ln sn w m n st rp sz) n)) n
    refine mn_iload 5 dWr_missingIn_6 rfl ?_
    refine mn_aload_n 2 dWr_missingIn_8 rfl rfl ?_
    refine mn_get okPc 3 lWr_32 (by decide) ha rfl dWr_missingIn_9 ?_
    refine mn_aload_n 3 dWr_missingIn_12 rfl rfl ?_
    refine mn_get okRu 1 lWr_37 (by decide) hu rfl dWr_missingIn_13 ?_
    refine mn_iadd (z := nI (m + rp)) dWr_missingIn_16 (nI_add m rp) ?_
    refine mn_icmp_ge 48 dWr_missingIn_17 (by decide) (fun c1 => ?_) (fun c1 => ?_)
    · have c1 := (nI_leI (a := (m + rp)) (b := n) (by omega) (by omega)).mp c1
      refine mn_iload 4 dWr_missingIn_48 rfl ?_
      exact mn_iret rfl dWr_missingIn_50 (by obtain rfl : n = m + rp := (by omega); exact ⟨rfl, hf, s1, bz, hy1, hy2, hbz⟩)
    · have c1 := mt (nI_leI (a := (m + rp)) (b := n) (by omega) (by omega)).mpr c1
      have hvl : ∀ j, vlN bz pb ln sn w m n st rp sz j < 256 := vlN_lt hbz hpb hln hsn hst (by omega) (by omega) (by omega)
      have hex : hld ss sb sz (vlN bz pb ln sn w m n st rp sz) ↔ hld ss sb0 sz ((fun n => vlN (fun _ => 0) pb ln sn w m n st rp sz) n) := hld_ext hag (vlN_ext bz (fun _ => 0) pb ln sn (by omega))
      refine mn_aload_n 0 dWr_missingIn_20 rfl rfl ?_
      refine mn_iload 5 dWr_missingIn_21 rfl ?_
      refine mn_aload_n 2 dWr_missingIn_23 rfl rfl ?_
      refine mn_aload_n 3 dWr_missingIn_24 rfl rfl ?_
      refine mn_callV (d' := 3) (w' := 70) (nc' := 0) (ns' := 0) (As := [.int (nI n), .ref a, .ref u]) (st := []) okWr_make lWr_50 dWr_missingIn_25 hy rfl rfl rfl rfl (Nat.le_of_ble_eq_true rfl) (Nat.le_of_ble_eq_true rfl) (by decide) (c_W_make hy hy1 hy2 ha hb hl hs hu hnb hya hyu hsz hsz2 hw hm1 hm hmw hrp hst (n := n) (by omega) hpb hln hsn hbz) (fun v g2 hq => ?_)
      obtain ⟨rfl, fg2, hy1_g2, hy2_g2⟩ := hq
      have hy1_g2 : mn_at g2 (y + 1) (.inr (8, [.ref (y + 2), .int (nI sz)])) := hy1_g2
      have hy2_g2 : mn_at g2 (y + 2) (.inl (0, 80, .inl (fun j => nI ((vlN bz pb ln sn w m n st rp sz) j)))) := hy2_g2
      show mn_R E MWr_missingIn 4 94 _ _ 28 [(0, .ref y), (1, .ref z), (2, .ref a), (3, .ref u), (4, .int (nI (cnt (fun n => ¬ hld ss sb0 sz ((fun n => vlN (fun _ => 0) pb ln sn w m n st rp sz) n)) n))), (5, .int (nI n))] [] g2 _
      have hy_g2 := hy.fr fg2 (fun h => by have h9 : y = y + 1 ∨ y = y + 2 := h; omega)
      have ha_g2 := ha.fr fg2 (fun h => by have h9 : a = y + 1 ∨ a = y + 2 := h; omega)
      have hb_g2 := hb.fr fg2 (fun h => by have h9 : (a + 3) = y + 1 ∨ (a + 3) = y + 2 := h; omega)
      have hl_g2 := hl.fr fg2 (fun h => by have h9 : (a + 1) = y + 1 ∨ (a + 1) = y + 2 := h; omega)
      have hs_g2 := hs.fr fg2 (fun h => by have h9 : (a + 2) = y + 1 ∨ (a + 2) = y + 2 := h; omega)
      have hu_g2 := hu.fr fg2 (fun h => by have h9 : u = y + 1 ∨ u = y + 2 := h; omega)
      have hz_g2 := hz.fr fg2 (fun h => by have h9 : z = y + 1 ∨ z = y + 2 := h; omega)
      have hSl_g2 : SlP g2 z pi ss sb := hSl.fr fg2 (fun q q1 q2 h => by have h9 : q = y + 1 ∨ q = y + 2 := h; omega)
      refine mn_aload_n 1 dWr_missingIn_28 rfl rfl ?_
      refine mn_aload_n 0 dWr_missingIn_29 rfl rfl ?_
      refine mn_get okWr 0 lWr_12 (by decide) hy_g2 rfl dWr_missingIn_30 ?_
      refine mn_cV (d' := 2) (w' := 43) (As := [.ref (y + 1)]) (stk' := [.int (@ite _ (hld ss sb sz (vlN bz pb ln sn w m n st rp sz)) (Classical.propDecidable _) 1 0)]) okSl_hold lWr_54 dWr_missingIn_33 hz_g2 rfl rfl rfl rfl (Nat.le_of_ble_eq_true rfl) (Nat.le_of_ble_eq_true rfl) (by decide) (c_Sl_hold hSl_g2 hy1_g2 hy2_g2 (by omega) hvl) rfl ?_
      refine mn_if_ne 42 dWr_missingIn_36 (by decide) (fun c3 => ?_) (fun c3 => ?_)
      · refine mn_iinc (v := nI (n + 1)) (ls' := [(0, .ref y), (1, .ref z), (2, .ref a), (3, .ref u), (4, .int (nI (cnt (fun n => ¬ hld ss sb0 sz ((fun n => vlN (fun _ => 0) pb ln sn w m n st rp sz) n)) n))), (5, .int (nI (n + 1)))]) 5 dWr_missingIn_42 rfl (nI_add n 1) (by decide) rfl ?_
        refine mn_goto 6 dWr_missingIn_45 (by decide) ?_
        rw [← cnt_n (P := (fun n => ¬ hld ss sb0 sz ((fun n => vlN (fun _ => 0) pb ln sn w m n st rp sz) n))) (k := n) (fun q => q (hex.mp (Classical.byContradiction fun q2 => c3 (ite10.mpr q2))))]
        exact ih (n + 1) g2 sz (vlN bz pb ln sn w m n st rp sz) (by omega) (by omega) (hf.tr (fg2.mo (fun q h => by have h9 : q = y + 1 ∨ q = y + 2 := h; show q = y + 1 ∨ q = y + 2; omega))) hvl hy_g2 hy1_g2 hy2_g2 ha_g2 hb_g2 hl_g2 hs_g2 hu_g2 hSl_g2
      · refine mn_iinc (v := nI (cnt (fun n => ¬ hld ss sb0 sz ((fun n => vlN (fun _ => 0) pb ln sn w m n st rp sz) n)) n + 1)) (ls' := [(0, .ref y), (1, .ref z), (2, .ref a), (3, .ref u), (4, .int (nI (cnt (fun n => ¬ hld ss sb0 sz ((fun n => vlN (fun _ => 0) pb ln sn w m n st rp sz) n)) n + 1))), (5, .int (nI n))]) 4 dWr_missingIn_39 rfl (nI_add (cnt (fun n => ¬ hld ss sb0 sz ((fun n => vlN (fun _ => 0) pb ln sn w m n st rp sz) n)) n) 1) (by decide) rfl ?_
        refine mn_iinc (v := nI (n + 1)) (ls' := [(0, .ref y), (1, .ref z), (2, .ref a), (3, .ref u), (4, .int (nI (cnt (fun n => ¬ hld ss sb0 sz ((fun n => vlN (fun _ => 0) pb ln sn w m n st rp sz) n)) n + 1))), (5, .int (nI (n + 1)))]) 5 dWr_missingIn_42 rfl (nI_add n 1) (by decide) rfl ?_
        refine mn_goto 6 dWr_missingIn_45 (by decide) ?_
        rw [← cnt_y (P := (fun n => ¬ hld ss sb0 sz ((fun n => vlN (fun _ => 0) pb ln sn w m n st rp sz) n))) (k := n) (fun q => ite10.mp c3 (hex.mpr q))]
        exact ih (n + 1) g2 sz (vlN bz pb ln sn w m n st rp sz) (by omega) (by omega) (hf.tr (fg2.mo (fun q h => by have h9 : q = y + 1 ∨ q = y + 2 := h; show q = y + 1 ∨ q = y + 2; omega))) hvl hy_g2 hy1_g2 hy2_g2 ha_g2 hb_g2 hl_g2 hs_g2 hu_g2 hSl_g2
set_option maxRecDepth 100000 in
theorem c_W_missing {E : mn_En} {g : mn_H} {y a u z nb m w sz rp st : Nat} {pb ln sn : Nat → Nat} {pi : Nat → Nat} {s1 : Nat} {bz : Nat → Nat} {ss : Nat → Nat} {sb sb0 : Nat → Nat → Nat} (hy : mn_at g y (.inr (9, [.ref (y + 1)]))) (hy1 : mn_at g (y + 1) (.inr (8, [.ref (y + 2), .int (nI s1)]))) (hy2 : mn_at g (y + 2) (.inl (0, 80, .inl (fun j => nI (bz j))))) (ha : mn_at g a (.inr (2, [.ref (a + 3), .ref (a + 1), .ref (a + 2), .int (nI m), .int (nI w)]))) (hb : mn_at g (a + 3) (.inl (0, nb, .inl (fun j => nI (pb j))))) (hl : mn_at g (a + 1) (.inl (0, 60, .inl (fun j => nI (ln j))))) (hs : mn_at g (a + 2) (.inl (0, 60, .inl (fun j => nI (sn j))))) (hu : mn_at g u (.inr (4, [.int (nI sz), .int (nI rp), .int (nI st)]))) (hSl : SlP g z pi ss sb) (hbz : ∀ j, bz j < 256) (hnb : nb < 5000) (hya : y + 2 < a ∨ a + 3 < y) (hyu : y + 2 < u ∨ u < y) (hyz : y + 2 < z ∨ z + 121 < y) (hza : z + 121 < a ∨ a + 3 < z) (hzu : z + 121 < u ∨ u < z) (hsz : 20 ≤ sz) (hsz2 : sz ≤ 80) (hw : w = sz - 12) (hm1 : 1 ≤ m) (hm : m ≤ 60) (hmw : m * w ≤ nb) (hrp : rp ≤ 3) (hst : st < 256) (hpb : ∀ j, pb j < 256) (hln : ∀ j, ln j < 256) (hsn : ∀ j, sn j < 256) (hag : Agr ss sb sb0) : mn_R E MWr_missingIn 4 94 0 0 0 [(0, .ref y), (1, .ref z), (2, .ref a), (3, .ref u)] [] g (fun x g' => x = some (.int (nI (cnt (fun n => ¬ hld ss sb0 sz ((fun n => vlN (fun _ => 0) pb ln sn w m n st rp sz) n)) (m + rp)))) ∧ mn_fr (fun q => q = y + 1 ∨ q = y + 2) g g' ∧ ∃ (s2 : Nat) (bw : Nat → Nat), mn_at g' (y + 1) (.inr (8, [.ref (y + 2), .int (nI s2)])) ∧ mn_at g' (y + 2) (.inl (0, 80, .inl (fun j => nI (bw j)))) ∧ ∀ j, bw j < 256) := by
  refine mn_iconst (v := 0) dWr_missingIn_0 (by decide) ?_
  refine mn_istore (ls' := [(0, .ref y), (1, .ref z), (2, .ref a), (3, .ref u), (4, .int 0)]) dWr_missingIn_1 (by decide) rfl ?_
  refine mn_iconst (v := 0) dWr_missingIn_3 (by decide) ?_
  refine mn_istore (ls' := [(0, .ref y), (1, .ref z), (2, .ref a), (3, .ref u), (4, .int 0), (5, .int 0)]) dWr_missingIn_4 (by decide) rfl ?_
  exact c_W_missing_l hnb hya hyu hyz hza hzu hsz hsz2 hw hm1 hm hmw hrp hst hpb hln hsn hag (m + rp + 1) 0 g s1 bz (by omega) (by omega) mn_fr.rf hbz hy hy1 hy2 ha hb hl hs hu hSl
set_option maxRecDepth 100000 in
theorem c_W_fill_l {E : mn_En} {g : mn_H} {y a u z nb m w sz rp st : Nat} {pb ln sn : Nat → Nat} {pi : Nat → Nat} {pw : Nat} (hpw : pw < 1000) (hnb : nb < 5000) (hya : y + 2 < a ∨ a + 3 < y) (hyu : y + 2 < u ∨ u < y) (hyz : y + 2 < z ∨ z + 121 < y) (hza : z + 121 < a ∨ a + 3 < z) (hzu : z + 121 < u ∨ u < z) (hsz : 20 ≤ sz) (hsz2 : sz ≤ 80) (hw : w = sz - 12) (hm1 : 1 ≤ m) (hm : m ≤ 60) (hmw : m * w ≤ nb) (hrp : rp ≤ 3) (hst : st < 256) (hpb : ∀ j, pb j < 256) (hln : ∀ j, ln j < 256) (hsn : ∀ j, sn j < 256) : ∀ (f n : Nat) (g0 : mn_H) (s1 : Nat) (bz : Nat → Nat) (ss : Nat → Nat) (sb sb0 : Nat → Nat → Nat) (p : Nat), n ≤ m + rp → m + rp - n < f → p ≤ n → mn_fr (fun q => q = y + 1 ∨ q = y + 2 ∨ (z + 2 ≤ q ∧ q < z + 122)) g g0 → (∀ j, bz j < 256) → Agr ss sb sb0 → mn_at g0 y (.inr (9, [.ref (y + 1)])) → mn_at g0 (y + 1) (.inr (8, [.ref (y + 2), .int (nI s1)])) → mn_at g0 (y + 2) (.inl (0, 80, .inl (fun j => nI (bz j)))) → mn_at g0 a (.inr (2, [.ref (a + 3), .ref (a + 1), .ref (a + 2), .int (nI m), .int (nI w)])) → mn_at g0 (a + 3) (.inl (0, nb, .inl (fun j => nI (pb j)))) → mn_at g0 (a + 1) (.inl (0, 60, .inl (fun j => nI (ln j)))) → mn_at g0 (a + 2) (.inl (0, 60, .inl (fun j => nI (sn j)))) → mn_at g0 u (.inr (4, [.int (nI sz), .int (nI rp), .int (nI st)])) → SlP g0 z pi ss sb → mn_R E MWr_fill 4 94 0 0 6 [(0, .ref y), (1, .ref z), (2, .ref a), (3, .ref u), (4, .int (nI pw)), (5, .int (nI p)), (6, .int (nI n))] [] g0 (fun x g' => x = some (.int (nI (wrK (fun n => vlN (fun _ => 0) pb ln sn w m n st rp sz) sz (m + rp) pw (m + rp - n) (ss, sb0, p)).2.2)) ∧ mn_fr (fun q => q = y + 1 ∨ q = y + 2 ∨ (z + 2 ≤ q ∧ q < z + 122)) g g' ∧ (∃ sb', SlP g' z pi (wrK (fun n => vlN (fun _ => 0) pb ln sn w m n st rp sz) sz (m + rp) pw (m + rp - n) (ss, sb0, p)).1 sb' ∧ Agr (wrK (fun n => vlN (fun _ => 0) pb ln sn w m n st rp sz) sz (m + rp) pw (m + rp - n) (ss, sb0, p)).1 sb' (wrK (fun n => vlN (fun _ => 0) pb ln sn w m n st rp sz) sz (m + rp) pw (m + rp - n) (ss, sb0, p)).2.1) ∧ ∃ (s2 : Nat) (bw : Nat → Nat), mn_at g' (y + 1) (.inr (8, [.ref (y + 2), .int (nI s2)])) ∧ mn_at g' (y + 2) (.inl (0, 80, .inl (fun j => nI (bw j)))) ∧ ∀ j, bw j < 256) := by
  intro f
  induction f with
  | zero => intro n g0 s1 bz ss sb sb0 p h1 h2; exact absurd h2 (by omega)
  | succ f ih =>
    intro n g0 s1 bz ss sb sb0 p h1 h2 h3 hf hbz hag hy hy1 hy2 ha hb hl hs hu hSl
    have hz := hSl.1
    refine mn_iload 6 dWr_fill_6 rfl ?_
    refine mn_aload_n 2 dWr_fill_8 rfl rfl ?_
    refine mn_get okPc 3 lWr_32 (by decide) ha rfl dWr_fill_9 ?_
    refine mn_aload_n 3 dWr_fill_12 rfl rfl ?_
    refine mn_get okRu 1 lWr_37 (by decide) hu rfl dWr_fill_13 ?_
    refine mn_iadd (z := nI (m + rp)) dWr_fill_16 (nI_add m rp) ?_
    refine mn_icmp_ge 84 dWr_fill_17 (by decide) (fun c1 => ?_) (fun c1 => ?_)
    · have c1 := (nI_leI (a := (m + rp)) (b := n) (by omega) (by omega)).mp c1
      refine mn_iload 5 dWr_fill_84 rfl ?_
      exact mn_iret rfl dWr_fill_86 (by rw [show m + rp - n = 0 by omega]; exact ⟨rfl, hf, ⟨sb, hSl, hag⟩, s1, bz, hy1, hy2, hbz⟩)
    · have c1 := mt (nI_leI (a := (m + rp)) (b := n) (by omega) (by omega)).mpr c1
      have hvl : ∀ j, vlN bz pb ln sn w m n st rp sz j < 256 := vlN_lt hbz hpb hln hsn hst (by omega) (by omega) (by omega)
      have hex : hld ss sb sz (vlN bz pb ln sn w m n st rp sz) ↔ hld ss sb0 sz ((fun n => vlN (fun _ => 0) pb ln sn w m n st rp sz) n) := hld_ext hag (vlN_ext bz (fun _ => 0) pb ln sn (by omega))
      refine mn_aload_n 0 dWr_fill_20 rfl rfl ?_
      refine mn_iload 6 dWr_fill_21 rfl ?_
      refine mn_aload_n 2 dWr_fill_23 rfl rfl ?_
      refine mn_aload_n 3 dWr_fill_24 rfl rfl ?_
      refine mn_callV (d' := 3) (w' := 70) (nc' := 0) (ns' := 0) (As := [.int (nI n), .ref a, .ref u]) (st := []) okWr_make lWr_50 dWr_fill_25 hy rfl rfl rfl rfl (Nat.le_of_ble_eq_true rfl) (Nat.le_of_ble_eq_true rfl) (by decide) (c_W_make hy hy1 hy2 ha hb hl hs hu hnb hya hyu hsz hsz2 hw hm1 hm hmw hrp hst (n := n) (by omega) hpb hln hsn hbz) (fun v g2 hq => ?_)
      obtain ⟨rfl, fg2, hy1_g2, hy2_g2⟩ := hq
      have hy1_g2 : mn_at g2 (y + 1) (.inr (8, [.ref (y + 2), .int (nI sz)])) := hy1_g2
      have hy2_g2 : mn_at g2 (y + 2) (.inl (0, 80, .inl (fun j => nI ((vlN bz pb ln sn w m n st rp sz) j)))) := hy2_g2
      show mn_R E MWr_fill 4 94 _ _ 28 [(0, .ref y), (1, .ref z), (2, .ref a), (3, .ref u), (4, .int (nI pw)), (5, .int (nI p)), (6, .int (nI n))] [] g2 _
      have hy_g2 := hy.fr fg2 (fun h => by have h9 : y = y + 1 ∨ y = y + 2 := h; omega)
      have ha_g2 := ha.fr fg2 (fun h => by have h9 : a = y + 1 ∨ a = y + 2 := h; omega)
      have hb_g2 := hb.fr fg2 (fun h => by have h9 : (a + 3) = y + 1 ∨ (a + 3) = y + 2 := h; omega)
      have hl_g2 := hl.fr fg2 (fun h => by have h9 : (a + 1) = y + 1 ∨ (a + 1) = y + 2 := h; omega)
      have hs_g2 := hs.fr fg2 (fun h => by have h9 : (a + 2) = y + 1 ∨ (a + 2) = y + 2 := h; omega)
      have hu_g2 := hu.fr fg2 (fun h => by have h9 : u = y + 1 ∨ u = y + 2 := h; omega)
      have hz_g2 := hz.fr fg2 (fun h => by have h9 : z = y + 1 ∨ z = y + 2 := h; omega)
      have hSl_g2 : SlP g2 z pi ss sb := hSl.fr fg2 (fun q q1 q2 h => by have h9 : q = y + 1 ∨ q = y + 2 := h; omega)
      refine mn_aload_n 1 dWr_fill_28 rfl rfl ?_
      refine mn_aload_n 0 dWr_fill_29 rfl rfl ?_
      refine mn_get okWr 0 lWr_12 (by decide) hy_g2 rfl dWr_fill_30 ?_
      refine mn_cV (d' := 2) (w' := 43) (As := [.ref (y + 1)]) (stk' := [.int (@ite _ (hld ss sb sz (vlN bz pb ln sn w m n st rp sz)) (Classical.propDecidable _) 1 0)]) okSl_hold lWr_54 dWr_fill_33 hz_g2 rfl rfl rfl rfl (Nat.le_of_ble_eq_true rfl) (Nat.le_of_ble_eq_true rfl) (by decide) (c_Sl_hold hSl_g2 hy1_g2 hy2_g2 (by omega) hvl) rfl ?_
      refine mn_if_eq 42 dWr_fill_36 (by decide) (fun c3 => ?_) (fun c3 => ?_)
      · refine mn_iload 5 dWr_fill_42 rfl ?_
        refine mn_iload 4 dWr_fill_44 rfl ?_
        refine mn_icmp_ne 67 dWr_fill_46 (by decide) (fun c4 => ?_) (fun c4 => ?_)
        · have c4 := mt (nI_eq (a := p) (b := pw) (by omega) (by omega)).mpr c4
          refine mn_aload_n 1 dWr_fill_67 rfl rfl ?_
          refine mn_aload_n 0 dWr_fill_68 rfl rfl ?_
          refine mn_get okWr 0 lWr_12 (by decide) hy_g2 rfl dWr_fill_69 ?_
          refine mn_callV (d' := 2) (w' := 47) (nc' := 0) (ns' := 0) (As := [.ref (y + 1)]) (st := []) okSl_putIntoLeastEmpty lWr_63 dWr_fill_72 hz_g2 rfl rfl rfl rfl (Nat.le_of_ble_eq_true rfl) (Nat.le_of_ble_eq_true rfl) (by decide) (c_Sl_putA hSl_g2 hy1_g2 hy2_g2 (by omega) hvl (by omega) hag (b := (fun n => vlN (fun _ => 0) pb ln sn w m n st rp sz) n) (vlN_ext bz (fun _ => 0) pb ln sn (by omega))) (fun v g5 hq => ?_)
          obtain ⟨rfl, fg5, sb', hSl', hag'⟩ := hq
          show mn_R E MWr_fill 4 94 _ _ 75 [(0, .ref y), (1, .ref z), (2, .ref a), (3, .ref u), (4, .int (nI pw)), (5, .int (nI p)), (6, .int (nI n))] [] g5 _
          have hy_g5 := hy_g2.fr fg5 (fun h => by have h9 : z + 2 ≤ y ∧ y < z + 122 := h; omega)
          have hy1_g5 := hy1_g2.fr fg5 (fun h => by have h9 : z + 2 ≤ (y + 1) ∧ (y + 1) < z + 122 := h; omega)
          have hy2_g5 := hy2_g2.fr fg5 (fun h => by have h9 : z + 2 ≤ (y + 2) ∧ (y + 2) < z + 122 := h; omega)
          have ha_g5 := ha_g2.fr fg5 (fun h => by have h9 : z + 2 ≤ a ∧ a < z + 122 := h; omega)
          have hb_g5 := hb_g2.fr fg5 (fun h => by have h9 : z + 2 ≤ (a + 3) ∧ (a + 3) < z + 122 := h; omega)
          have hl_g5 := hl_g2.fr fg5 (fun h => by have h9 : z + 2 ≤ (a + 1) ∧ (a + 1) < z + 122 := h; omega)
          have hs_g5 := hs_g2.fr fg5 (fun h => by have h9 : z + 2 ≤ (a + 2) ∧ (a + 2) < z + 122 := h; omega)
          have hu_g5 := hu_g2.fr fg5 (fun h => by have h9 : z + 2 ≤ u ∧ u < z + 122 := h; omega)
          have hz_g5 := hz_g2.fr fg5 (fun h => by have h9 : z + 2 ≤ z ∧ z < z + 122 := h; omega)
          refine mn_iinc (v := nI (p + 1)) (ls' := [(0, .ref y), (1, .ref z), (2, .ref a), (3, .ref u), (4, .int (nI pw)), (5, .int (nI (p + 1))), (6, .int (nI n))]) 5 dWr_fill_75 rfl (nI_add p 1) (by decide) rfl ?_
          refine mn_iinc (v := nI (n + 1)) (ls' := [(0, .ref y), (1, .ref z), (2, .ref a), (3, .ref u), (4, .int (nI pw)), (5, .int (nI (p + 1))), (6, .int (nI (n + 1)))]) 6 dWr_fill_78 rfl (nI_add n 1) (by decide) rfl ?_
          refine mn_goto 6 dWr_fill_81 (by decide) ?_
          rw [wrK_w (V := (fun n => vlN (fun _ => 0) pb ln sn w m n st rp sz)) (x := (ss, sb0, p)) (by omega) (fun q => ite10.mp c3 (hex.mpr q)) c4]
          exact ih (n + 1) g5 sz (vlN bz pb ln sn w m n st rp sz) (putA ss sb0 sz ((fun n => vlN (fun _ => 0) pb ln sn w m n st rp sz) n)).1 sb' (putA ss sb0 sz ((fun n => vlN (fun _ => 0) pb ln sn w m n st rp sz) n)).2 (p + 1) (by omega) (by omega) (by omega) ((hf.tr (fg2.mo (fun q h => by have h9 : q = y + 1 ∨ q = y + 2 := h; show q = y + 1 ∨ q = y + 2 ∨ (z + 2 ≤ q ∧ q < z + 122); omega))).tr (fg5.mo (fun q h => by have h9 : z + 2 ≤ q ∧ q < z + 122 := h; show q = y + 1 ∨ q = y + 2 ∨ (z + 2 ≤ q ∧ q < z + 122); omega))) hvl hag' hy_g5 hy1_g5 hy2_g5 ha_g5 hb_g5 hl_g5 hs_g5 hu_g5 hSl'
        · have c4 := (nI_eq (a := p) (b := pw) (by omega) (by omega)).mp c4
          refine mn_aload_n 0 dWr_fill_49 rfl rfl ?_
          refine mn_get okWr 0 lWr_12 (by decide) hy_g2 rfl dWr_fill_50 ?_
          refine mn_cV (d' := 1) (w' := 22) (As := []) (stk' := []) okVo_cutOff lWr_60 dWr_fill_53 hy1_g2 rfl rfl rfl rfl (Nat.le_of_ble_eq_true rfl) (Nat.le_of_ble_eq_true rfl) (by decide) (by have h0 := c_V_cutOff (E := E) hy1_g2 hy2_g2 (by omega); rw [zr_nI] at h0; exact h0) rfl ?_
          obtain ⟨g6, eg6⟩ : ∃ gg_, gg_ = mn_set g2 (y + 2) (.inl (0, 80, .inl (fun j => nI ((zrN (vlN bz pb ln sn w m n st rp sz) (sz / 2) sz) j)))) := ⟨_, rfl⟩
          refine mn_R.toG eg6 ?_
          have hy_g6 : mn_at g6 y (.inr (9, [.ref (y + 1)])) := by rw [eg6]; exact hy_g2.off (by omega)
          have hy1_g6 : mn_at g6 (y + 1) (.inr (8, [.ref (y + 2), .int (nI sz)])) := by rw [eg6]; exact hy1_g2.off (by omega)
          have hy2_g6 : mn_at g6 (y + 2) (.inl (0, 80, .inl (fun j => nI ((zrN (vlN bz pb ln sn w m n st rp sz) (sz / 2) sz) j)))) := by rw [eg6]; exact hy2_g2.same
          have ha_g6 : mn_at g6 a (.inr (2, [.ref (a + 3), .ref (a + 1), .ref (a + 2), .int (nI m), .int (nI w)])) := by rw [eg6]; exact ha_g2.off (by omega)
          have hb_g6 : mn_at g6 (a + 3) (.inl (0, nb, .inl (fun j => nI (pb j)))) := by rw [eg6]; exact hb_g2.off (by omega)
          have hl_g6 : mn_at g6 (a + 1) (.inl (0, 60, .inl (fun j => nI (ln j)))) := by rw [eg6]; exact hl_g2.off (by omega)
          have hs_g6 : mn_at g6 (a + 2) (.inl (0, 60, .inl (fun j => nI (sn j)))) := by rw [eg6]; exact hs_g2.off (by omega)
          have hu_g6 : mn_at g6 u (.inr (4, [.int (nI sz), .int (nI rp), .int (nI st)])) := by rw [eg6]; exact hu_g2.off (by omega)
          have hz_g6 : mn_at g6 z (.inr (5, [.ref (z + 1)])) := by rw [eg6]; exact hz_g2.off (by omega)
          have hSl_g6 : SlP g6 z pi ss sb := by rw [eg6]; exact hSl_g2.fr (mn_fr_set (S := fun q => q = y + 2) rfl) (fun q q1 q2 h => by have h9 : q = y + 2 := h; omega)
          refine mn_aload_n 1 dWr_fill_56 rfl rfl ?_
          refine mn_aload_n 0 dWr_fill_57 rfl rfl ?_
          refine mn_get okWr 0 lWr_12 (by decide) hy_g6 rfl dWr_fill_58 ?_
          refine mn_callV (d' := 2) (w' := 47) (nc' := 0) (ns' := 0) (As := [.ref (y + 1)]) (st := []) okSl_putIntoLeastEmpty lWr_63 dWr_fill_61 hz_g6 rfl rfl rfl rfl (Nat.le_of_ble_eq_true rfl) (Nat.le_of_ble_eq_true rfl) (by decide) (c_Sl_putA hSl_g6 hy1_g6 hy2_g6 (by omega) (zrN_lt hvl _ _) (by omega) hag (b := zrN ((fun n => vlN (fun _ => 0) pb ln sn w m n st rp sz) n) (sz / 2) sz) (zrN_ext (vlN_ext bz (fun _ => 0) pb ln sn (by omega)))) (fun v g7 hq => ?_)
          obtain ⟨rfl, fg7, sb', hSl', hag'⟩ := hq
          show mn_R E MWr_fill 4 94 _ _ 64 [(0, .ref y), (1, .ref z), (2, .ref a), (3, .ref u), (4, .int (nI pw)), (5, .int (nI p)), (6, .int (nI n))] [] g7 _
          have hy_g7 := hy_g6.fr fg7 (fun h => by have h9 : z + 2 ≤ y ∧ y < z + 122 := h; omega)
          have hy1_g7 := hy1_g6.fr fg7 (fun h => by have h9 : z + 2 ≤ (y + 1) ∧ (y + 1) < z + 122 := h; omega)
          have hy2_g7 := hy2_g6.fr fg7 (fun h => by have h9 : z + 2 ≤ (y + 2) ∧ (y + 2) < z + 122 := h; omega)
          have ha_g7 := ha_g6.fr fg7 (fun h => by have h9 : z + 2 ≤ a ∧ a < z + 122 := h; omega)
          have hb_g7 := hb_g6.fr fg7 (fun h => by have h9 : z + 2 ≤ (a + 3) ∧ (a + 3) < z + 122 := h; omega)
          have hl_g7 := hl_g6.fr fg7 (fun h => by have h9 : z + 2 ≤ (a + 1) ∧ (a + 1) < z + 122 := h; omega)
          have hs_g7 := hs_g6.fr fg7 (fun h => by have h9 : z + 2 ≤ (a + 2) ∧ (a + 2) < z + 122 := h; omega)
          have hu_g7 := hu_g6.fr fg7 (fun h => by have h9 : z + 2 ≤ u ∧ u < z + 122 := h; omega)
          have hz_g7 := hz_g6.fr fg7 (fun h => by have h9 : z + 2 ≤ z ∧ z < z + 122 := h; omega)
          refine mn_goto 84 dWr_fill_64 (by decide) ?_
          refine mn_iload 5 dWr_fill_84 rfl ?_
          exact mn_iret rfl dWr_fill_86 (by rw [wrK_c (V := (fun n => vlN (fun _ => 0) pb ln sn w m n st rp sz)) (x := (ss, sb0, p)) (by omega) (fun q => ite10.mp c3 (hex.mpr q)) c4]; exact ⟨rfl, (((hf.tr (fg2.mo (fun q h => by have h9 : q = y + 1 ∨ q = y + 2 := h; show q = y + 1 ∨ q = y + 2 ∨ (z + 2 ≤ q ∧ q < z + 122); omega))).set eg6 (by show (y + 2) = y + 1 ∨ (y + 2) = y + 2 ∨ (z + 2 ≤ (y + 2) ∧ (y + 2) < z + 122); omega)).tr (fg7.mo (fun q h => by have h9 : z + 2 ≤ q ∧ q < z + 122 := h; show q = y + 1 ∨ q = y + 2 ∨ (z + 2 ≤ q ∧ q < z + 122); omega))), ⟨sb', hSl', hag'⟩, _, _, hy1_g7, hy2_g7, zrN_lt hvl _ _⟩)
      · refine mn_goto 78 dWr_fill_39 (by decide) ?_
        refine mn_iinc (v := nI (n + 1)) (ls' := [(0, .ref y), (1, .ref z), (2, .ref a), (3, .ref u), (4, .int (nI pw)), (5, .int (nI p)), (6, .int (nI (n + 1)))]) 6 dWr_fill_78 rfl (nI_add n 1) (by decide) rfl ?_
        refine mn_goto 6 dWr_fill_81 (by decide) ?_
        rw [wrK_h (V := (fun n => vlN (fun _ => 0) pb ln sn w m n st rp sz)) (x := (ss, sb0, p)) (by omega) (hex.mp (Classical.byContradiction fun q2 => c3 (ite10.mpr q2)))]
        exact ih (n + 1) g2 sz (vlN bz pb ln sn w m n st rp sz) ss sb sb0 p (by omega) (by omega) (by omega) (hf.tr (fg2.mo (fun q h => by have h9 : q = y + 1 ∨ q = y + 2 := h; show q = y + 1 ∨ q = y + 2 ∨ (z + 2 ≤ q ∧ q < z + 122); omega))) hvl hag hy_g2 hy1_g2 hy2_g2 ha_g2 hb_g2 hl_g2 hs_g2 hu_g2 hSl_g2
set_option maxRecDepth 100000 in
theorem c_W_fill {E : mn_En} {g : mn_H} {y a u z nb m w sz rp st : Nat} {pb ln sn : Nat → Nat} {pi : Nat → Nat} {s1 : Nat} {bz : Nat → Nat} {ss : Nat → Nat} {sb sb0 : Nat → Nat → Nat} {pw : Nat} (hpw : pw < 1000) (hy : mn_at g y (.inr (9, [.ref (y + 1)]))) (hy1 : mn_at g (y + 1) (.inr (8, [.ref (y + 2), .int (nI s1)]))) (hy2 : mn_at g (y + 2) (.inl (0, 80, .inl (fun j => nI (bz j))))) (ha : mn_at g a (.inr (2, [.ref (a + 3), .ref (a + 1), .ref (a + 2), .int (nI m), .int (nI w)]))) (hb : mn_at g (a + 3) (.inl (0, nb, .inl (fun j => nI (pb j))))) (hl : mn_at g (a + 1) (.inl (0, 60, .inl (fun j => nI (ln j))))) (hs : mn_at g (a + 2) (.inl (0, 60, .inl (fun j => nI (sn j))))) (hu : mn_at g u (.inr (4, [.int (nI sz), .int (nI rp), .int (nI st)]))) (hSl : SlP g z pi ss sb) (hbz : ∀ j, bz j < 256) (hnb : nb < 5000) (hya : y + 2 < a ∨ a + 3 < y) (hyu : y + 2 < u ∨ u < y) (hyz : y + 2 < z ∨ z + 121 < y) (hza : z + 121 < a ∨ a + 3 < z) (hzu : z + 121 < u ∨ u < z) (hsz : 20 ≤ sz) (hsz2 : sz ≤ 80) (hw : w = sz - 12) (hm1 : 1 ≤ m) (hm : m ≤ 60) (hmw : m * w ≤ nb) (hrp : rp ≤ 3) (hst : st < 256) (hpb : ∀ j, pb j < 256) (hln : ∀ j, ln j < 256) (hsn : ∀ j, sn j < 256) (hag : Agr ss sb sb0) : mn_R E MWr_fill 4 94 0 0 0 [(0, .ref y), (1, .ref z), (2, .ref a), (3, .ref u), (4, .int (nI pw))] [] g (fun x g' => x = some (.int (nI (wrK (fun n => vlN (fun _ => 0) pb ln sn w m n st rp sz) sz (m + rp) pw (m + rp) (ss, sb0, 0)).2.2)) ∧ mn_fr (fun q => q = y + 1 ∨ q = y + 2 ∨ (z + 2 ≤ q ∧ q < z + 122)) g g' ∧ (∃ sb', SlP g' z pi (wrK (fun n => vlN (fun _ => 0) pb ln sn w m n st rp sz) sz (m + rp) pw (m + rp) (ss, sb0, 0)).1 sb' ∧ Agr (wrK (fun n => vlN (fun _ => 0) pb ln sn w m n st rp sz) sz (m + rp) pw (m + rp) (ss, sb0, 0)).1 sb' (wrK (fun n => vlN (fun _ => 0) pb ln sn w m n st rp sz) sz (m + rp) pw (m + rp) (ss, sb0, 0)).2.1) ∧ ∃ (s2 : Nat) (bw : Nat → Nat), mn_at g' (y + 1) (.inr (8, [.ref (y + 2), .int (nI s2)])) ∧ mn_at g' (y + 2) (.inl (0, 80, .inl (fun j => nI (bw j)))) ∧ ∀ j, bw j < 256) := by
  refine mn_iconst (v := 0) dWr_fill_0 (by decide) ?_
  refine mn_istore (ls' := [(0, .ref y), (1, .ref z), (2, .ref a), (3, .ref u), (4, .int (nI pw)), (5, .int 0)]) dWr_fill_1 (by decide) rfl ?_
  refine mn_iconst (v := 0) dWr_fill_3 (by decide) ?_
  refine mn_istore (ls' := [(0, .ref y), (1, .ref z), (2, .ref a), (3, .ref u), (4, .int (nI pw)), (5, .int 0), (6, .int 0)]) dWr_fill_4 (by decide) rfl ?_
  exact c_W_fill_l hpw hnb hya hyu hyz hza hzu hsz hsz2 hw hm1 hm hmw hrp hst hpb hln hsn (m + rp + 1) 0 g s1 bz ss sb sb0 0 (by omega) (by omega) (by omega) mn_fr.rf hbz hag hy hy1 hy2 ha hb hl hs hu hSl
