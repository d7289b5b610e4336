theorem c_V_putN {E : mn_En} {g : mn_H} {a r s : Nat} {b : Nat → Nat} (ha : mn_at g a (.inr (8, [.ref r, .int (nI s)]))) (hr : mn_at g r (.inl (0, 80, .inl (fun j => nI (b j))))) {j v : Nat} (hj : j < 80) : mn_R E MVo_put 0 0 0 0 0 [(0, .ref a), (1, .int (nI j)), (2, .int (nI v))] [] g (mn_is none (mn_set g r (.inl (0, 80, .inl (fun i => nI (va_up b j v i)))))) := by
  rw [← upd_nI]
  exact c_V_put ha hr hj
set_option maxRecDepth 100000 in
theorem c_W_make_l {E : mn_En} {g : mn_H} {y a u nb m w sz rp st : Nat} {pb ln sn c : Nat → Nat} (hnb : nb < 5000) (hya : y + 2 < a ∨ a + 3 < y) (hyu : y + 2 < u ∨ u < y) (hsz : 20 ≤ sz) (hsz2 : sz ≤ 80) (hw : w = sz - 12) (hm1 : 1 ≤ m) (hm : m ≤ 60) (hmw : m * w ≤ nb) (hrp : rp ≤ 3) (hst : st < 256) {n : Nat} (hn : n < m + rp) (hpb : ∀ j, pb j < 256) (hln : ∀ j, ln j < 256) (hsn : ∀ j, sn j < 256) (hc : ∀ j, c j < 256) : ∀ (f i : Nat) (g0 : mn_H), 6 ≤ i → i ≤ sz → sz - i < f → mn_fr (fun q => q = y + 1 ∨ q = y + 2) g g0 → mn_at g0 y (.inr (9, [.ref (y + 1)])) → mn_at g0 (y + 1) (.inr (8, [.ref (y + 2), .int (nI sz)])) → mn_at g0 (y + 2) (.inl (0, 80, .inl (fun j => nI ((mkL (hd6 c st n m rp) (mkV pb ln sn w m n) i) j)))) → mn_at g0 a (.inr (2, [.ref (a + 3), .ref (a + 1), .ref (a + 2), .int (nI m), .int (nI w)])) → mn_at g0 (a + 3) (.inl (0, nb, .inl (fun j => nI (pb j)))) → mn_at g0 (a + 1) (.inl (0, 60, .inl (fun j => nI (ln j)))) → mn_at g0 (a + 2) (.inl (0, 60, .inl (fun j => nI (sn j)))) → mn_at g0 u (.inr (4, [.int (nI sz), .int (nI rp), .int (nI st)])) → mn_R E MWr_make 3 70 0 0 80 [(0, .ref y), (1, .int (nI n)), (2, .ref a), (3, .ref u), (4, .int (nI i))] [] g0 (fun x g' => x = none ∧ mn_fr (fun q => q = y + 1 ∨ q = y + 2) g g' ∧ mn_at g' (y + 1) (.inr (8, [.ref (y + 2), .int (nI sz)])) ∧ mn_at g' (y + 2) (.inl (0, 80, .inl (fun j => nI (vlN c pb ln sn w m n st rp sz j))))) := by
  intro f
  induction f with
  | zero => intro i g0 h0 h1 h2; exact absurd h2 (by omega)
  | succ f ih =>
    intro i g0 h0 h1 h2 hf hy hy1 hy2 ha hb hl hs hu
    refine mn_iload 4 dWr_make_80 rfl ?_
    refine mn_aload_n 3 dWr_make_82 rfl rfl ?_
    refine mn_get okRu 0 lWr_18 (by decide) hu rfl dWr_make_83 ?_
    refine mn_icmp_ge 134 dWr_make_86 (by decide) (fun c1 => ?_) (fun c1 => ?_)
    · have c1 := (nI_leI (a := sz) (b := i) (by omega) (by omega)).mp c1
      refine mn_aload_n 0 dWr_make_134 rfl rfl ?_
      refine mn_get okWr 0 lWr_12 (by decide) hy rfl dWr_make_135 ?_
      refine mn_cV (d' := 2) (w' := 45) (As := []) (stk' := []) okVo_seal lWr_47 dWr_make_138 hy1 rfl rfl rfl rfl (Nat.le_of_ble_eq_true rfl) (Nat.le_of_ble_eq_true rfl) (by decide) (by have h0 := c_V_seal (E := E) hy1 hy2 (by omega) (by omega); rw [seal_nI] at h0; exact h0) rfl ?_
      obtain ⟨g2, eg2⟩ : ∃ gg_, gg_ = mn_set g0 (y + 2) (.inl (0, 80, .inl (fun j => nI ((sealN (mkL (hd6 c st n m rp) (mkV pb ln sn w m n) i) sz) j)))) := ⟨_, rfl⟩
      refine mn_R.toG eg2 ?_
      have hy_g2 : mn_at g2 y (.inr (9, [.ref (y + 1)])) := by rw [eg2]; exact hy.off (by omega)
      have hy1_g2 : mn_at g2 (y + 1) (.inr (8, [.ref (y + 2), .int (nI sz)])) := by rw [eg2]; exact hy1.off (by omega)
      have hy2_g2 : mn_at g2 (y + 2) (.inl (0, 80, .inl (fun j => nI ((sealN (mkL (hd6 c st n m rp) (mkV pb ln sn w m n) i) sz) j)))) := by rw [eg2]; exact hy2.same
      have ha_g2 : mn_at g2 a (.inr (2, [.ref (a + 3), .ref (a + 1), .ref (a + 2), .int (nI m), .int (nI w)])) := by rw [eg2]; exact ha.off (by omega)
      have hb_g2 : mn_at g2 (a + 3) (.inl (0, nb, .inl (fun j => nI (pb j)))) := by rw [eg2]; exact hb.off (by omega)
      have hl_g2 : mn_at g2 (a + 1) (.inl (0, 60, .inl (fun j => nI (ln j)))) := by rw [eg2]; exact hl.off (by omega)
      have hs_g2 : mn_at g2 (a + 2) (.inl (0, 60, .inl (fun j => nI (sn j)))) := by rw [eg2]; exact hs.off (by omega)
      have hu_g2 : mn_at g2 u (.inr (4, [.int (nI sz), .int (nI rp), .int (nI st)])) := by rw [eg2]; exact hu.off (by omega)
      exact mn_vret rfl dWr_make_141 (by obtain rfl : i = sz := (by omega); exact ⟨rfl, (hf.set eg2 (by show (y + 2) = y + 1 ∨ (y + 2) = y + 2; omega)), hy1_g2, hy2_g2⟩)
    · have c1 := mt (nI_leI (a := sz) (b := i) (by omega) (by omega)).mpr c1
      have hwi : ∀ k, k < m → k * w + i < nb + 12 ∧ k * w < 5000 := fun k hk => by have := Nat.mul_le_mul_right w (show k + 1 ≤ m by omega); rw [Nat.succ_mul] at this; omega
      refine mn_aload_n 0 dWr_make_89 rfl rfl ?_
      refine mn_get okWr 0 lWr_12 (by decide) hy rfl dWr_make_90 ?_
      refine mn_iload 4 dWr_make_93 rfl ?_
      refine mn_iload_n 1 dWr_make_95 rfl rfl ?_
      refine mn_aload_n 2 dWr_make_96 rfl rfl ?_
      refine mn_get okPc 3 lWr_32 (by decide) ha rfl dWr_make_97 ?_
      refine mn_icmp_ge 113 dWr_make_100 (by decide) (fun c3 => ?_) (fun c3 => ?_)
      · have c3 := (nI_leI (a := m) (b := n) (by omega) (by omega)).mp c3
        refine mn_aload_n 2 dWr_make_113 rfl rfl ?_
        refine mn_iload_n 1 dWr_make_114 rfl rfl ?_
        refine mn_aload_n 2 dWr_make_115 rfl rfl ?_
        refine mn_get okPc 3 lWr_32 (by decide) ha rfl dWr_make_116 ?_
        refine mn_isub (z := nI (n - m)) dWr_make_119 (pk_sub (a := n) (b := m) (by omega)) ?_
        refine mn_iload 4 dWr_make_120 rfl ?_
        refine mn_cV (d' := 2) (w' := 46) (As := [.int (nI (n - m)), .int (nI i)]) (stk' := [.int (nI (horN (fun k => ptN pb ln sn w k i) (n - m) m m)), .int (nI i), .ref (y + 1)]) okPc_mixed lWr_44 dWr_make_122 ha rfl rfl rfl rfl (Nat.le_of_ble_eq_true rfl) (Nat.le_of_ble_eq_true rfl) (by decide) (c_P_mixedN ha hb hl hs (by omega) (j := n - m) (i := i) (by omega) (by omega) hm hwi hpb hln hsn hm1) rfl ?_
        refine mn_cV (d' := 0) (w' := 0) (As := [.int (nI i), .int (nI (horN (fun k => ptN pb ln sn w k i) (n - m) m m))]) (stk' := []) okVo_put lWr_25 dWr_make_125 hy1 rfl rfl rfl rfl (Nat.le_of_ble_eq_true rfl) (Nat.le_of_ble_eq_true rfl) (by decide) (c_V_putN hy1 hy2 (j := i) (v := horN (fun k => ptN pb ln sn w k i) (n - m) m m) (by omega)) rfl ?_
        obtain ⟨g4, eg4⟩ : ∃ gg_, gg_ = mn_set g0 (y + 2) (.inl (0, 80, .inl (fun j => nI ((va_up (mkL (hd6 c st n m rp) (mkV pb ln sn w m n) i) i (horN (fun k => ptN pb ln sn w k i) (n - m) m m)) j)))) := ⟨_, rfl⟩
        refine mn_R.toG eg4 ?_
        have hy_g4 : mn_at g4 y (.inr (9, [.ref (y + 1)])) := by rw [eg4]; exact hy.off (by omega)
        have hy1_g4 : mn_at g4 (y + 1) (.inr (8, [.ref (y + 2), .int (nI sz)])) := by rw [eg4]; exact hy1.off (by omega)
        have hy2_g4 : mn_at g4 (y + 2) (.inl (0, 80, .inl (fun j => nI ((va_up (mkL (hd6 c st n m rp) (mkV pb ln sn w m n) i) i (horN (fun k => ptN pb ln sn w k i) (n - m) m m)) j)))) := by rw [eg4]; exact hy2.same
        have ha_g4 : mn_at g4 a (.inr (2, [.ref (a + 3), .ref (a + 1), .ref (a + 2), .int (nI m), .int (nI w)])) := by rw [eg4]; exact ha.off (by omega)
        have hb_g4 : mn_at g4 (a + 3) (.inl (0, nb, .inl (fun j => nI (pb j)))) := by rw [eg4]; exact hb.off (by omega)
        have hl_g4 : mn_at g4 (a + 1) (.inl (0, 60, .inl (fun j => nI (ln j)))) := by rw [eg4]; exact hl.off (by omega)
        have hs_g4 : mn_at g4 (a + 2) (.inl (0, 60, .inl (fun j => nI (sn j)))) := by rw [eg4]; exact hs.off (by omega)
        have hu_g4 : mn_at g4 u (.inr (4, [.int (nI sz), .int (nI rp), .int (nI st)])) := by rw [eg4]; exact hu.off (by omega)
        refine mn_iinc (v := nI (i + 1)) (ls' := [(0, .ref y), (1, .int (nI n)), (2, .ref a), (3, .ref u), (4, .int (nI (i + 1)))]) 4 dWr_make_128 rfl (nI_add i 1) (by decide) rfl ?_
        refine mn_goto 80 dWr_make_131 (by decide) ?_
        rw [show horN (fun k => ptN pb ln sn w k i) (n - m) m m = mkV pb ln sn w m n i by unfold mkV; rw [if_neg (by omega)], mkL_s _ _ h0] at hy2_g4
        exact ih (i + 1) g4 (by omega) (by omega) (by omega) (hf.set eg4 (by show (y + 2) = y + 1 ∨ (y + 2) = y + 2; omega)) hy_g4 hy1_g4 hy2_g4 ha_g4 hb_g4 hl_g4 hs_g4 hu_g4
      · have c3 := mt (nI_leI (a := m) (b := n) (by omega) (by omega)).mpr c3
        have hwn := hwi n (by omega)
        have hwn1 := hwn.1
        have hwn2 := hwn.2
        refine mn_aload_n 2 dWr_make_103 rfl rfl ?_
        refine mn_iload_n 1 dWr_make_104 rfl rfl ?_
        refine mn_iload 4 dWr_make_105 rfl ?_
        refine mn_cV (d' := 1) (w' := 21) (As := [.int (nI n), .int (nI i)]) (stk' := [.int (nI (ptN pb ln sn w n i)), .int (nI i), .ref (y + 1)]) okPc_part lWr_40 dWr_make_107 ha rfl rfl rfl rfl (Nat.le_of_ble_eq_true rfl) (Nat.le_of_ble_eq_true rfl) (by decide) (c_P_partN ha hb hl hs (by omega) (n := n) (i := i) (by omega) (by omega) (by first | assumption | omega) (by first | assumption | omega)) rfl ?_
        refine mn_goto 125 dWr_make_110 (by decide) ?_
        refine mn_cV (d' := 0) (w' := 0) (As := [.int (nI i), .int (nI (ptN pb ln sn w n i))]) (stk' := []) okVo_put lWr_25 dWr_make_125 hy1 rfl rfl rfl rfl (Nat.le_of_ble_eq_true rfl) (Nat.le_of_ble_eq_true rfl) (by decide) (c_V_putN hy1 hy2 (j := i) (v := ptN pb ln sn w n i) (by omega)) rfl ?_
        obtain ⟨g5, eg5⟩ : ∃ gg_, gg_ = mn_set g0 (y + 2) (.inl (0, 80, .inl (fun j => nI ((va_up (mkL (hd6 c st n m rp) (mkV pb ln sn w m n) i) i (ptN pb ln sn w n i)) j)))) := ⟨_, rfl⟩
        refine mn_R.toG eg5 ?_
        have hy_g5 : mn_at g5 y (.inr (9, [.ref (y + 1)])) := by rw [eg5]; exact hy.off (by omega)
        have hy1_g5 : mn_at g5 (y + 1) (.inr (8, [.ref (y + 2), .int (nI sz)])) := by rw [eg5]; exact hy1.off (by omega)
        have hy2_g5 : mn_at g5 (y + 2) (.inl (0, 80, .inl (fun j => nI ((va_up (mkL (hd6 c st n m rp) (mkV pb ln sn w m n) i) i (ptN pb ln sn w n i)) j)))) := by rw [eg5]; exact hy2.same
        have ha_g5 : mn_at g5 a (.inr (2, [.ref (a + 3), .ref (a + 1), .ref (a + 2), .int (nI m), .int (nI w)])) := by rw [eg5]; exact ha.off (by omega)
        have hb_g5 : mn_at g5 (a + 3) (.inl (0, nb, .inl (fun j => nI (pb j)))) := by rw [eg5]; exact hb.off (by omega)
        have hl_g5 : mn_at g5 (a + 1) (.inl (0, 60, .inl (fun j => nI (ln j)))) := by rw [eg5]; exact hl.off (by omega)
        have hs_g5 : mn_at g5 (a + 2) (.inl (0, 60, .inl (fun j => nI (sn j)))) := by rw [eg5]; exact hs.off (by omega)
        have hu_g5 : mn_at g5 u (.inr (4, [.int (nI sz), .int (nI rp), .int (nI st)])) := by rw [eg5]; exact hu.off (by omega)
        refine mn_iinc (v := nI (i + 1)) (ls' := [(0, .ref y), (1, .int (nI n)), (2, .ref a), (3, .ref u), (4, .int (nI (i + 1)))]) 4 dWr_make_128 rfl (nI_add i 1) (by decide) rfl ?_
        refine mn_goto 80 dWr_make_131 (by decide) ?_
        rw [show ptN pb ln sn w n i = mkV pb ln sn w m n i by unfold mkV; rw [if_pos (by omega)], mkL_s _ _ h0] at hy2_g5
        exact ih (i + 1) g5 (by omega) (by omega) (by omega) (hf.set eg5 (by show (y + 2) = y + 1 ∨ (y + 2) = y + 2; omega)) hy_g5 hy1_g5 hy2_g5 ha_g5 hb_g5 hl_g5 hs_g5 hu_g5
set_option maxRecDepth 100000 in
theorem c_W_make {E : mn_En} {g : mn_H} {y a u nb m w sz rp st s0 : Nat} {pb ln sn c : Nat → Nat} (hy : mn_at g y (.inr (9, [.ref (y + 1)]))) (hy1 : mn_at g (y + 1) (.inr (8, [.ref (y + 2), .int (nI s0)]))) (hy2 : mn_at g (y + 2) (.inl (0, 80, .inl (fun j => nI (c j))))) (ha : mn_at g a (.inr (2, [.ref (a + 3), .ref (a + 1), .ref (a + 2), .int (nI m), .int (nI w)]))) (hb : mn_at g (a + 3) (.inl (0, nb, .inl (fun j => nI (pb j))))) (hl : mn_at g (a + 1) (.inl (0, 60, .inl (fun j => nI (ln j))))) (hs : mn_at g (a + 2) (.inl (0, 60, .inl (fun j => nI (sn j))))) (hu : mn_at g u (.inr (4, [.int (nI sz), .int (nI rp), .int (nI st)]))) (hnb : nb < 5000) (hya : y + 2 < a ∨ a + 3 < y) (hyu : y + 2 < u ∨ u < y) (hsz : 20 ≤ sz) (hsz2 : sz ≤ 80) (hw : w = sz - 12) (hm1 : 1 ≤ m) (hm : m ≤ 60) (hmw : m * w ≤ nb) (hrp : rp ≤ 3) (hst : st < 256) {n : Nat} (hn : n < m + rp) (hpb : ∀ j, pb j < 256) (hln : ∀ j, ln j < 256) (hsn : ∀ j, sn j < 256) (hc : ∀ j, c j < 256) : mn_R E MWr_make 3 70 0 0 0 [(0, .ref y), (1, .int (nI n)), (2, .ref a), (3, .ref u)] [] g (fun x g' => x = none ∧ mn_fr (fun q => q = y + 1 ∨ q = y + 2) g g' ∧ mn_at g' (y + 1) (.inr (8, [.ref (y + 2), .int (nI sz)])) ∧ mn_at g' (y + 2) (.inl (0, 80, .inl (fun j => nI (vlN c pb ln sn w m n st rp sz j))))) := by
  refine mn_aload_n 0 dWr_make_0 rfl rfl ?_
  refine mn_get okWr 0 lWr_12 (by decide) hy rfl dWr_make_1 ?_
  refine mn_aload_n 3 dWr_make_4 rfl rfl ?_
  refine mn_get okRu 0 lWr_18 (by decide) hu rfl dWr_make_5 ?_
  refine mn_putf okVo 1 lWr_24 (by decide) rfl hy1 rfl rfl (Nat.le_of_ble_eq_true rfl) dWr_make_8 ?_
  obtain ⟨g1, eg1⟩ : ∃ gg_, gg_ = mn_set g (y + 1) (.inr (8, [.ref (y + 2), .int (nI sz)])) := ⟨_, rfl⟩
  refine mn_R.toG eg1 ?_
  have hy_g1 : mn_at g1 y (.inr (9, [.ref (y + 1)])) := by rw [eg1]; exact hy.off (by omega)
  have hy1_g1 : mn_at g1 (y + 1) (.inr (8, [.ref (y + 2), .int (nI sz)])) := by rw [eg1]; exact hy1.same
  have hy2_g1 : mn_at g1 (y + 2) (.inl (0, 80, .inl (fun j => nI (c j)))) := by rw [eg1]; exact hy2.off (by omega)
  have ha_g1 : mn_at g1 a (.inr (2, [.ref (a + 3), .ref (a + 1), .ref (a + 2), .int (nI m), .int (nI w)])) := by rw [eg1]; exact ha.off (by omega)
  have hb_g1 : mn_at g1 (a + 3) (.inl (0, nb, .inl (fun j => nI (pb j)))) := by rw [eg1]; exact hb.off (by omega)
  have hl_g1 : mn_at g1 (a + 1) (.inl (0, 60, .inl (fun j => nI (ln j)))) := by rw [eg1]; exact hl.off (by omega)
  have hs_g1 : mn_at g1 (a + 2) (.inl (0, 60, .inl (fun j => nI (sn j)))) := by rw [eg1]; exact hs.off (by omega)
  have hu_g1 : mn_at g1 u (.inr (4, [.int (nI sz), .int (nI rp), .int (nI st)])) := by rw [eg1]; exact hu.off (by omega)
  refine mn_aload_n 0 dWr_make_11 rfl rfl ?_
  refine mn_get okWr 0 lWr_12 (by decide) hy_g1 rfl dWr_make_12 ?_
  refine mn_iconst (v := 0) dWr_make_15 (by decide) ?_
  refine mn_bipush (v := 86) dWr_make_16 (by decide) ?_
  refine mn_cV (d' := 0) (w' := 0) (As := [.int 0, .int 86]) (stk' := []) okVo_put lWr_25 dWr_make_18 hy1_g1 rfl rfl rfl rfl (Nat.le_of_ble_eq_true rfl) (Nat.le_of_ble_eq_true rfl) (by decide) (c_V_putN hy1_g1 hy2_g1 (j := 0) (v := 86) (by omega)) rfl ?_
  obtain ⟨g2, eg2⟩ : ∃ gg_, gg_ = mn_set g1 (y + 2) (.inl (0, 80, .inl (fun j => nI ((va_up c 0 86) j)))) := ⟨_, rfl⟩
  refine mn_R.toG eg2 ?_
  have hy_g2 : mn_at g2 y (.inr (9, [.ref (y + 1)])) := by rw [eg2]; exact hy_g1.off (by omega)
  have hy1_g2 : mn_at g2 (y + 1) (.inr (8, [.ref (y + 2), .int (nI sz)])) := by rw [eg2]; exact hy1_g1.off (by omega)
  have hy2_g2 : mn_at g2 (y + 2) (.inl (0, 80, .inl (fun j => nI ((va_up c 0 86) j)))) := by rw [eg2]; exact hy2_g1.same
  have ha_g2 : mn_at g2 a (.inr (2, [.ref (a + 3), .ref (a + 1), .ref (a + 2), .int (nI m), .int (nI w)])) := by rw [eg2]; exact ha_g1.off (by omega)
  have hb_g2 : mn_at g2 (a + 3) (.inl (0, nb, .inl (fun j => nI (pb j)))) := by rw [eg2]; exact hb_g1.off (by omega)
  have hl_g2 : mn_at g2 (a + 1) (.inl (0, 60, .inl (fun j => nI (ln j)))) := by rw [eg2]; exact hl_g1.off (by omega)
  have hs_g2 : mn_at g2 (a + 2) (.inl (0, 60, .inl (fun j => nI (sn j)))) := by rw [eg2]; exact hs_g1.off (by omega)
  have hu_g2 : mn_at g2 u (.inr (4, [.int (nI sz), .int (nI rp), .int (nI st)])) := by rw [eg2]; exact hu_g1.off (by omega)
  refine mn_aload_n 0 dWr_make_21 rfl rfl ?_
  refine mn_get okWr 0 lWr_12 (by decide) hy_g2 rfl dWr_make_22 ?_
  refine mn_iconst (v := 1) dWr_make_25 (by decide) ?_
  refine mn_bipush (v := 83) dWr_make_26 (by decide) ?_
  refine mn_cV (d' := 0) (w' := 0) (As := [.int 1, .int 83]) (stk' := []) okVo_put lWr_25 dWr_make_28 hy1_g2 rfl rfl rfl rfl (Nat.le_of_ble_eq_true rfl) (Nat.le_of_ble_eq_true rfl) (by decide) (c_V_putN hy1_g2 hy2_g2 (j := 1) (v := 83) (by omega)) rfl ?_
  obtain ⟨g3, eg3⟩ : ∃ gg_, gg_ = mn_set g2 (y + 2) (.inl (0, 80, .inl (fun j => nI ((va_up (va_up c 0 86) 1 83) j)))) := ⟨_, rfl⟩
  refine mn_R.toG eg3 ?_
  have hy_g3 : mn_at g3 y (.inr (9, [.ref (y + 1)])) := by rw [eg3]; exact hy_g2.off (by omega)
  have hy1_g3 : mn_at g3 (y + 1) (.inr (8, [.ref (y + 2), .int (nI sz)])) := by rw [eg3]; exact hy1_g2.off (by omega)
  have hy2_g3 : mn_at g3 (y + 2) (.inl (0, 80, .inl (fun j => nI ((va_up (va_up c 0 86) 1 83) j)))) := by rw [eg3]; exact hy2_g2.same
  have ha_g3 : mn_at g3 a (.inr (2, [.ref (a + 3), .ref (a + 1), .ref (a + 2), .int (nI m), .int (nI w)])) := by rw [eg3]; exact ha_g2.off (by omega)
  have hb_g3 : mn_at g3 (a + 3) (.inl (0, nb, .inl (fun j => nI (pb j)))) := by rw [eg3]; exact hb_g2.off (by omega)
  have hl_g3 : mn_at g3 (a + 1) (.inl (0, 60, .inl (fun j => nI (ln j)))) := by rw [eg3]; exact hl_g2.off (by omega)
  have hs_g3 : mn_at g3 (a + 2) (.inl (0, 60, .inl (fun j => nI (sn j)))) := by rw [eg3]; exact hs_g2.off (by omega)
  have hu_g3 : mn_at g3 u (.inr (4, [.int (nI sz), .int (nI rp), .int (nI st)])) := by rw [eg3]; exact hu_g2.off (by omega)
  refine mn_aload_n 0 dWr_make_31 rfl rfl ?_
  refine mn_get okWr 0 lWr_12 (by decide) hy_g3 rfl dWr_make_32 ?_
  refine mn_iconst (v := 2) dWr_make_35 (by decide) ?_
  refine mn_aload_n 3 dWr_make_36 rfl rfl ?_
  refine mn_get okRu 2 lWr_29 (by decide) hu_g3 rfl dWr_make_37 ?_
  refine mn_cV (d' := 0) (w' := 0) (As := [.int 2, .int (nI st)]) (stk' := []) okVo_put lWr_25 dWr_make_40 hy1_g3 rfl rfl rfl rfl (Nat.le_of_ble_eq_true rfl) (Nat.le_of_ble_eq_true rfl) (by decide) (c_V_putN hy1_g3 hy2_g3 (j := 2) (v := st) (by omega)) rfl ?_
  obtain ⟨g4, eg4⟩ : ∃ gg_, gg_ = mn_set g3 (y + 2) (.inl (0, 80, .inl (fun j => nI ((va_up (va_up (va_up c 0 86) 1 83) 2 st) j)))) := ⟨_, rfl⟩
  refine mn_R.toG eg4 ?_
  have hy_g4 : mn_at g4 y (.inr (9, [.ref (y + 1)])) := by rw [eg4]; exact hy_g3.off (by omega)
  have hy1_g4 : mn_at g4 (y + 1) (.inr (8, [.ref (y + 2), .int (nI sz)])) := by rw [eg4]; exact hy1_g3.off (by omega)
  have hy2_g4 : mn_at g4 (y + 2) (.inl (0, 80, .inl (fun j => nI ((va_up (va_up (va_up c 0 86) 1 83) 2 st) j)))) := by rw [eg4]; exact hy2_g3.same
  have ha_g4 : mn_at g4 a (.inr (2, [.ref (a + 3), .ref (a + 1), .ref (a + 2), .int (nI m), .int (nI w)])) := by rw [eg4]; exact ha_g3.off (by omega)
  have hb_g4 : mn_at g4 (a + 3) (.inl (0, nb, .inl (fun j => nI (pb j)))) := by rw [eg4]; exact hb_g3.off (by omega)
  have hl_g4 : mn_at g4 (a + 1) (.inl (0, 60, .inl (fun j => nI (ln j)))) := by rw [eg4]; exact hl_g3.off (by omega)
  have hs_g4 : mn_at g4 (a + 2) (.inl (0, 60, .inl (fun j => nI (sn j)))) := by rw [eg4]; exact hs_g3.off (by omega)
  have hu_g4 : mn_at g4 u (.inr (4, [.int (nI sz), .int (nI rp), .int (nI st)])) := by rw [eg4]; exact hu_g3.off (by omega)
  refine mn_aload_n 0 dWr_make_43 rfl rfl ?_
  refine mn_get okWr 0 lWr_12 (by decide) hy_g4 rfl dWr_make_44 ?_
  refine mn_iconst (v := 3) dWr_make_47 (by decide) ?_
  refine mn_iload_n 1 dWr_make_48 rfl rfl ?_
  refine mn_cV (d' := 0) (w' := 0) (As := [.int 3, .int (nI n)]) (stk' := []) okVo_put lWr_25 dWr_make_49 hy1_g4 rfl rfl rfl rfl (Nat.le_of_ble_eq_true rfl) (Nat.le_of_ble_eq_true rfl) (by decide) (c_V_putN hy1_g4 hy2_g4 (j := 3) (v := n) (by omega)) rfl ?_
  obtain ⟨g5, eg5⟩ : ∃ gg_, gg_ = mn_set g4 (y + 2) (.inl (0, 80, .inl (fun j => nI ((va_up (va_up (va_up (va_up c 0 86) 1 83) 2 st) 3 n) j)))) := ⟨_, rfl⟩
  refine mn_R.toG eg5 ?_
  have hy_g5 : mn_at g5 y (.inr (9, [.ref (y + 1)])) := by rw [eg5]; exact hy_g4.off (by omega)
  have hy1_g5 : mn_at g5 (y + 1) (.inr (8, [.ref (y + 2), .int (nI sz)])) := by rw [eg5]; exact hy1_g4.off (by omega)
  have hy2_g5 : mn_at g5 (y + 2) (.inl (0, 80, .inl (fun j => nI ((va_up (va_up (va_up (va_up c 0 86) 1 83) 2 st) 3 n) j)))) := by rw [eg5]; exact hy2_g4.same
  have ha_g5 : mn_at g5 a (.inr (2, [.ref (a + 3), .ref (a + 1), .ref (a + 2), .int (nI m), .int (nI w)])) := by rw [eg5]; exact ha_g4.off (by omega)
  have hb_g5 : mn_at g5 (a + 3) (.inl (0, nb, .inl (fun j => nI (pb j)))) := by rw [eg5]; exact hb_g4.off (by omega)
  have hl_g5 : mn_at g5 (a + 1) (.inl (0, 60, .inl (fun j => nI (ln j)))) := by rw [eg5]; exact hl_g4.off (by omega)
  have hs_g5 : mn_at g5 (a + 2) (.inl (0, 60, .inl (fun j => nI (sn j)))) := by rw [eg5]; exact hs_g4.off (by omega)
  have hu_g5 : mn_at g5 u (.inr (4, [.int (nI sz), .int (nI rp), .int (nI st)])) := by rw [eg5]; exact hu_g4.off (by omega)
  refine mn_aload_n 0 dWr_make_52 rfl rfl ?_
  refine mn_get okWr 0 lWr_12 (by decide) hy_g5 rfl dWr_make_53 ?_
  refine mn_iconst (v := 4) dWr_make_56 (by decide) ?_
  refine mn_aload_n 2 dWr_make_57 rfl rfl ?_
  refine mn_get okPc 3 lWr_32 (by decide) ha_g5 rfl dWr_make_58 ?_
  refine mn_cV (d' := 0) (w' := 0) (As := [.int 4, .int (nI m)]) (stk' := []) okVo_put lWr_25 dWr_make_61 hy1_g5 rfl rfl rfl rfl (Nat.le_of_ble_eq_true rfl) (Nat.le_of_ble_eq_true rfl) (by decide) (c_V_putN hy1_g5 hy2_g5 (j := 4) (v := m) (by omega)) rfl ?_
  obtain ⟨g6, eg6⟩ : ∃ gg_, gg_ = mn_set g5 (y + 2) (.inl (0, 80, .inl (fun j => nI ((va_up (va_up (va_up (va_up (va_up c 0 86) 1 83) 2 st) 3 n) 4 m) j)))) := ⟨_, rfl⟩
  refine mn_R.toG eg6 ?_
  have hy_g6 : mn_at g6 y (.inr (9, [.ref (y + 1)])) := by rw [eg6]; exact hy_g5.off (by omega)
  have hy1_g6 : mn_at g6 (y + 1) (.inr (8, [.ref (y + 2), .int (nI sz)])) := by rw [eg6]; exact hy1_g5.off (by omega)
  have hy2_g6 : mn_at g6 (y + 2) (.inl (0, 80, .inl (fun j => nI ((va_up (va_up (va_up (va_up (va_up c 0 86) 1 83) 2 st) 3 n) 4 m) j)))) := by rw [eg6]; exact hy2_g5.same
  have ha_g6 : mn_at g6 a (.inr (2, [.ref (a + 3), .ref (a + 1), .ref (a + 2), .int (nI m), .int (nI w)])) := by rw [eg6]; exact ha_g5.off (by omega)
  have hb_g6 : mn_at g6 (a + 3) (.inl (0, nb, .inl (fun j => nI (pb j)))) := by rw [eg6]; exact hb_g5.off (by omega)
  have hl_g6 : mn_at g6 (a + 1) (.inl (0, 60, .inl (fun j => nI (ln j)))) := by rw [eg6]; exact hl_g5.off (by omega)
  have hs_g6 : mn_at g6 (a + 2) (.inl (0, 60, .inl (fun j => nI (sn j)))) := by rw [eg6]; exact hs_g5.off (by omega)
  have hu_g6 : mn_at g6 u (.inr (4, [.int (nI sz), .int (nI rp), .int (nI st)])) := by rw [eg6]; exact hu_g5.off (by omega)
  refine mn_aload_n 0 dWr_make_64 rfl rfl ?_
  refine mn_get okWr 0 lWr_12 (by decide) hy_g6 rfl dWr_make_65 ?_
  refine mn_iconst (v := 5) dWr_make_68 (by decide) ?_
  refine mn_aload_n 3 dWr_make_69 rfl rfl ?_
  refine mn_get okRu 1 lWr_37 (by decide) hu_g6 rfl dWr_make_70 ?_
  refine mn_cV (d' := 0) (w' := 0) (As := [.int 5, .int (nI rp)]) (stk' := []) okVo_put lWr_25 dWr_make_73 hy1_g6 rfl rfl rfl rfl (Nat.le_of_ble_eq_true rfl) (Nat.le_of_ble_eq_true rfl) (by decide) (c_V_putN hy1_g6 hy2_g6 (j := 5) (v := rp) (by omega)) rfl ?_
  obtain ⟨g7, eg7⟩ : ∃ gg_, gg_ = mn_set g6 (y + 2) (.inl (0, 80, .inl (fun j => nI ((va_up (va_up (va_up (va_up (va_up (va_up c 0 86) 1 83) 2 st) 3 n) 4 m) 5 rp) j)))) := ⟨_, rfl⟩
  refine mn_R.toG eg7 ?_
  have hy_g7 : mn_at g7 y (.inr (9, [.ref (y + 1)])) := by rw [eg7]; exact hy_g6.off (by omega)
  have hy1_g7 : mn_at g7 (y + 1) (.inr (8, [.ref (y + 2), .int (nI sz)])) := by rw [eg7]; exact hy1_g6.off (by omega)
  have hy2_g7 : mn_at g7 (y + 2) (.inl (0, 80, .inl (fun j => nI ((va_up (va_up (va_up (va_up (va_up (va_up c 0 86) 1 83) 2 st) 3 n) 4 m) 5 rp) j)))) := by rw [eg7]; exact hy2_g6.same
  have ha_g7 : mn_at g7 a (.inr (2, [.ref (a + 3), .ref (a + 1), .ref (a + 2), .int (nI m), .int (nI w)])) := by rw [eg7]; exact ha_g6.off (by omega)
  have hb_g7 : mn_at g7 (a + 3) (.inl (0, nb, .inl (fun j => nI (pb j)))) := by rw [eg7]; exact hb_g6.off (by omega)
  have hl_g7 : mn_at g7 (a + 1) (.inl (0, 60, .inl (fun j => nI (ln j)))) := by rw [eg7]; exact hl_g6.off (by omega)
  have hs_g7 : mn_at g7 (a + 2) (.inl (0, 60, .inl (fun j => nI (sn j)))) := by rw [eg7]; exact hs_g6.off (by omega)
  have hu_g7 : mn_at g7 u (.inr (4, [.int (nI sz), .int (nI rp), .int (nI st)])) := by rw [eg7]; exact hu_g6.off (by omega)
  refine mn_bipush (v := 6) dWr_make_76 (by decide) ?_
  refine mn_istore (ls' := [(0, .ref y), (1, .int (nI n)), (2, .ref a), (3, .ref u), (4, .int 6)]) dWr_make_78 (by decide) rfl ?_
  have h6 : mn_at g7 (y + 2) (.inl (0, 80, .inl (fun j => nI (mkL (hd6 c st n m rp) (mkV pb ln sn w m n) 6 j)))) := by rw [mkL_6]; exact hy2_g7
  exact c_W_make_l hnb hya hyu hsz hsz2 hw hm1 hm hmw hrp hst hn hpb hln hsn hc (sz + 1) 6 g7 (by omega) (by omega) (by omega) (((((((mn_fr.rf.set eg1 (by show (y + 1) = y + 1 ∨ (y + 1) = y + 2; omega)).set eg2 (by show (y + 2) = y + 1 ∨ (y + 2) = y + 2; omega)).set eg3 (by show (y + 2) = y + 1 ∨ (y + 2) = y + 2; omega)).set eg4 (by show (y + 2) = y + 1 ∨ (y + 2) = y + 2; omega)).set eg5 (by show (y + 2) = y + 1 ∨ (y + 2) = y + 2; omega)).set eg6 (by show (y + 2) = y + 1 ∨ (y + 2) = y + 2; omega)).set eg7 (by show (y + 2) = y + 1 ∨ (y + 2) = y + 2; omega)) hy_g7 hy1_g7 h6 ha_g7 hb_g7 hl_g7 hs_g7 hu_g7
