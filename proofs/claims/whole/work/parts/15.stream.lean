theorem c_P_putPartN {E : mn_En} {g : mn_H} {a nb m w : Nat} {pb ln sn : Nat → Nat} (ha : mn_at g a (.inr (2, [.ref (a + 3), .ref (a + 1), .ref (a + 2), .int (nI m), .int (nI w)]))) (hb : mn_at g (a + 3) (.inl (0, nb, .inl (fun j => nI (pb j))))) (hl : mn_at g (a + 1) (.inl (0, 60, .inl (fun j => nI (ln j))))) (hs : mn_at g (a + 2) (.inl (0, 60, .inl (fun j => nI (sn j))))) (hnb : nb < 5000) {n i v : Nat} (hn : n < 60) (hi : i < 80) (hw : n * w + i < nb + 12) (hw0 : n * w < 5000) : mn_R E MPc_putPart 1 22 0 0 0 [(0, .ref a), (1, .int (nI n)), (2, .int (nI i)), (3, .int (nI v))] [] g (fun x g' => x = none ∧ mn_fr (fun q => q = a + 1 ∨ q = a + 2 ∨ q = a + 3) g g' ∧ mn_at g' (a + 3) (.inl (0, nb, .inl (fun j => nI (ppBN w n i v pb j)))) ∧ mn_at g' (a + 1) (.inl (0, 60, .inl (fun j => nI (ppLN n i v ln j)))) ∧ mn_at g' (a + 2) (.inl (0, 60, .inl (fun j => nI (ppSN n i v sn j))))) := by
  rw [← ppB_nI, ← ppL_nI, ← ppS_nI]
  exact c_P_putPart ha hb hl hs hnb hn hi hw hw0
set_option maxRecDepth 100000 in
theorem c_S_add {E : mn_En} {g : mn_H} {s e len m w : Nat} {pb ln sn bg : Nat → Nat} (hS : mn_at g s (.inr (6, [.ref (s + 1), .ref (s + 5), .int (nI e), .int (nI len)]))) (ha : mn_at g (s + 1) (.inr (2, [.ref (s + 1 + 3), .ref (s + 1 + 1), .ref (s + 1 + 2), .int (nI m), .int (nI w)]))) (hb : mn_at g (s + 1 + 3) (.inl (0, 1340, .inl (fun j => nI (pb j))))) (hl : mn_at g (s + 1 + 1) (.inl (0, 60, .inl (fun j => nI (ln j))))) (hs : mn_at g (s + 1 + 2) (.inl (0, 60, .inl (fun j => nI (sn j))))) (hg : mn_at g (s + 5) (.inl (0, 20, .inl (fun j => nI (bg j))))) (hlen : len < 1340) {v : Nat} : mn_R E MSt_add 1 22 0 0 0 [(0, .ref s), (1, .int (nI v))] [] g (fun x g' => x = none ∧ mn_fr (fun q => q = s ∨ q = s + 1 + 3) g g' ∧ mn_at g' s (.inr (6, [.ref (s + 1), .ref (s + 5), .int (nI e), .int (nI (len + 1))])) ∧ mn_at g' (s + 1 + 3) (.inl (0, 1340, .inl (fun j => nI (va_up pb len v j))))) := by
  refine mn_aload_n 0 dSt_add_0 rfl rfl ?_
  refine mn_get okSt 0 lSt_16 (by decide) hS rfl dSt_add_1 ?_
  refine mn_aload_n 0 dSt_add_4 rfl rfl ?_
  refine mn_get okSt 3 lSt_28 (by decide) hS rfl dSt_add_5 ?_
  refine mn_iload_n 1 dSt_add_8 rfl rfl ?_
  refine mn_cV (d' := 0) (w' := 0) (As := [.int (nI len), .int (nI v)]) (stk' := []) okPc_put lSt_45 dSt_add_9 ha rfl rfl rfl rfl (Nat.le_of_ble_eq_true rfl) (Nat.le_of_ble_eq_true rfl) (by decide) (by have h0 := c_P_put (E := E) ha hb hl hs (by omega) (j := len) (x := nI (v)) (by omega); rw [upd_nI] at h0; exact h0) rfl ?_
  obtain ⟨g1, eg1⟩ : ∃ gg_, gg_ = mn_set g (s + 1 + 3) (.inl (0, 1340, .inl (fun j => nI ((va_up pb len v) j)))) := ⟨_, rfl⟩
  refine mn_R.toG eg1 ?_
  have hS_g1 : mn_at g1 s (.inr (6, [.ref (s + 1), .ref (s + 5), .int (nI e), .int (nI len)])) := by rw [eg1]; exact hS.off (by omega)
  have ha_g1 : mn_at g1 (s + 1) (.inr (2, [.ref (s + 1 + 3), .ref (s + 1 + 1), .ref (s + 1 + 2), .int (nI m), .int (nI w)])) := by rw [eg1]; exact ha.off (by omega)
  have hb_g1 : mn_at g1 (s + 1 + 3) (.inl (0, 1340, .inl (fun j => nI ((va_up pb len v) j)))) := by rw [eg1]; exact hb.same
  have hl_g1 : mn_at g1 (s + 1 + 1) (.inl (0, 60, .inl (fun j => nI (ln j)))) := by rw [eg1]; exact hl.off (by omega)
  have hs_g1 : mn_at g1 (s + 1 + 2) (.inl (0, 60, .inl (fun j => nI (sn j)))) := by rw [eg1]; exact hs.off (by omega)
  have hg_g1 : mn_at g1 (s + 5) (.inl (0, 20, .inl (fun j => nI (bg j)))) := by rw [eg1]; exact hg.off (by omega)
  refine mn_aload_n 0 dSt_add_12 rfl rfl ?_
  refine mn_dup dSt_add_13 rfl ?_
  refine mn_get okSt 3 lSt_28 (by decide) hS_g1 rfl dSt_add_14 ?_
  refine mn_iconst (v := 1) dSt_add_17 (by decide) ?_
  refine mn_iadd (z := nI (len + 1)) dSt_add_18 (nI_add len 1) ?_
  refine mn_putf okSt 3 lSt_28 (by decide) rfl hS_g1 rfl rfl (Nat.le_of_ble_eq_true rfl) dSt_add_19 ?_
  obtain ⟨g2, eg2⟩ : ∃ gg_, gg_ = mn_set g1 s (.inr (6, [.ref (s + 1), .ref (s + 5), .int (nI e), .int (nI (len + 1))])) := ⟨_, rfl⟩
  refine mn_R.toG eg2 ?_
  have hS_g2 : mn_at g2 s (.inr (6, [.ref (s + 1), .ref (s + 5), .int (nI e), .int (nI (len + 1))])) := by rw [eg2]; exact hS_g1.same
  have ha_g2 : mn_at g2 (s + 1) (.inr (2, [.ref (s + 1 + 3), .ref (s + 1 + 1), .ref (s + 1 + 2), .int (nI m), .int (nI w)])) := by rw [eg2]; exact ha_g1.off (by omega)
  have hb_g2 : mn_at g2 (s + 1 + 3) (.inl (0, 1340, .inl (fun j => nI ((va_up pb len v) j)))) := by rw [eg2]; exact hb_g1.off (by omega)
  have hl_g2 : mn_at g2 (s + 1 + 1) (.inl (0, 60, .inl (fun j => nI (ln j)))) := by rw [eg2]; exact hl_g1.off (by omega)
  have hs_g2 : mn_at g2 (s + 1 + 2) (.inl (0, 60, .inl (fun j => nI (sn j)))) := by rw [eg2]; exact hs_g1.off (by omega)
  have hg_g2 : mn_at g2 (s + 5) (.inl (0, 20, .inl (fun j => nI (bg j)))) := by rw [eg2]; exact hg_g1.off (by omega)
  exact mn_vret rfl dSt_add_22 ⟨rfl, ((mn_fr.rf.set eg1 (by show (s + 1 + 3) = s ∨ (s + 1 + 3) = s + 1 + 3; omega)).set eg2 (by show s = s ∨ s = s + 1 + 3; omega)), hS_g2, hb_g2⟩
set_option maxRecDepth 100000 in
theorem c_S_append_l {E : mn_En} {g : mn_H} {s e len m w : Nat} {pb ln sn bg : Nat → Nat} {t tl : Nat} {tb : Nat → Nat} (hst : s + 5 < t ∨ t + 1 < s) (hlen : len + 3 + tl < 1340) (htl : tl ≤ 60) {z : Int32} : ∀ (k i : Nat) (g0 : mn_H), i ≤ tl → tl - i < k → mn_fr (fun q => q = s ∨ q = s + 1 + 3 ∨ q = s + 5) g g0 → mn_at g0 s (.inr (6, [.ref (s + 1), .ref (s + 5), .int (nI (e + 1)), .int (nI (len + 3 + i))])) → mn_at g0 (s + 1) (.inr (2, [.ref (s + 1 + 3), .ref (s + 1 + 1), .ref (s + 1 + 2), .int (nI m), .int (nI w)])) → mn_at g0 (s + 1 + 3) (.inl (0, 1340, .inl (fun j => nI ((apL pb len tl (suN tb 0 tl) tb i) j)))) → mn_at g0 (s + 1 + 1) (.inl (0, 60, .inl (fun j => nI (ln j)))) → mn_at g0 (s + 1 + 2) (.inl (0, 60, .inl (fun j => nI (sn j)))) → mn_at g0 (s + 5) (.inl (0, 20, .inl (fun j => nI ((va_up bg e len) j)))) → mn_at g0 t (.inr (7, [.ref (t + 1), .int (nI tl)])) → mn_at g0 (t + 1) (.inl (0, 60, .inl (fun j => nI (tb j)))) → mn_R E MSt_append 3 65 0 0 72 [(0, .ref s), (1, .ref t), (2, .int z), (3, .int (nI i))] [] g0 (fun x g' => x = none ∧ mn_fr (fun q => q = s ∨ q = s + 1 + 3 ∨ q = s + 5) g g' ∧ mn_at g' s (.inr (6, [.ref (s + 1), .ref (s + 5), .int (nI (e + 1)), .int (nI (len + 3 + tl))])) ∧ mn_at g' (s + 1 + 3) (.inl (0, 1340, .inl (fun j => nI (apL pb len tl (suN tb 0 tl) tb tl j)))) ∧ mn_at g' (s + 5) (.inl (0, 20, .inl (fun j => nI (va_up bg e len j))))) := by
  intro k
  induction k with
  | zero => intro i g0 h1 h2; exact absurd h2 (by omega)
  | succ k ih =>
    intro i g0 h1 h2 hf hS ha hb hl hs hg ht hu
    refine mn_iload_n 3 dSt_append_72 rfl rfl ?_
    refine mn_aload_n 1 dSt_append_73 rfl rfl ?_
    refine mn_get okTa 1 lSt_37 (by decide) ht rfl dSt_append_74 ?_
    refine mn_icmp_ge 95 dSt_append_77 (by decide) (fun c1 => ?_) (fun c1 => ?_)
    · have c1 := (nI_leI (a := tl) (b := i) (by omega) (by omega)).mp c1
      exact mn_vret rfl dSt_append_95 (by obtain rfl : i = tl := (by omega); exact ⟨rfl, hf, hS, hb, hg⟩)
    · have c1 := mt (nI_leI (a := tl) (b := i) (by omega) (by omega)).mpr c1
      refine mn_aload_n 0 dSt_append_80 rfl rfl ?_
      refine mn_aload_n 1 dSt_append_81 rfl rfl ?_
      refine mn_iload_n 3 dSt_append_82 rfl rfl ?_
      refine mn_cV (d' := 0) (w' := 0) (As := [.int (nI i)]) (stk' := [.int (nI (tb i)), .ref s]) okTa_byteAt lSt_41 dSt_append_83 ht rfl rfl rfl rfl (Nat.le_of_ble_eq_true rfl) (Nat.le_of_ble_eq_true rfl) (by decide) (c_T_byteAt ht hu (j := i) (by omega)) rfl ?_
      refine mn_callV (d' := 1) (w' := 22) (nc' := 0) (ns' := 0) (As := [.int (nI (tb i))]) (st := []) okSt_add lSt_38 dSt_append_86 hS rfl rfl rfl rfl (Nat.le_of_ble_eq_true rfl) (Nat.le_of_ble_eq_true rfl) (by decide) (c_S_add hS ha hb hl hs hg (v := tb i) (by omega)) (fun v g2 hq => ?_)
      obtain ⟨rfl, fg2, hS_g2, hb_g2⟩ := hq
      have hS_g2 : mn_at g2 s (.inr (6, [.ref (s + 1), .ref (s + 5), .int (nI (e + 1)), .int (nI (len + 3 + i + 1))])) := hS_g2
      have hb_g2 : mn_at g2 (s + 1 + 3) (.inl (0, 1340, .inl (fun j => nI ((va_up (apL pb len tl (suN tb 0 tl) tb i) (len + 3 + i) (tb i)) j)))) := hb_g2
      show mn_R E MSt_append 3 65 _ _ 89 [(0, .ref s), (1, .ref t), (2, .int z), (3, .int (nI i))] [] g2 _
      have ha_g2 := ha.fr fg2 (fun h => by have h9 : (s + 1) = s ∨ (s + 1) = s + 1 + 3 := h; omega)
      have hl_g2 := hl.fr fg2 (fun h => by have h9 : (s + 1 + 1) = s ∨ (s + 1 + 1) = s + 1 + 3 := h; omega)
      have hs_g2 := hs.fr fg2 (fun h => by have h9 : (s + 1 + 2) = s ∨ (s + 1 + 2) = s + 1 + 3 := h; omega)
      have hg_g2 := hg.fr fg2 (fun h => by have h9 : (s + 5) = s ∨ (s + 5) = s + 1 + 3 := h; omega)
      have ht_g2 := ht.fr fg2 (fun h => by have h9 : t = s ∨ t = s + 1 + 3 := h; omega)
      have hu_g2 := hu.fr fg2 (fun h => by have h9 : (t + 1) = s ∨ (t + 1) = s + 1 + 3 := h; omega)
      refine mn_iinc (v := nI (i + 1)) (ls' := [(0, .ref s), (1, .ref t), (2, .int z), (3, .int (nI (i + 1)))]) 3 dSt_append_89 rfl (nI_add i 1) (by decide) rfl ?_
      refine mn_goto 72 dSt_append_92 (by decide) ?_
      rw [apL_s] at hb_g2
      exact ih (i + 1) g2 (by omega) (by omega) (hf.tr (fg2.mo (fun q h => by have h9 : q = s ∨ q = s + 1 + 3 := h; show q = s ∨ q = s + 1 + 3 ∨ q = s + 5; omega))) hS_g2 ha_g2 hb_g2 hl_g2 hs_g2 hg_g2 ht_g2 hu_g2
set_option maxRecDepth 100000 in
theorem c_S_append {E : mn_En} {g : mn_H} {s e len m w : Nat} {pb ln sn bg : Nat → Nat} (hS : mn_at g s (.inr (6, [.ref (s + 1), .ref (s + 5), .int (nI e), .int (nI len)]))) (ha : mn_at g (s + 1) (.inr (2, [.ref (s + 1 + 3), .ref (s + 1 + 1), .ref (s + 1 + 2), .int (nI m), .int (nI w)]))) (hb : mn_at g (s + 1 + 3) (.inl (0, 1340, .inl (fun j => nI (pb j))))) (hl : mn_at g (s + 1 + 1) (.inl (0, 60, .inl (fun j => nI (ln j))))) (hs : mn_at g (s + 1 + 2) (.inl (0, 60, .inl (fun j => nI (sn j))))) (hg : mn_at g (s + 5) (.inl (0, 20, .inl (fun j => nI (bg j))))) {t tl : Nat} {tb : Nat → Nat} (ht : mn_at g t (.inr (7, [.ref (t + 1), .int (nI tl)]))) (hu : mn_at g (t + 1) (.inl (0, 60, .inl (fun j => nI (tb j))))) (hst : s + 5 < t ∨ t + 1 < s) (he : e < 20) (hlen : len + 3 + tl < 1340) (htl : tl ≤ 60) : mn_R E MSt_append 3 65 0 0 0 [(0, .ref s), (1, .ref t)] [] g (fun x g' => x = none ∧ mn_fr (fun q => q = s ∨ q = s + 1 + 3 ∨ q = s + 5) g g' ∧ mn_at g' s (.inr (6, [.ref (s + 1), .ref (s + 5), .int (nI (e + 1)), .int (nI (len + 3 + tl))])) ∧ mn_at g' (s + 1 + 3) (.inl (0, 1340, .inl (fun j => nI (apL pb len tl (suN tb 0 tl) tb tl j)))) ∧ mn_at g' (s + 5) (.inl (0, 20, .inl (fun j => nI (va_up bg e len j))))) := by
  have hsu := suN_lt tb 0 tl
  refine mn_aload_n 0 dSt_append_0 rfl rfl ?_
  refine mn_get okSt 2 lSt_24 (by decide) hS rfl dSt_append_1 ?_
  refine mn_if_lt 16 dSt_append_4 (by decide) (fun c1 => ?_) (fun c1 => ?_)
  · exact absurd c1 (nI_pos (by omega))
  · refine mn_aload_n 0 dSt_append_7 rfl rfl ?_
    refine mn_get okSt 2 lSt_24 (by decide) hS rfl dSt_append_8 ?_
    refine mn_bipush (v := 20) dSt_append_11 (by decide) ?_
    refine mn_icmp_lt 17 dSt_append_13 (by decide) (fun c2 => ?_) (fun c2 => ?_)
    · have c2 := (nI_ltI (a := e) (b := 20) (by omega) (by omega)).mp c2
      refine mn_aload_n 0 dSt_append_17 rfl rfl ?_
      refine mn_get okSt 1 lSt_20 (by decide) hS rfl dSt_append_18 ?_
      refine mn_aload_n 0 dSt_append_21 rfl rfl ?_
      refine mn_get okSt 2 lSt_24 (by decide) hS rfl dSt_append_22 ?_
      refine mn_aload_n 0 dSt_append_25 rfl rfl ?_
      refine mn_get okSt 3 lSt_28 (by decide) hS rfl dSt_append_26 ?_
      refine mn_iastN (j := e) hg rfl (by omega) (by omega) dSt_append_29 ?_
      obtain ⟨g3, eg3⟩ : ∃ gg_, gg_ = mn_set g (s + 5) (.inl (0, 20, .inl (upd (fun j => nI (bg j)) e (nI len)))) := ⟨_, rfl⟩
      refine mn_R.toG eg3 ?_
      have hS_g3 : mn_at g3 s (.inr (6, [.ref (s + 1), .ref (s + 5), .int (nI e), .int (nI len)])) := by rw [eg3]; exact hS.off (by omega)
      have ha_g3 : mn_at g3 (s + 1) (.inr (2, [.ref (s + 1 + 3), .ref (s + 1 + 1), .ref (s + 1 + 2), .int (nI m), .int (nI w)])) := by rw [eg3]; exact ha.off (by omega)
      have hb_g3 : mn_at g3 (s + 1 + 3) (.inl (0, 1340, .inl (fun j => nI (pb j)))) := by rw [eg3]; exact hb.off (by omega)
      have hl_g3 : mn_at g3 (s + 1 + 1) (.inl (0, 60, .inl (fun j => nI (ln j)))) := by rw [eg3]; exact hl.off (by omega)
      have hs_g3 : mn_at g3 (s + 1 + 2) (.inl (0, 60, .inl (fun j => nI (sn j)))) := by rw [eg3]; exact hs.off (by omega)
      have hg_g3 : mn_at g3 (s + 5) (.inl (0, 20, .inl (upd (fun j => nI (bg j)) e (nI len)))) := by rw [eg3]; exact hg.same
      have ht_g3 : mn_at g3 t (.inr (7, [.ref (t + 1), .int (nI tl)])) := by rw [eg3]; exact ht.off (by omega)
      have hu_g3 : mn_at g3 (t + 1) (.inl (0, 60, .inl (fun j => nI (tb j)))) := by rw [eg3]; exact hu.off (by omega)
      rw [upd_nI] at hg_g3
      refine mn_aload_n 0 dSt_append_30 rfl rfl ?_
      refine mn_dup dSt_append_31 rfl ?_
      refine mn_get okSt 2 lSt_24 (by decide) hS_g3 rfl dSt_append_32 ?_
      refine mn_iconst (v := 1) dSt_append_35 (by decide) ?_
      refine mn_iadd (z := nI (e + 1)) dSt_append_36 (nI_add e 1) ?_
      refine mn_putf okSt 2 lSt_24 (by decide) rfl hS_g3 rfl rfl (Nat.le_of_ble_eq_true rfl) dSt_append_37 ?_
      obtain ⟨g4, eg4⟩ : ∃ gg_, gg_ = mn_set g3 s (.inr (6, [.ref (s + 1), .ref (s + 5), .int (nI (e + 1)), .int (nI len)])) := ⟨_, rfl⟩
      refine mn_R.toG eg4 ?_
      have hS_g4 : mn_at g4 s (.inr (6, [.ref (s + 1), .ref (s + 5), .int (nI (e + 1)), .int (nI len)])) := by rw [eg4]; exact hS_g3.same
      have ha_g4 : mn_at g4 (s + 1) (.inr (2, [.ref (s + 1 + 3), .ref (s + 1 + 1), .ref (s + 1 + 2), .int (nI m), .int (nI w)])) := by rw [eg4]; exact ha_g3.off (by omega)
      have hb_g4 : mn_at g4 (s + 1 + 3) (.inl (0, 1340, .inl (fun j => nI (pb j)))) := by rw [eg4]; exact hb_g3.off (by omega)
      have hl_g4 : mn_at g4 (s + 1 + 1) (.inl (0, 60, .inl (fun j => nI (ln j)))) := by rw [eg4]; exact hl_g3.off (by omega)
      have hs_g4 : mn_at g4 (s + 1 + 2) (.inl (0, 60, .inl (fun j => nI (sn j)))) := by rw [eg4]; exact hs_g3.off (by omega)
      have hg_g4 : mn_at g4 (s + 5) (.inl (0, 20, .inl (fun j => nI ((va_up bg e len) j)))) := by rw [eg4]; exact hg_g3.off (by omega)
      have ht_g4 : mn_at g4 t (.inr (7, [.ref (t + 1), .int (nI tl)])) := by rw [eg4]; exact ht_g3.off (by omega)
      have hu_g4 : mn_at g4 (t + 1) (.inl (0, 60, .inl (fun j => nI (tb j)))) := by rw [eg4]; exact hu_g3.off (by omega)
      refine mn_aload_n 1 dSt_append_40 rfl rfl ?_
      refine mn_cV (d' := 2) (w' := 45) (As := []) (stk' := [.int (nI (suN tb 0 tl))]) okTa_sum lSt_31 dSt_append_41 ht_g4 rfl rfl rfl rfl (Nat.le_of_ble_eq_true rfl) (Nat.le_of_ble_eq_true rfl) (by decide) (by have h0 := c_T_sum (E := E) ht_g4 hu_g4 (by omega); rw [su_nI] at h0; exact h0) rfl ?_
      refine mn_istore_n (ls' := [(0, .ref s), (1, .ref t), (2, .int (nI (suN tb 0 tl)))]) dSt_append_44 rfl (by decide) rfl ?_
      refine mn_aload_n 0 dSt_append_45 rfl rfl ?_
      refine mn_aload_n 1 dSt_append_46 rfl rfl ?_
      refine mn_get okTa 1 lSt_37 (by decide) ht_g4 rfl dSt_append_47 ?_
      refine mn_callV (d' := 1) (w' := 22) (nc' := 0) (ns' := 0) (As := [.int (nI tl)]) (st := []) okSt_add lSt_38 dSt_append_50 hS_g4 rfl rfl rfl rfl (Nat.le_of_ble_eq_true rfl) (Nat.le_of_ble_eq_true rfl) (by decide) (c_S_add hS_g4 ha_g4 hb_g4 hl_g4 hs_g4 hg_g4 (v := tl) (by omega)) (fun v g5 hq => ?_)
      obtain ⟨rfl, fg5, hS_g5, hb_g5⟩ := hq
      have hS_g5 : mn_at g5 s (.inr (6, [.ref (s + 1), .ref (s + 5), .int (nI (e + 1)), .int (nI (len + 1))])) := hS_g5
      have hb_g5 : mn_at g5 (s + 1 + 3) (.inl (0, 1340, .inl (fun j => nI ((va_up pb len tl) j)))) := hb_g5
      show mn_R E MSt_append 3 65 _ _ 53 [(0, .ref s), (1, .ref t), (2, .int (nI (suN tb 0 tl)))] [] g5 _
      have ha_g5 := ha_g4.fr fg5 (fun h => by have h9 : (s + 1) = s ∨ (s + 1) = s + 1 + 3 := h; omega)
      have hl_g5 := hl_g4.fr fg5 (fun h => by have h9 : (s + 1 + 1) = s ∨ (s + 1 + 1) = s + 1 + 3 := h; omega)
      have hs_g5 := hs_g4.fr fg5 (fun h => by have h9 : (s + 1 + 2) = s ∨ (s + 1 + 2) = s + 1 + 3 := h; omega)
      have hg_g5 := hg_g4.fr fg5 (fun h => by have h9 : (s + 5) = s ∨ (s + 5) = s + 1 + 3 := h; omega)
      have ht_g5 := ht_g4.fr fg5 (fun h => by have h9 : t = s ∨ t = s + 1 + 3 := h; omega)
      have hu_g5 := hu_g4.fr fg5 (fun h => by have h9 : (t + 1) = s ∨ (t + 1) = s + 1 + 3 := h; omega)
      refine mn_aload_n 0 dSt_append_53 rfl rfl ?_
      refine mn_iload_n 2 dSt_append_54 rfl rfl ?_
      refine mn_sipush (v := 255) dSt_append_55 (by decide) ?_
      refine mn_iand (z := nI (suN tb 0 tl % 256)) dSt_append_58 (and255 _) ?_
      refine mn_callV (d' := 1) (w' := 22) (nc' := 0) (ns' := 0) (As := [.int (nI (suN tb 0 tl % 256))]) (st := []) okSt_add lSt_38 dSt_append_59 hS_g5 rfl rfl rfl rfl (Nat.le_of_ble_eq_true rfl) (Nat.le_of_ble_eq_true rfl) (by decide) (c_S_add hS_g5 ha_g5 hb_g5 hl_g5 hs_g5 hg_g5 (v := suN tb 0 tl % 256) (by omega)) (fun v g6 hq => ?_)
      obtain ⟨rfl, fg6, hS_g6, hb_g6⟩ := hq
      have hS_g6 : mn_at g6 s (.inr (6, [.ref (s + 1), .ref (s + 5), .int (nI (e + 1)), .int (nI (len + 2))])) := hS_g6
      have hb_g6 : mn_at g6 (s + 1 + 3) (.inl (0, 1340, .inl (fun j => nI ((va_up (va_up pb len tl) (len + 1) (suN tb 0 tl % 256)) j)))) := hb_g6
      show mn_R E MSt_append 3 65 _ _ 62 [(0, .ref s), (1, .ref t), (2, .int (nI (suN tb 0 tl)))] [] g6 _
      have ha_g6 := ha_g5.fr fg6 (fun h => by have h9 : (s + 1) = s ∨ (s + 1) = s + 1 + 3 := h; omega)
      have hl_g6 := hl_g5.fr fg6 (fun h => by have h9 : (s + 1 + 1) = s ∨ (s + 1 + 1) = s + 1 + 3 := h; omega)
      have hs_g6 := hs_g5.fr fg6 (fun h => by have h9 : (s + 1 + 2) = s ∨ (s + 1 + 2) = s + 1 + 3 := h; omega)
      have hg_g6 := hg_g5.fr fg6 (fun h => by have h9 : (s + 5) = s ∨ (s + 5) = s + 1 + 3 := h; omega)
      have ht_g6 := ht_g5.fr fg6 (fun h => by have h9 : t = s ∨ t = s + 1 + 3 := h; omega)
      have hu_g6 := hu_g5.fr fg6 (fun h => by have h9 : (t + 1) = s ∨ (t + 1) = s + 1 + 3 := h; omega)
      refine mn_aload_n 0 dSt_append_62 rfl rfl ?_
      refine mn_iload_n 2 dSt_append_63 rfl rfl ?_
      refine mn_bipush (v := 8) dSt_append_64 (by decide) ?_
      refine mn_iushr (z := nI (suN tb 0 tl / 256)) dSt_append_66 (sr8_nI hsu) ?_
      refine mn_callV (d' := 1) (w' := 22) (nc' := 0) (ns' := 0) (As := [.int (nI (suN tb 0 tl / 256))]) (st := []) okSt_add lSt_38 dSt_append_67 hS_g6 rfl rfl rfl rfl (Nat.le_of_ble_eq_true rfl) (Nat.le_of_ble_eq_true rfl) (by decide) (c_S_add hS_g6 ha_g6 hb_g6 hl_g6 hs_g6 hg_g6 (v := suN tb 0 tl / 256) (by omega)) (fun v g7 hq => ?_)
      obtain ⟨rfl, fg7, hS_g7, hb_g7⟩ := hq
      have hS_g7 : mn_at g7 s (.inr (6, [.ref (s + 1), .ref (s + 5), .int (nI (e + 1)), .int (nI (len + 3))])) := hS_g7
      have hb_g7 : mn_at g7 (s + 1 + 3) (.inl (0, 1340, .inl (fun j => nI ((va_up (va_up (va_up pb len tl) (len + 1) (suN tb 0 tl % 256)) (len + 2) (suN tb 0 tl / 256)) j)))) := hb_g7
      show mn_R E MSt_append 3 65 _ _ 70 [(0, .ref s), (1, .ref t), (2, .int (nI (suN tb 0 tl)))] [] g7 _
      have ha_g7 := ha_g6.fr fg7 (fun h => by have h9 : (s + 1) = s ∨ (s + 1) = s + 1 + 3 := h; omega)
      have hl_g7 := hl_g6.fr fg7 (fun h => by have h9 : (s + 1 + 1) = s ∨ (s + 1 + 1) = s + 1 + 3 := h; omega)
      have hs_g7 := hs_g6.fr fg7 (fun h => by have h9 : (s + 1 + 2) = s ∨ (s + 1 + 2) = s + 1 + 3 := h; omega)
      have hg_g7 := hg_g6.fr fg7 (fun h => by have h9 : (s + 5) = s ∨ (s + 5) = s + 1 + 3 := h; omega)
      have ht_g7 := ht_g6.fr fg7 (fun h => by have h9 : t = s ∨ t = s + 1 + 3 := h; omega)
      have hu_g7 := hu_g6.fr fg7 (fun h => by have h9 : (t + 1) = s ∨ (t + 1) = s + 1 + 3 := h; omega)
      refine mn_iconst (v := 0) dSt_append_70 (by decide) ?_
      refine mn_istore_n (ls' := [(0, .ref s), (1, .ref t), (2, .int (nI (suN tb 0 tl))), (3, .int 0)]) dSt_append_71 rfl (by decide) rfl ?_
      rw [apL_0 (tb := tb)] at hb_g7
      exact c_S_append_l hst hlen htl (tl + 1) 0 g7 (by omega) (by omega) (((((mn_fr.rf.set eg3 (by show (s + 5) = s ∨ (s + 5) = s + 1 + 3 ∨ (s + 5) = s + 5; omega)).set eg4 (by show s = s ∨ s = s + 1 + 3 ∨ s = s + 5; omega)).tr (fg5.mo (fun q h => by have h9 : q = s ∨ q = s + 1 + 3 := h; show q = s ∨ q = s + 1 + 3 ∨ q = s + 5; omega))).tr (fg6.mo (fun q h => by have h9 : q = s ∨ q = s + 1 + 3 := h; show q = s ∨ q = s + 1 + 3 ∨ q = s + 5; omega))).tr (fg7.mo (fun q h => by have h9 : q = s ∨ q = s + 1 + 3 := h; show q = s ∨ q = s + 1 + 3 ∨ q = s + 5; omega))) hS_g7 ha_g7 hb_g7 hl_g7 hs_g7 hg_g7 ht_g7 hu_g7
    · have c2 := mt (nI_ltI (a := e) (b := 20) (by omega) (by omega)).mpr c2
      exact mn_vret rfl dSt_append_16 (absurd he (by omega))
set_option maxRecDepth 100000 in
theorem c_S_forget {E : mn_En} {g : mn_H} {s e len m w : Nat} {pb ln sn bg : Nat → Nat} (hS : mn_at g s (.inr (6, [.ref (s + 1), .ref (s + 5), .int (nI e), .int (nI len)]))) (ha : mn_at g (s + 1) (.inr (2, [.ref (s + 1 + 3), .ref (s + 1 + 1), .ref (s + 1 + 2), .int (nI m), .int (nI w)]))) (hb : mn_at g (s + 1 + 3) (.inl (0, 1340, .inl (fun j => nI (pb j))))) (hl : mn_at g (s + 1 + 1) (.inl (0, 60, .inl (fun j => nI (ln j))))) (hs : mn_at g (s + 1 + 2) (.inl (0, 60, .inl (fun j => nI (sn j))))) (hg : mn_at g (s + 5) (.inl (0, 20, .inl (fun j => nI (bg j))))) : mn_R E MSt_forgetAll 2 43 0 0 0 [(0, .ref s)] [] g (fun x g' => x = none ∧ mn_fr (fun q => q = s ∨ q = s + 1 + 1 ∨ q = s + 1 + 2 ∨ q = s + 1 + 3) g g' ∧ mn_at g' s (.inr (6, [.ref (s + 1), .ref (s + 5), .int 0, .int 0])) ∧ mn_at g' (s + 1 + 3) (.inl (0, 1340, .inl (fun j => nI (blN pb 1340 j)))) ∧ mn_at g' (s + 1 + 1) (.inl (0, 60, .inl (fun j => nI (blN ln 60 j)))) ∧ mn_at g' (s + 1 + 2) (.inl (0, 60, .inl (fun j => nI (blN sn 60 j))))) := by
  refine mn_aload_n 0 dSt_forgetAll_0 rfl rfl ?_
  refine mn_get okSt 0 lSt_16 (by decide) hS rfl dSt_forgetAll_1 ?_
  refine mn_callV (d' := 1) (w' := 23) (nc' := 0) (ns' := 0) (As := []) (st := []) okPc_blank lSt_49 dSt_forgetAll_4 ha rfl rfl rfl rfl (Nat.le_of_ble_eq_true rfl) (Nat.le_of_ble_eq_true rfl) (by decide) (by have h0 := c_P_blank (E := E) ha hb hl hs (by omega); rw [flN_nI, flN_nI, flN_nI] at h0; exact h0) (fun v g1 hq => ?_)
  obtain ⟨rfl, fg1, hb_g1, hl_g1, hs_g1⟩ := hq
  have hb_g1 : mn_at g1 (s + 1 + 3) (.inl (0, 1340, .inl (fun j => nI ((blN pb 1340) j)))) := hb_g1
  have hl_g1 : mn_at g1 (s + 1 + 1) (.inl (0, 60, .inl (fun j => nI ((blN ln 60) j)))) := hl_g1
  have hs_g1 : mn_at g1 (s + 1 + 2) (.inl (0, 60, .inl (fun j => nI ((blN sn 60) j)))) := hs_g1
  show mn_R E MSt_forgetAll 2 43 _ _ 7 [(0, .ref s)] [] g1 _
  have hS_g1 := hS.fr fg1 (fun h => by have h9 : s = s + 1 + 1 ∨ s = s + 1 + 2 ∨ s = s + 1 + 3 := h; omega)
  have ha_g1 := ha.fr fg1 (fun h => by have h9 : (s + 1) = s + 1 + 1 ∨ (s + 1) = s + 1 + 2 ∨ (s + 1) = s + 1 + 3 := h; omega)
  have hg_g1 := hg.fr fg1 (fun h => by have h9 : (s + 5) = s + 1 + 1 ∨ (s + 5) = s + 1 + 2 ∨ (s + 5) = s + 1 + 3 := h; omega)
  refine mn_aload_n 0 dSt_forgetAll_7 rfl rfl ?_
  refine mn_iconst (v := 0) dSt_forgetAll_8 (by decide) ?_
  refine mn_putf okSt 2 lSt_24 (by decide) rfl hS_g1 rfl rfl (Nat.le_of_ble_eq_true rfl) dSt_forgetAll_9 ?_
  obtain ⟨g2, eg2⟩ : ∃ gg_, gg_ = mn_set g1 s (.inr (6, [.ref (s + 1), .ref (s + 5), .int 0, .int (nI len)])) := ⟨_, rfl⟩
  refine mn_R.toG eg2 ?_
  have hS_g2 : mn_at g2 s (.inr (6, [.ref (s + 1), .ref (s + 5), .int 0, .int (nI len)])) := by rw [eg2]; exact hS_g1.same
  have ha_g2 : mn_at g2 (s + 1) (.inr (2, [.ref (s + 1 + 3), .ref (s + 1 + 1), .ref (s + 1 + 2), .int (nI m), .int (nI w)])) := by rw [eg2]; exact ha_g1.off (by omega)
  have hb_g2 : mn_at g2 (s + 1 + 3) (.inl (0, 1340, .inl (fun j => nI ((blN pb 1340) j)))) := by rw [eg2]; exact hb_g1.off (by omega)
  have hl_g2 : mn_at g2 (s + 1 + 1) (.inl (0, 60, .inl (fun j => nI ((blN ln 60) j)))) := by rw [eg2]; exact hl_g1.off (by omega)
  have hs_g2 : mn_at g2 (s + 1 + 2) (.inl (0, 60, .inl (fun j => nI ((blN sn 60) j)))) := by rw [eg2]; exact hs_g1.off (by omega)
  have hg_g2 : mn_at g2 (s + 5) (.inl (0, 20, .inl (fun j => nI (bg j)))) := by rw [eg2]; exact hg_g1.off (by omega)
  refine mn_aload_n 0 dSt_forgetAll_12 rfl rfl ?_
  refine mn_iconst (v := 0) dSt_forgetAll_13 (by decide) ?_
  refine mn_putf okSt 3 lSt_28 (by decide) rfl hS_g2 rfl rfl (Nat.le_of_ble_eq_true rfl) dSt_forgetAll_14 ?_
  obtain ⟨g3, eg3⟩ : ∃ gg_, gg_ = mn_set g2 s (.inr (6, [.ref (s + 1), .ref (s + 5), .int 0, .int 0])) := ⟨_, rfl⟩
  refine mn_R.toG eg3 ?_
  have hS_g3 : mn_at g3 s (.inr (6, [.ref (s + 1), .ref (s + 5), .int 0, .int 0])) := by rw [eg3]; exact hS_g2.same
  have ha_g3 : mn_at g3 (s + 1) (.inr (2, [.ref (s + 1 + 3), .ref (s + 1 + 1), .ref (s + 1 + 2), .int (nI m), .int (nI w)])) := by rw [eg3]; exact ha_g2.off (by omega)
  have hb_g3 : mn_at g3 (s + 1 + 3) (.inl (0, 1340, .inl (fun j => nI ((blN pb 1340) j)))) := by rw [eg3]; exact hb_g2.off (by omega)
  have hl_g3 : mn_at g3 (s + 1 + 1) (.inl (0, 60, .inl (fun j => nI ((blN ln 60) j)))) := by rw [eg3]; exact hl_g2.off (by omega)
  have hs_g3 : mn_at g3 (s + 1 + 2) (.inl (0, 60, .inl (fun j => nI ((blN sn 60) j)))) := by rw [eg3]; exact hs_g2.off (by omega)
  have hg_g3 : mn_at g3 (s + 5) (.inl (0, 20, .inl (fun j => nI (bg j)))) := by rw [eg3]; exact hg_g2.off (by omega)
  exact mn_vret rfl dSt_forgetAll_17 ⟨rfl, (((mn_fr.rf.tr (fg1.mo (fun q h => by have h9 : q = s + 1 + 1 ∨ q = s + 1 + 2 ∨ q = s + 1 + 3 := h; show q = s ∨ q = s + 1 + 1 ∨ q = s + 1 + 2 ∨ q = s + 1 + 3; omega))).set eg2 (by show s = s ∨ s = s + 1 + 1 ∨ s = s + 1 + 2 ∨ s = s + 1 + 3; omega)).set eg3 (by show s = s ∨ s = s + 1 + 1 ∨ s = s + 1 + 2 ∨ s = s + 1 + 3; omega)), hS_g3, hb_g3, hl_g3, hs_g3⟩
set_option maxRecDepth 100000 in
theorem c_S_pieceCount {E : mn_En} {g : mn_H} {s e len m w : Nat} {pb ln sn bg : Nat → Nat} (hS : mn_at g s (.inr (6, [.ref (s + 1), .ref (s + 5), .int (nI e), .int (nI len)]))) (ha : mn_at g (s + 1) (.inr (2, [.ref (s + 1 + 3), .ref (s + 1 + 1), .ref (s + 1 + 2), .int (nI m), .int (nI w)]))) (hb : mn_at g (s + 1 + 3) (.inl (0, 1340, .inl (fun j => nI (pb j))))) (hl : mn_at g (s + 1 + 1) (.inl (0, 60, .inl (fun j => nI (ln j))))) (hs : mn_at g (s + 1 + 2) (.inl (0, 60, .inl (fun j => nI (sn j))))) (hg : mn_at g (s + 5) (.inl (0, 20, .inl (fun j => nI (bg j))))) {u : Nat} (hu0 : 8 ≤ u) (hu : u ≤ 68) (hlen : len < 1340) : mn_R E MSt_pieceCount 1 21 0 0 0 [(0, .ref s), (1, .int (nI u))] [] g (mn_is (some (.int (nI (pcN len u)))) g) := by
  have hq := Nat.div_le_self (len + u - 1) u
  refine mn_iconst (v := 1) dSt_pieceCount_0 (by decide) ?_
  refine mn_aload_n 0 dSt_pieceCount_1 rfl rfl ?_
  refine mn_get okSt 3 lSt_28 (by decide) hS rfl dSt_pieceCount_2 ?_
  refine mn_iload_n 1 dSt_pieceCount_5 rfl rfl ?_
  refine mn_iadd (z := nI (len + u)) dSt_pieceCount_6 (nI_add len u) ?_
  refine mn_iconst (v := 1) dSt_pieceCount_7 (by decide) ?_
  refine mn_isub (z := nI ((len + u) - 1)) dSt_pieceCount_8 (pk_sub (a := len + u) (b := 1) (by omega)) ?_
  refine mn_iload_n 1 dSt_pieceCount_9 rfl rfl ?_
  refine mn_cS (d' := 0) (w' := 0) (As := [.int (nI ((len + u) - 1)), .int (nI u)]) (stk' := [.int (nI (((len + u) - 1) / u)), .int 1]) okBy_quotient lSt_52 dSt_pieceCount_10 rfl rfl (Nat.le_of_ble_eq_true rfl) (Nat.le_of_ble_eq_true rfl) (by decide) (c_quotient (x := (len + u) - 1) (y := u) (by omega) (by omega)) rfl ?_
  refine mn_max (z := nI (pcN len u)) (mn_maxN (a := 1) (b := (len + u - 1) / u) (by omega) (by generalize (len + u - 1) / u = z at *; omega)) lSt_58 max_st math_ini max_code (Nat.le_of_ble_eq_true rfl) (by decide) (by decide) dSt_pieceCount_13 ?_
  exact mn_iret rfl dSt_pieceCount_16 ⟨rfl, rfl⟩
set_option maxRecDepth 100000 in
theorem c_S_startIn_l {E : mn_En} {g : mn_H} {s e len m w : Nat} {pb ln sn bg : Nat → Nat} (hS : mn_at g s (.inr (6, [.ref (s + 1), .ref (s + 5), .int (nI e), .int (nI len)]))) (ha : mn_at g (s + 1) (.inr (2, [.ref (s + 1 + 3), .ref (s + 1 + 1), .ref (s + 1 + 2), .int (nI m), .int (nI w)]))) (hb : mn_at g (s + 1 + 3) (.inl (0, 1340, .inl (fun j => nI (pb j))))) (hl : mn_at g (s + 1 + 1) (.inl (0, 60, .inl (fun j => nI (ln j))))) (hs : mn_at g (s + 1 + 2) (.inl (0, 60, .inl (fun j => nI (sn j))))) (hg : mn_at g (s + 5) (.inl (0, 20, .inl (fun j => nI (bg j))))) {fr u : Nat} (he : e ≤ 20) (hfr : fr < 100000) (hu : u ≤ 68) (hbg : ∀ k, bg k < 100000) : ∀ (f k : Nat), k ≤ e → e - k < f → mn_R E MSt_startIn 0 0 0 0 2 [(0, .ref s), (1, .int (nI fr)), (2, .int (nI u)), (3, .int (nI k))] [] g (mn_is (some (.int (nI (siK bg e fr u (e - k))))) g) := by
  intro f
  induction f with
  | zero => intro k h1 h2; exact absurd h2 (by omega)
  | succ f ih =>
    intro k h1 h2
    have hbk := hbg k
    refine mn_iload_n 3 dSt_startIn_2 rfl rfl ?_
    refine mn_aload_n 0 dSt_startIn_3 rfl rfl ?_
    refine mn_get okSt 2 lSt_24 (by decide) hS rfl dSt_startIn_4 ?_
    refine mn_icmp_ge 46 dSt_startIn_7 (by decide) (fun c1 => ?_) (fun c1 => ?_)
    · have c1 := (nI_leI (a := e) (b := k) (by omega) (by omega)).mp c1
      refine mn_sipush (v := 255) dSt_startIn_46 (by decide) ?_
      exact mn_iret rfl dSt_startIn_49 ⟨by rw [show e - k = 0 by omega]; rfl, rfl⟩
    · have c1 := mt (nI_leI (a := e) (b := k) (by omega) (by omega)).mpr c1
      refine mn_iload_n 3 dSt_startIn_10 rfl rfl ?_
      refine mn_bipush (v := 20) dSt_startIn_11 (by decide) ?_
      refine mn_icmp_ge 46 dSt_startIn_13 (by decide) (fun c2 => ?_) (fun c2 => ?_)
      · have c2 := (nI_leI (a := 20) (b := k) (by omega) (by omega)).mp c2
        refine mn_sipush (v := 255) dSt_startIn_46 (by decide) ?_
        exact mn_iret rfl dSt_startIn_49 ⟨by rw [show e - k = 0 by omega]; rfl, rfl⟩
      · have c2 := mt (nI_leI (a := 20) (b := k) (by omega) (by omega)).mpr c2
        refine mn_aload_n 0 dSt_startIn_16 rfl rfl ?_
        refine mn_get okSt 1 lSt_20 (by decide) hS rfl dSt_startIn_17 ?_
        refine mn_iload_n 3 dSt_startIn_20 rfl rfl ?_
        refine mn_ialdN (j := k) hg rfl (by omega) (by omega) dSt_startIn_21 ?_
        refine mn_iload_n 1 dSt_startIn_22 rfl rfl ?_
        rcases Nat.lt_or_ge (bg k) fr with hc | hc
        · refine mn_isub (z := nI (bg k) - nI fr) dSt_startIn_23 rfl ?_
          refine mn_istore (ls' := [(0, .ref s), (1, .int (nI fr)), (2, .int (nI u)), (3, .int (nI k)), (4, .int (nI (bg k) - nI fr))]) dSt_startIn_24 (by decide) rfl ?_
          refine mn_iload 4 dSt_startIn_26 rfl ?_
          refine mn_if_lt 40 dSt_startIn_28 (by decide) (fun c3 => ?_) (fun c3 => ?_)
          · refine mn_iinc (v := nI (k + 1)) (ls' := [(0, .ref s), (1, .int (nI fr)), (2, .int (nI u)), (3, .int (nI (k + 1))), (4, .int (nI (bg k) - nI fr))]) 3 dSt_startIn_40 rfl (nI_add k 1) (by decide) rfl ?_
            refine mn_goto 2 dSt_startIn_43 (by decide) ?_
            refine mn_R.sub [0, 1, 2, 3] (ls' := [(0, .ref s), (1, .int (nI fr)), (2, .int (nI u)), (3, .int (nI (k + 1)))]) rfl ?_
            refine mn_R.post (Q' := mn_is (some (.int (nI (siK bg e fr u (e - (k + 1)))))) g) (ih (k + 1) (by omega) (by omega)) (fun v g' hq => ⟨?_, hq.2⟩)
            rw [hq.1, show e - k = (e - (k + 1)) + 1 by omega, siK, show e - (e - (k + 1) + 1) = k by omega, if_neg (by omega)]
          · exact absurd (pk_sneg (by omega) hc) c3
        · refine mn_isub (z := nI (bg k - fr)) dSt_startIn_23 (pk_sub (a := bg k) (b := fr) hc) ?_
          refine mn_istore (ls' := [(0, .ref s), (1, .int (nI fr)), (2, .int (nI u)), (3, .int (nI k)), (4, .int (nI (bg k - fr)))]) dSt_startIn_24 (by decide) rfl ?_
          refine mn_iload 4 dSt_startIn_26 rfl ?_
          refine mn_if_lt 40 dSt_startIn_28 (by decide) (fun c4 => ?_) (fun c4 => ?_)
          · exact absurd c4 (nI_pos (by omega))
          · refine mn_iload 4 dSt_startIn_31 rfl ?_
            refine mn_iload_n 2 dSt_startIn_33 rfl rfl ?_
            refine mn_icmp_ge 40 dSt_startIn_34 (by decide) (fun c5 => ?_) (fun c5 => ?_)
            · have c5 := (nI_leI (a := u) (b := (bg k - fr)) (by omega) (by omega)).mp c5
              refine mn_iinc (v := nI (k + 1)) (ls' := [(0, .ref s), (1, .int (nI fr)), (2, .int (nI u)), (3, .int (nI (k + 1))), (4, .int (nI (bg k - fr)))]) 3 dSt_startIn_40 rfl (nI_add k 1) (by decide) rfl ?_
              refine mn_goto 2 dSt_startIn_43 (by decide) ?_
              refine mn_R.sub [0, 1, 2, 3] (ls' := [(0, .ref s), (1, .int (nI fr)), (2, .int (nI u)), (3, .int (nI (k + 1)))]) rfl ?_
              refine mn_R.post (Q' := mn_is (some (.int (nI (siK bg e fr u (e - (k + 1)))))) g) (ih (k + 1) (by omega) (by omega)) (fun v g' hq => ⟨?_, hq.2⟩)
              rw [hq.1, show e - k = (e - (k + 1)) + 1 by omega, siK, show e - (e - (k + 1) + 1) = k by omega, if_neg (by omega)]
            · have c5 := mt (nI_leI (a := u) (b := (bg k - fr)) (by omega) (by omega)).mpr c5
              refine mn_iload 4 dSt_startIn_37 rfl ?_
              exact mn_iret rfl dSt_startIn_39 ⟨by rw [show e - k = (e - k - 1) + 1 by omega]; unfold siK; rw [show e - (e - k - 1 + 1) = k by omega, if_pos ⟨hc, by omega⟩], rfl⟩
set_option maxRecDepth 100000 in
theorem c_S_startIn {E : mn_En} {g : mn_H} {s e len m w : Nat} {pb ln sn bg : Nat → Nat} (hS : mn_at g s (.inr (6, [.ref (s + 1), .ref (s + 5), .int (nI e), .int (nI len)]))) (ha : mn_at g (s + 1) (.inr (2, [.ref (s + 1 + 3), .ref (s + 1 + 1), .ref (s + 1 + 2), .int (nI m), .int (nI w)]))) (hb : mn_at g (s + 1 + 3) (.inl (0, 1340, .inl (fun j => nI (pb j))))) (hl : mn_at g (s + 1 + 1) (.inl (0, 60, .inl (fun j => nI (ln j))))) (hs : mn_at g (s + 1 + 2) (.inl (0, 60, .inl (fun j => nI (sn j))))) (hg : mn_at g (s + 5) (.inl (0, 20, .inl (fun j => nI (bg j))))) {fr u : Nat} (he : e ≤ 20) (hfr : fr < 100000) (hu : u ≤ 68) (hbg : ∀ k, bg k < 100000) : mn_R E MSt_startIn 0 0 0 0 0 [(0, .ref s), (1, .int (nI fr)), (2, .int (nI u))] [] g (mn_is (some (.int (nI (siK bg e fr u e)))) g) := by
  refine mn_iconst (v := 0) dSt_startIn_0 (by decide) ?_
  refine mn_istore_n (ls' := [(0, .ref s), (1, .int (nI fr)), (2, .int (nI u)), (3, .int 0)]) dSt_startIn_1 rfl (by decide) rfl ?_
  exact c_S_startIn_l hS ha hb hl hs hg he hfr hu hbg (e + 1) 0 (by omega) (by omega)
set_option maxRecDepth 100000 in
theorem c_S_divide_l {E : mn_En} {g : mn_H} {s e len m w : Nat} {pb ln sn bg : Nat → Nat} {u : Nat} (he : e ≤ 20) (hbg : ∀ k, bg k < 100000) (hu0 : 8 ≤ u) (hu : u ≤ 68) (hlen : len < 1340) (hmm : pcN len u ≤ 60) : ∀ (k n : Nat) (g0 : mn_H), n ≤ pcN len u → pcN len u - n < k → mn_fr (fun q => q = s + 1 ∨ q = s + 1 + 1 ∨ q = s + 1 + 2 ∨ q = s + 1 + 3) g g0 → mn_at g0 s (.inr (6, [.ref (s + 1), .ref (s + 5), .int (nI e), .int (nI len)])) → mn_at g0 (s + 1) (.inr (2, [.ref (s + 1 + 3), .ref (s + 1 + 1), .ref (s + 1 + 2), .int (nI (pcN len u)), .int (nI u)])) → mn_at g0 (s + 1 + 3) (.inl (0, 1340, .inl (fun j => nI (pb j)))) → mn_at g0 (s + 1 + 1) (.inl (0, 60, .inl (fun j => nI ((dvL ln len u n) j)))) → mn_at g0 (s + 1 + 2) (.inl (0, 60, .inl (fun j => nI ((dvS sn bg e u n) j)))) → mn_at g0 (s + 5) (.inl (0, 20, .inl (fun j => nI (bg j)))) → mn_R E MSt_divide 2 45 0 0 27 [(0, .ref s), (1, .int (nI u)), (2, .int (nI n))] [] g0 (fun x g' => x = none ∧ mn_fr (fun q => q = s + 1 ∨ q = s + 1 + 1 ∨ q = s + 1 + 2 ∨ q = s + 1 + 3) g g' ∧ mn_at g' (s + 1) (.inr (2, [.ref (s + 1 + 3), .ref (s + 1 + 1), .ref (s + 1 + 2), .int (nI (pcN len u)), .int (nI u)])) ∧ mn_at g' (s + 1 + 3) (.inl (0, 1340, .inl (fun j => nI (pb j)))) ∧ mn_at g' (s + 1 + 1) (.inl (0, 60, .inl (fun j => nI (dvL ln len u (pcN len u) j)))) ∧ mn_at g' (s + 1 + 2) (.inl (0, 60, .inl (fun j => nI (dvS sn bg e u (pcN len u) j))))) := by
  intro k
  induction k with
  | zero => intro n g0 h1 h2; exact absurd h2 (by omega)
  | succ k ih =>
    intro n g0 h1 h2 hf hS ha hb hl hs hg
    refine mn_iload_n 2 dSt_divide_27 rfl rfl ?_
    refine mn_aload_n 0 dSt_divide_28 rfl rfl ?_
    refine mn_get okSt 0 lSt_16 (by decide) hS rfl dSt_divide_29 ?_
    refine mn_get okPc 3 lSt_69 (by decide) ha rfl dSt_divide_32 ?_
    refine mn_icmp_ge 84 dSt_divide_35 (by decide) (fun c1 => ?_) (fun c1 => ?_)
    · have c1 := (nI_leI (a := (pcN len u)) (b := n) (by omega) (by omega)).mp c1
      exact mn_vret rfl dSt_divide_84 (by obtain rfl : n = pcN len u := (by omega); exact ⟨rfl, hf, ha, hb, hl, hs⟩)
    · have c1 := mt (nI_leI (a := (pcN len u)) (b := n) (by omega) (by omega)).mpr c1
      have hnu := pcN_le (u := u) (by omega) (show n < pcN len u by omega)
      refine mn_aload_n 0 dSt_divide_38 rfl rfl ?_
      refine mn_get okSt 0 lSt_16 (by decide) hS rfl dSt_divide_39 ?_
      refine mn_iload_n 2 dSt_divide_42 rfl rfl ?_
      refine mn_bipush (v := 6) dSt_divide_43 (by decide) ?_
      refine mn_iload_n 1 dSt_divide_45 rfl rfl ?_
      refine mn_aload_n 0 dSt_divide_46 rfl rfl ?_
      refine mn_get okSt 3 lSt_28 (by decide) hS rfl dSt_divide_47 ?_
      refine mn_iload_n 2 dSt_divide_50 rfl rfl ?_
      refine mn_iload_n 1 dSt_divide_51 rfl rfl ?_
      refine mn_imul (z := nI (n * u)) dSt_divide_52 (pk_mul n u) ?_
      refine mn_isub (z := nI (len - (n * u))) dSt_divide_53 (pk_sub (a := len) (b := n * u) (by omega)) ?_
      refine mn_min (z := nI (min u (len - (n * u)))) (mn_minN (by omega) (by omega)) lSt_66 min_st math_ini min_code (Nat.le_of_ble_eq_true rfl) (by decide) (by decide) dSt_divide_54 ?_
      refine mn_callV (d' := 1) (w' := 22) (nc' := 0) (ns' := 0) (As := [.int (nI n), .int 6, .int (nI (min u (len - (n * u))))]) (st := []) okPc_putPart lSt_75 dSt_divide_57 ha rfl rfl rfl rfl (Nat.le_of_ble_eq_true rfl) (Nat.le_of_ble_eq_true rfl) (by decide) (c_P_putPartN ha hb hl hs (by omega) (n := n) (i := 6) (v := min u (len - (n * u))) (by omega) (by omega) (by first | assumption | omega) (by first | assumption | omega)) (fun v g2 hq => ?_)
      obtain ⟨rfl, fg2, hb_g2, hl_g2, hs_g2⟩ := hq
      have hb_g2 : mn_at g2 (s + 1 + 3) (.inl (0, 1340, .inl (fun j => nI (pb j)))) := hb_g2
      have hl_g2 : mn_at g2 (s + 1 + 1) (.inl (0, 60, .inl (fun j => nI ((va_up (dvL ln len u n) n (min u (len - (n * u)))) j)))) := hl_g2
      have hs_g2 : mn_at g2 (s + 1 + 2) (.inl (0, 60, .inl (fun j => nI ((dvS sn bg e u n) j)))) := hs_g2
      show mn_R E MSt_divide 2 45 _ _ 60 [(0, .ref s), (1, .int (nI u)), (2, .int (nI n))] [] g2 _
      have hS_g2 := hS.fr fg2 (fun h => by have h9 : s = s + 1 + 1 ∨ s = s + 1 + 2 ∨ s = s + 1 + 3 := h; omega)
      have ha_g2 := ha.fr fg2 (fun h => by have h9 : (s + 1) = s + 1 + 1 ∨ (s + 1) = s + 1 + 2 ∨ (s + 1) = s + 1 + 3 := h; omega)
      have hg_g2 := hg.fr fg2 (fun h => by have h9 : (s + 5) = s + 1 + 1 ∨ (s + 5) = s + 1 + 2 ∨ (s + 5) = s + 1 + 3 := h; omega)
      refine mn_aload_n 0 dSt_divide_60 rfl rfl ?_
      refine mn_get okSt 0 lSt_16 (by decide) hS_g2 rfl dSt_divide_61 ?_
      refine mn_iload_n 2 dSt_divide_64 rfl rfl ?_
      refine mn_bipush (v := 7) dSt_divide_65 (by decide) ?_
      refine mn_aload_n 0 dSt_divide_67 rfl rfl ?_
      refine mn_iload_n 2 dSt_divide_68 rfl rfl ?_
      refine mn_iload_n 1 dSt_divide_69 rfl rfl ?_
      refine mn_imul (z := nI (n * u)) dSt_divide_70 (pk_mul n u) ?_
      refine mn_iload_n 1 dSt_divide_71 rfl rfl ?_
      refine mn_cV (d' := 0) (w' := 0) (As := [.int (nI (n * u)), .int (nI u)]) (stk' := [.int (nI (siK bg e (n * u) u e)), .int 7, .int (nI n), .ref (s + 1)]) okSt_startIn lSt_79 dSt_divide_72 hS_g2 rfl rfl rfl rfl (Nat.le_of_ble_eq_true rfl) (Nat.le_of_ble_eq_true rfl) (by decide) (c_S_startIn hS_g2 ha_g2 hb_g2 hl_g2 hs_g2 hg_g2 (fr := n * u) (u := u) he (by omega) hu hbg) rfl ?_
      refine mn_callV (d' := 1) (w' := 22) (nc' := 0) (ns' := 0) (As := [.int (nI n), .int 7, .int (nI (siK bg e (n * u) u e))]) (st := []) okPc_putPart lSt_75 dSt_divide_75 ha_g2 rfl rfl rfl rfl (Nat.le_of_ble_eq_true rfl) (Nat.le_of_ble_eq_true rfl) (by decide) (c_P_putPartN ha_g2 hb_g2 hl_g2 hs_g2 (by omega) (n := n) (i := 7) (v := siK bg e (n * u) u e) (by omega) (by omega) (by first | assumption | omega) (by first | assumption | omega)) (fun v g3 hq => ?_)
      obtain ⟨rfl, fg3, hb_g3, hl_g3, hs_g3⟩ := hq
      have hb_g3 : mn_at g3 (s + 1 + 3) (.inl (0, 1340, .inl (fun j => nI (pb j)))) := hb_g3
      have hl_g3 : mn_at g3 (s + 1 + 1) (.inl (0, 60, .inl (fun j => nI ((va_up (dvL ln len u n) n (min u (len - (n * u)))) j)))) := hl_g3
      have hs_g3 : mn_at g3 (s + 1 + 2) (.inl (0, 60, .inl (fun j => nI ((va_up (dvS sn bg e u n) n (siK bg e (n * u) u e)) j)))) := hs_g3
      show mn_R E MSt_divide 2 45 _ _ 78 [(0, .ref s), (1, .int (nI u)), (2, .int (nI n))] [] g3 _
      have hS_g3 := hS_g2.fr fg3 (fun h => by have h9 : s = s + 1 + 1 ∨ s = s + 1 + 2 ∨ s = s + 1 + 3 := h; omega)
      have ha_g3 := ha_g2.fr fg3 (fun h => by have h9 : (s + 1) = s + 1 + 1 ∨ (s + 1) = s + 1 + 2 ∨ (s + 1) = s + 1 + 3 := h; omega)
      have hg_g3 := hg_g2.fr fg3 (fun h => by have h9 : (s + 5) = s + 1 + 1 ∨ (s + 5) = s + 1 + 2 ∨ (s + 5) = s + 1 + 3 := h; omega)
      refine mn_iinc (v := nI (n + 1)) (ls' := [(0, .ref s), (1, .int (nI u)), (2, .int (nI (n + 1)))]) 2 dSt_divide_78 rfl (nI_add n 1) (by decide) rfl ?_
      refine mn_goto 27 dSt_divide_81 (by decide) ?_
      rw [dvL_s] at hl_g3
      rw [dvS_s] at hs_g3
      exact ih (n + 1) g3 (by omega) (by omega) ((hf.tr (fg2.mo (fun q h => by have h9 : q = s + 1 + 1 ∨ q = s + 1 + 2 ∨ q = s + 1 + 3 := h; show q = s + 1 ∨ q = s + 1 + 1 ∨ q = s + 1 + 2 ∨ q = s + 1 + 3; omega))).tr (fg3.mo (fun q h => by have h9 : q = s + 1 + 1 ∨ q = s + 1 + 2 ∨ q = s + 1 + 3 := h; show q = s + 1 ∨ q = s + 1 + 1 ∨ q = s + 1 + 2 ∨ q = s + 1 + 3; omega))) hS_g3 ha_g3 hb_g3 hl_g3 hs_g3 hg_g3
set_option maxRecDepth 100000 in
theorem c_S_divide {E : mn_En} {g : mn_H} {s e len m w : Nat} {pb ln sn bg : Nat → Nat} (hS : mn_at g s (.inr (6, [.ref (s + 1), .ref (s + 5), .int (nI e), .int (nI len)]))) (ha : mn_at g (s + 1) (.inr (2, [.ref (s + 1 + 3), .ref (s + 1 + 1), .ref (s + 1 + 2), .int (nI m), .int (nI w)]))) (hb : mn_at g (s + 1 + 3) (.inl (0, 1340, .inl (fun j => nI (pb j))))) (hl : mn_at g (s + 1 + 1) (.inl (0, 60, .inl (fun j => nI (ln j))))) (hs : mn_at g (s + 1 + 2) (.inl (0, 60, .inl (fun j => nI (sn j))))) (hg : mn_at g (s + 5) (.inl (0, 20, .inl (fun j => nI (bg j))))) {u : Nat} (he : e ≤ 20) (hbg : ∀ k, bg k < 100000) (hu0 : 8 ≤ u) (hu : u ≤ 68) (hlen : len < 1340) (hmm : pcN len u ≤ 60) : mn_R E MSt_divide 2 45 0 0 0 [(0, .ref s), (1, .int (nI u))] [] g (fun x g' => x = none ∧ mn_fr (fun q => q = s + 1 ∨ q = s + 1 + 1 ∨ q = s + 1 + 2 ∨ q = s + 1 + 3) g g' ∧ mn_at g' (s + 1) (.inr (2, [.ref (s + 1 + 3), .ref (s + 1 + 1), .ref (s + 1 + 2), .int (nI (pcN len u)), .int (nI u)])) ∧ mn_at g' (s + 1 + 3) (.inl (0, 1340, .inl (fun j => nI (pb j)))) ∧ mn_at g' (s + 1 + 1) (.inl (0, 60, .inl (fun j => nI (dvL ln len u (pcN len u) j)))) ∧ mn_at g' (s + 1 + 2) (.inl (0, 60, .inl (fun j => nI (dvS sn bg e u (pcN len u) j))))) := by
  refine mn_aload_n 0 dSt_divide_0 rfl rfl ?_
  refine mn_get okSt 0 lSt_16 (by decide) hS rfl dSt_divide_1 ?_
  refine mn_bipush (v := 60) dSt_divide_4 (by decide) ?_
  refine mn_aload_n 0 dSt_divide_6 rfl rfl ?_
  refine mn_iload_n 1 dSt_divide_7 rfl rfl ?_
  refine mn_cV (d' := 1) (w' := 21) (As := [.int (nI u)]) (stk' := [.int (nI (pcN len u)), .int 60, .ref (s + 1)]) okSt_pieceCount lSt_63 dSt_divide_8 hS rfl rfl rfl rfl (Nat.le_of_ble_eq_true rfl) (Nat.le_of_ble_eq_true rfl) (by decide) (c_S_pieceCount hS ha hb hl hs hg (u := u) hu0 hu hlen) rfl ?_
  refine mn_min (z := nI (pcN len u)) ((mn_minN (a := 60) (b := pcN len u) (by omega) (by omega)).trans (by rw [Nat.min_eq_right hmm])) lSt_66 min_st math_ini min_code (Nat.le_of_ble_eq_true rfl) (by decide) (by decide) dSt_divide_11 ?_
  refine mn_putf okPc 3 lSt_69 (by decide) rfl ha rfl rfl (Nat.le_of_ble_eq_true rfl) dSt_divide_14 ?_
  obtain ⟨g1, eg1⟩ : ∃ gg_, gg_ = mn_set g (s + 1) (.inr (2, [.ref (s + 1 + 3), .ref (s + 1 + 1), .ref (s + 1 + 2), .int (nI (pcN len u)), .int (nI w)])) := ⟨_, rfl⟩
  refine mn_R.toG eg1 ?_
  have hS_g1 : mn_at g1 s (.inr (6, [.ref (s + 1), .ref (s + 5), .int (nI e), .int (nI len)])) := by rw [eg1]; exact hS.off (by omega)
  have ha_g1 : mn_at g1 (s + 1) (.inr (2, [.ref (s + 1 + 3), .ref (s + 1 + 1), .ref (s + 1 + 2), .int (nI (pcN len u)), .int (nI w)])) := by rw [eg1]; exact ha.same
  have hb_g1 : mn_at g1 (s + 1 + 3) (.inl (0, 1340, .inl (fun j => nI (pb j)))) := by rw [eg1]; exact hb.off (by omega)
  have hl_g1 : mn_at g1 (s + 1 + 1) (.inl (0, 60, .inl (fun j => nI (ln j)))) := by rw [eg1]; exact hl.off (by omega)
  have hs_g1 : mn_at g1 (s + 1 + 2) (.inl (0, 60, .inl (fun j => nI (sn j)))) := by rw [eg1]; exact hs.off (by omega)
  have hg_g1 : mn_at g1 (s + 5) (.inl (0, 20, .inl (fun j => nI (bg j)))) := by rw [eg1]; exact hg.off (by omega)
  refine mn_aload_n 0 dSt_divide_17 rfl rfl ?_
  refine mn_get okSt 0 lSt_16 (by decide) hS_g1 rfl dSt_divide_18 ?_
  refine mn_iload_n 1 dSt_divide_21 rfl rfl ?_
  refine mn_putf okPc 4 lSt_72 (by decide) rfl ha_g1 rfl rfl (Nat.le_of_ble_eq_true rfl) dSt_divide_22 ?_
  obtain ⟨g2, eg2⟩ : ∃ gg_, gg_ = mn_set g1 (s + 1) (.inr (2, [.ref (s + 1 + 3), .ref (s + 1 + 1), .ref (s + 1 + 2), .int (nI (pcN len u)), .int (nI u)])) := ⟨_, rfl⟩
  refine mn_R.toG eg2 ?_
  have hS_g2 : mn_at g2 s (.inr (6, [.ref (s + 1), .ref (s + 5), .int (nI e), .int (nI len)])) := by rw [eg2]; exact hS_g1.off (by omega)
  have ha_g2 : mn_at g2 (s + 1) (.inr (2, [.ref (s + 1 + 3), .ref (s + 1 + 1), .ref (s + 1 + 2), .int (nI (pcN len u)), .int (nI u)])) := by rw [eg2]; exact ha_g1.same
  have hb_g2 : mn_at g2 (s + 1 + 3) (.inl (0, 1340, .inl (fun j => nI (pb j)))) := by rw [eg2]; exact hb_g1.off (by omega)
  have hl_g2 : mn_at g2 (s + 1 + 1) (.inl (0, 60, .inl (fun j => nI (ln j)))) := by rw [eg2]; exact hl_g1.off (by omega)
  have hs_g2 : mn_at g2 (s + 1 + 2) (.inl (0, 60, .inl (fun j => nI (sn j)))) := by rw [eg2]; exact hs_g1.off (by omega)
  have hg_g2 : mn_at g2 (s + 5) (.inl (0, 20, .inl (fun j => nI (bg j)))) := by rw [eg2]; exact hg_g1.off (by omega)
  refine mn_iconst (v := 0) dSt_divide_25 (by decide) ?_
  refine mn_istore_n (ls' := [(0, .ref s), (1, .int (nI u)), (2, .int 0)]) dSt_divide_26 rfl (by decide) rfl ?_
  have h1 : mn_at g2 (s + 1 + 1) (.inl (0, 60, .inl (fun j => nI (dvL ln len u 0 j)))) := by rw [dvL_0]; exact hl_g2
  have h2 : mn_at g2 (s + 1 + 2) (.inl (0, 60, .inl (fun j => nI (dvS sn bg e u 0 j)))) := by rw [dvS_0]; exact hs_g2
  exact c_S_divide_l (m := 0) (w := 0) he hbg hu0 hu hlen hmm (pcN len u + 1) 0 g2 (by omega) (by omega) ((mn_fr.rf.set eg1 (by show (s + 1) = s + 1 ∨ (s + 1) = s + 1 + 1 ∨ (s + 1) = s + 1 + 2 ∨ (s + 1) = s + 1 + 3; omega)).set eg2 (by show (s + 1) = s + 1 ∨ (s + 1) = s + 1 + 1 ∨ (s + 1) = s + 1 + 2 ∨ (s + 1) = s + 1 + 3; omega)) hS_g2 ha_g2 hb_g2 h1 h2 hg_g2
