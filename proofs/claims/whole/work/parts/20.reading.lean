set_option maxRecDepth 100000 in
theorem c_Rd_placeOf {E : mn_En} {g : mn_H} {rd sz rp pr ma : Nat} {dn : Int32} {fp : Nat → Int32} (hR : mn_at g rd (.inr (3, [.ref (rd + 1), .ref (rd + 5), .ref (rd + 6), .int dn, .int (nI sz), .int (nI rp), .int (nI pr), .int (nI ma)]))) (hp : mn_at g (rd + 5) (.inl (0, 63, .inl fp))) {j : Nat} (hj : j < 63) : mn_R E MRd_placeOf 0 0 0 0 0 [(0, .ref rd), (1, .int (nI j))] [] g (mn_is (some (.int (fp j))) g) := by
  refine mn_iload_n 1 dRd_placeOf_0 rfl rfl ?_
  refine mn_if_lt 13 dRd_placeOf_1 (by decide) (fun c1 => ?_) (fun c1 => ?_)
  · exact absurd c1 (nI_pos (by omega))
  · refine mn_iload_n 1 dRd_placeOf_4 rfl rfl ?_
    refine mn_aload_n 0 dRd_placeOf_5 rfl rfl ?_
    refine mn_get okRd 1 lRd_20 (by decide) hR rfl dRd_placeOf_6 ?_
    refine mn_alen hp rfl dRd_placeOf_9 ?_
    refine mn_icmp_lt 18 dRd_placeOf_10 (by decide) (fun c2 => ?_) (fun c2 => ?_)
    · have c2 := (nI_ltI (a := j) (b := 63) (by omega) (by omega)).mp c2
      refine mn_aload_n 0 dRd_placeOf_18 rfl rfl ?_
      refine mn_get okRd 1 lRd_20 (by decide) hR rfl dRd_placeOf_19 ?_
      refine mn_iload_n 1 dRd_placeOf_22 rfl rfl ?_
      refine mn_ialdN (j := j) hp rfl (by omega) (by omega) dRd_placeOf_23 ?_
      exact mn_iret rfl dRd_placeOf_24 ⟨rfl, rfl⟩
    · have c2 := mt (nI_ltI (a := j) (b := 63) (by omega) (by omega)).mpr c2
      refine mn_bipush (v := (-2)) dRd_placeOf_13 (by decide) ?_
      refine mn_goto 24 dRd_placeOf_15 (by decide) ?_
      exact mn_iret rfl dRd_placeOf_24 (absurd hj (by omega))
set_option maxRecDepth 100000 in
theorem c_Rd_setPlace {E : mn_En} {g : mn_H} {rd sz rp pr ma : Nat} {dn : Int32} {fp : Nat → Int32} (hR : mn_at g rd (.inr (3, [.ref (rd + 1), .ref (rd + 5), .ref (rd + 6), .int dn, .int (nI sz), .int (nI rp), .int (nI pr), .int (nI ma)]))) (hp : mn_at g (rd + 5) (.inl (0, 63, .inl fp))) {j : Nat} (hj : j < 63) {x : Int32} : mn_R E MRd_setPlace 0 0 0 0 0 [(0, .ref rd), (1, .int (nI j)), (2, .int x)] [] g (mn_is none (mn_set g (rd + 5) (.inl (0, 63, .inl (upd fp j x))))) := by
  refine mn_iload_n 1 dRd_setPlace_0 rfl rfl ?_
  refine mn_if_lt 20 dRd_setPlace_1 (by decide) (fun c1 => ?_) (fun c1 => ?_)
  · exact absurd c1 (nI_pos (by omega))
  · refine mn_iload_n 1 dRd_setPlace_4 rfl rfl ?_
    refine mn_aload_n 0 dRd_setPlace_5 rfl rfl ?_
    refine mn_get okRd 1 lRd_20 (by decide) hR rfl dRd_setPlace_6 ?_
    refine mn_alen hp rfl dRd_setPlace_9 ?_
    refine mn_icmp_ge 20 dRd_setPlace_10 (by decide) (fun c2 => ?_) (fun c2 => ?_)
    · have c2 := (nI_leI (a := 63) (b := j) (by omega) (by omega)).mp c2
      exact mn_vret rfl dRd_setPlace_20 (absurd hj (by omega))
    · have c2 := mt (nI_leI (a := 63) (b := j) (by omega) (by omega)).mpr c2
      refine mn_aload_n 0 dRd_setPlace_13 rfl rfl ?_
      refine mn_get okRd 1 lRd_20 (by decide) hR rfl dRd_setPlace_14 ?_
      refine mn_iload_n 1 dRd_setPlace_17 rfl rfl ?_
      refine mn_iload_n 2 dRd_setPlace_18 rfl rfl ?_
      refine mn_iastN (j := j) hp rfl (by omega) (by omega) dRd_setPlace_19 ?_
      obtain ⟨g3, eg3⟩ : ∃ gg_, gg_ = mn_set g (rd + 5) (.inl (0, 63, .inl (upd fp j x))) := ⟨_, rfl⟩
      refine mn_R.toG eg3 ?_
      have hR_g3 : mn_at g3 rd (.inr (3, [.ref (rd + 1), .ref (rd + 5), .ref (rd + 6), .int dn, .int (nI sz), .int (nI rp), .int (nI pr), .int (nI ma)])) := by rw [eg3]; exact hR.off (by omega)
      have hp_g3 : mn_at g3 (rd + 5) (.inl (0, 63, .inl (upd fp j x))) := by rw [eg3]; exact hp.same
      exact mn_vret rfl dRd_setPlace_20 ⟨rfl, eg3⟩
set_option maxRecDepth 100000 in
theorem c_Rd_begin {E : mn_En} {g : mn_H} {rd sz rp pr ma m w : Nat} {dn : Int32} {pb ln sn : Nat → Nat} {pl : Nat → Option Nat} (hR : mn_at g rd (.inr (3, [.ref (rd + 1), .ref (rd + 5), .ref (rd + 6), .int dn, .int (nI sz), .int (nI rp), .int (nI pr), .int (nI ma)]))) (ha : mn_at g (rd + 1) (.inr (2, [.ref (rd + 1 + 3), .ref (rd + 1 + 1), .ref (rd + 1 + 2), .int (nI m), .int (nI w)]))) (hb : mn_at g (rd + 1 + 3) (.inl (0, 4080, .inl (fun j => nI (pb j))))) (hl : mn_at g (rd + 1 + 1) (.inl (0, 60, .inl (fun j => nI (ln j))))) (hs : mn_at g (rd + 1 + 2) (.inl (0, 60, .inl (fun j => nI (sn j))))) (hp : mn_at g (rd + 5) (.inl (0, 63, .inl (fun j => onI (pl j))))) {v t : Nat} {b : Nat → Nat} (hv0 : mn_at g v (.inr (8, [.ref (v + 1), .int (nI t)]))) (hv1 : mn_at g (v + 1) (.inl (0, 80, .inl (fun j => nI (b j))))) (hbz : ∀ j, 4080 ≤ j → pb j = 0) (hlz : ∀ j, 60 ≤ j → ln j = 0) (hsz0 : ∀ j, 60 ≤ j → sn j = 0) (hpz : ∀ j, 63 ≤ j → pl j = some 0) (ht : 12 ≤ t) (ht2 : t ≤ 80) (hrv : rd + 11 < v ∨ v + 1 < rd) : mn_R E MRd_begin 2 43 0 0 0 [(0, .ref rd), (1, .ref v)] [] g (fun x g' => x = none ∧ mn_fr (fun q => q = rd ∨ q = rd + 1 ∨ q = rd + 1 + 1 ∨ q = rd + 1 + 2 ∨ q = rd + 1 + 3 ∨ q = rd + 5) g g' ∧ mn_at g' rd (.inr (3, [.ref (rd + 1), .ref (rd + 5), .ref (rd + 6), .int dn, .int (nI t), .int (nI (b 5)), .int 0, .int 0])) ∧ mn_at g' (rd + 1) (.inr (2, [.ref (rd + 1 + 3), .ref (rd + 1 + 1), .ref (rd + 1 + 2), .int (nI (b 4)), .int (nI (t - 12))])) ∧ mn_at g' (rd + 1 + 3) (.inl (0, 4080, .inl (fun j => nI ((fun _ => 0) j)))) ∧ mn_at g' (rd + 1 + 1) (.inl (0, 60, .inl (fun j => nI ((fun _ => 0) j)))) ∧ mn_at g' (rd + 1 + 2) (.inl (0, 60, .inl (fun j => nI ((fun _ => 0) j)))) ∧ mn_at g' (rd + 5) (.inl (0, 63, .inl (fun j => onI (pl0 j))))) := by
  refine mn_aload_n 0 dRd_begin_0 rfl rfl ?_
  refine mn_get okRd 0 lRd_14 (by decide) hR rfl dRd_begin_1 ?_
  refine mn_callV (d' := 1) (w' := 23) (nc' := 0) (ns' := 0) (As := []) (st := []) okPc_blank lRd_73 dRd_begin_4 ha rfl rfl rfl rfl (Nat.le_of_ble_eq_true rfl) (Nat.le_of_ble_eq_true rfl) (by decide) (by have h0 := c_P_blank (E := E) ha hb hl hs (by omega); rw [flN_nI, flN_nI, flN_nI] at h0; exact h0) (fun v g1 hq => ?_)
  obtain ⟨rfl, fg1, hb_g1, hl_g1, hs_g1⟩ := hq
  have hb_g1 : mn_at g1 (rd + 1 + 3) (.inl (0, 4080, .inl (fun j => nI ((blN pb 4080) j)))) := hb_g1
  have hl_g1 : mn_at g1 (rd + 1 + 1) (.inl (0, 60, .inl (fun j => nI ((blN ln 60) j)))) := hl_g1
  have hs_g1 : mn_at g1 (rd + 1 + 2) (.inl (0, 60, .inl (fun j => nI ((blN sn 60) j)))) := hs_g1
  show mn_R E MRd_begin 2 43 _ _ 7 [(0, .ref rd), (1, .ref v)] [] g1 _
  have hR_g1 := hR.fr fg1 (fun h => by have h9 : rd = rd + 1 + 1 ∨ rd = rd + 1 + 2 ∨ rd = rd + 1 + 3 := h; omega)
  have ha_g1 := ha.fr fg1 (fun h => by have h9 : (rd + 1) = rd + 1 + 1 ∨ (rd + 1) = rd + 1 + 2 ∨ (rd + 1) = rd + 1 + 3 := h; omega)
  have hp_g1 := hp.fr fg1 (fun h => by have h9 : (rd + 5) = rd + 1 + 1 ∨ (rd + 5) = rd + 1 + 2 ∨ (rd + 5) = rd + 1 + 3 := h; omega)
  have hv0_g1 := hv0.fr fg1 (fun h => by have h9 : v = rd + 1 + 1 ∨ v = rd + 1 + 2 ∨ v = rd + 1 + 3 := h; omega)
  have hv1_g1 := hv1.fr fg1 (fun h => by have h9 : (v + 1) = rd + 1 + 1 ∨ (v + 1) = rd + 1 + 2 ∨ (v + 1) = rd + 1 + 3 := h; omega)
  refine mn_aload_n 0 dRd_begin_7 rfl rfl ?_
  refine mn_get okRd 1 lRd_20 (by decide) hR_g1 rfl dRd_begin_8 ?_
  refine mn_bipush (v := (-2)) dRd_begin_11 (by decide) ?_
  refine mn_callS (d' := 0) (w' := 0) (nc' := 0) (ns' := 0) (As := [.ref (rd + 5), .int (-2)]) (st := []) okAr_fill lRd_76 dRd_begin_13 rfl rfl (Nat.le_of_ble_eq_true rfl) (Nat.le_of_ble_eq_true rfl) (by decide) (by have h0 := c_fill (E := E) (x := -2) hp_g1 (by omega); rw [fl_pl0 hpz] at h0; exact h0) (fun v g2 hq => ?_)
  obtain ⟨rfl, fg2, hp_g2⟩ := hq
  have hp_g2 : mn_at g2 (rd + 5) (.inl (0, 63, .inl (fun j => onI (pl0 j)))) := hp_g2
  show mn_R E MRd_begin 2 43 _ _ 16 [(0, .ref rd), (1, .ref v)] [] g2 _
  have hR_g2 := hR_g1.fr fg2 (fun h => by have h9 : rd = rd + 5 := h; omega)
  have ha_g2 := ha_g1.fr fg2 (fun h => by have h9 : (rd + 1) = rd + 5 := h; omega)
  have hb_g2 := hb_g1.fr fg2 (fun h => by have h9 : (rd + 1 + 3) = rd + 5 := h; omega)
  have hl_g2 := hl_g1.fr fg2 (fun h => by have h9 : (rd + 1 + 1) = rd + 5 := h; omega)
  have hs_g2 := hs_g1.fr fg2 (fun h => by have h9 : (rd + 1 + 2) = rd + 5 := h; omega)
  have hv0_g2 := hv0_g1.fr fg2 (fun h => by have h9 : v = rd + 5 := h; omega)
  have hv1_g2 := hv1_g1.fr fg2 (fun h => by have h9 : (v + 1) = rd + 5 := h; omega)
  refine mn_aload_n 0 dRd_begin_16 rfl rfl ?_
  refine mn_aload_n 1 dRd_begin_17 rfl rfl ?_
  refine mn_get okVo 1 lRd_82 (by decide) hv0_g2 rfl dRd_begin_18 ?_
  refine mn_putf okRd 4 lRd_85 (by decide) rfl hR_g2 rfl rfl (Nat.le_of_ble_eq_true rfl) dRd_begin_21 ?_
  obtain ⟨g3, eg3⟩ : ∃ gg_, gg_ = mn_set g2 rd (.inr (3, [.ref (rd + 1), .ref (rd + 5), .ref (rd + 6), .int dn, .int (nI t), .int (nI rp), .int (nI pr), .int (nI ma)])) := ⟨_, rfl⟩
  refine mn_R.toG eg3 ?_
  have hR_g3 : mn_at g3 rd (.inr (3, [.ref (rd + 1), .ref (rd + 5), .ref (rd + 6), .int dn, .int (nI t), .int (nI rp), .int (nI pr), .int (nI ma)])) := by rw [eg3]; exact hR_g2.same
  have ha_g3 : mn_at g3 (rd + 1) (.inr (2, [.ref (rd + 1 + 3), .ref (rd + 1 + 1), .ref (rd + 1 + 2), .int (nI m), .int (nI w)])) := by rw [eg3]; exact ha_g2.off (by omega)
  have hb_g3 : mn_at g3 (rd + 1 + 3) (.inl (0, 4080, .inl (fun j => nI ((blN pb 4080) j)))) := by rw [eg3]; exact hb_g2.off (by omega)
  have hl_g3 : mn_at g3 (rd + 1 + 1) (.inl (0, 60, .inl (fun j => nI ((blN ln 60) j)))) := by rw [eg3]; exact hl_g2.off (by omega)
  have hs_g3 : mn_at g3 (rd + 1 + 2) (.inl (0, 60, .inl (fun j => nI ((blN sn 60) j)))) := by rw [eg3]; exact hs_g2.off (by omega)
  have hp_g3 : mn_at g3 (rd + 5) (.inl (0, 63, .inl (fun j => onI (pl0 j)))) := by rw [eg3]; exact hp_g2.off (by omega)
  have hv0_g3 : mn_at g3 v (.inr (8, [.ref (v + 1), .int (nI t)])) := by rw [eg3]; exact hv0_g2.off (by omega)
  have hv1_g3 : mn_at g3 (v + 1) (.inl (0, 80, .inl (fun j => nI (b j)))) := by rw [eg3]; exact hv1_g2.off (by omega)
  refine mn_aload_n 0 dRd_begin_24 rfl rfl ?_
  refine mn_aload_n 1 dRd_begin_25 rfl rfl ?_
  refine mn_iconst (v := 5) dRd_begin_26 (by decide) ?_
  refine mn_cV (d' := 0) (w' := 0) (As := [.int 5]) (stk' := [.int (nI (b 5)), .ref rd]) okVo_byteAt lRd_86 dRd_begin_27 hv0_g3 rfl rfl rfl rfl (Nat.le_of_ble_eq_true rfl) (Nat.le_of_ble_eq_true rfl) (by decide) (c_V_byteAt hv0_g3 hv1_g3 (j := 5) (by omega)) rfl ?_
  refine mn_putf okRd 5 lRd_90 (by decide) rfl hR_g3 rfl rfl (Nat.le_of_ble_eq_true rfl) dRd_begin_30 ?_
  obtain ⟨g4, eg4⟩ : ∃ gg_, gg_ = mn_set g3 rd (.inr (3, [.ref (rd + 1), .ref (rd + 5), .ref (rd + 6), .int dn, .int (nI t), .int (nI (b 5)), .int (nI pr), .int (nI ma)])) := ⟨_, rfl⟩
  refine mn_R.toG eg4 ?_
  have hR_g4 : mn_at g4 rd (.inr (3, [.ref (rd + 1), .ref (rd + 5), .ref (rd + 6), .int dn, .int (nI t), .int (nI (b 5)), .int (nI pr), .int (nI ma)])) := by rw [eg4]; exact hR_g3.same
  have ha_g4 : mn_at g4 (rd + 1) (.inr (2, [.ref (rd + 1 + 3), .ref (rd + 1 + 1), .ref (rd + 1 + 2), .int (nI m), .int (nI w)])) := by rw [eg4]; exact ha_g3.off (by omega)
  have hb_g4 : mn_at g4 (rd + 1 + 3) (.inl (0, 4080, .inl (fun j => nI ((blN pb 4080) j)))) := by rw [eg4]; exact hb_g3.off (by omega)
  have hl_g4 : mn_at g4 (rd + 1 + 1) (.inl (0, 60, .inl (fun j => nI ((blN ln 60) j)))) := by rw [eg4]; exact hl_g3.off (by omega)
  have hs_g4 : mn_at g4 (rd + 1 + 2) (.inl (0, 60, .inl (fun j => nI ((blN sn 60) j)))) := by rw [eg4]; exact hs_g3.off (by omega)
  have hp_g4 : mn_at g4 (rd + 5) (.inl (0, 63, .inl (fun j => onI (pl0 j)))) := by rw [eg4]; exact hp_g3.off (by omega)
  have hv0_g4 : mn_at g4 v (.inr (8, [.ref (v + 1), .int (nI t)])) := by rw [eg4]; exact hv0_g3.off (by omega)
  have hv1_g4 : mn_at g4 (v + 1) (.inl (0, 80, .inl (fun j => nI (b j)))) := by rw [eg4]; exact hv1_g3.off (by omega)
  refine mn_aload_n 0 dRd_begin_33 rfl rfl ?_
  refine mn_get okRd 0 lRd_14 (by decide) hR_g4 rfl dRd_begin_34 ?_
  refine mn_aload_n 1 dRd_begin_37 rfl rfl ?_
  refine mn_iconst (v := 4) dRd_begin_38 (by decide) ?_
  refine mn_cV (d' := 0) (w' := 0) (As := [.int 4]) (stk' := [.int (nI (b 4)), .ref (rd + 1)]) okVo_byteAt lRd_86 dRd_begin_39 hv0_g4 rfl rfl rfl rfl (Nat.le_of_ble_eq_true rfl) (Nat.le_of_ble_eq_true rfl) (by decide) (c_V_byteAt hv0_g4 hv1_g4 (j := 4) (by omega)) rfl ?_
  refine mn_putf okPc 3 lRd_93 (by decide) rfl ha_g4 rfl rfl (Nat.le_of_ble_eq_true rfl) dRd_begin_42 ?_
  obtain ⟨g5, eg5⟩ : ∃ gg_, gg_ = mn_set g4 (rd + 1) (.inr (2, [.ref (rd + 1 + 3), .ref (rd + 1 + 1), .ref (rd + 1 + 2), .int (nI (b 4)), .int (nI w)])) := ⟨_, rfl⟩
  refine mn_R.toG eg5 ?_
  have hR_g5 : mn_at g5 rd (.inr (3, [.ref (rd + 1), .ref (rd + 5), .ref (rd + 6), .int dn, .int (nI t), .int (nI (b 5)), .int (nI pr), .int (nI ma)])) := by rw [eg5]; exact hR_g4.off (by omega)
  have ha_g5 : mn_at g5 (rd + 1) (.inr (2, [.ref (rd + 1 + 3), .ref (rd + 1 + 1), .ref (rd + 1 + 2), .int (nI (b 4)), .int (nI w)])) := by rw [eg5]; exact ha_g4.same
  have hb_g5 : mn_at g5 (rd + 1 + 3) (.inl (0, 4080, .inl (fun j => nI ((blN pb 4080) j)))) := by rw [eg5]; exact hb_g4.off (by omega)
  have hl_g5 : mn_at g5 (rd + 1 + 1) (.inl (0, 60, .inl (fun j => nI ((blN ln 60) j)))) := by rw [eg5]; exact hl_g4.off (by omega)
  have hs_g5 : mn_at g5 (rd + 1 + 2) (.inl (0, 60, .inl (fun j => nI ((blN sn 60) j)))) := by rw [eg5]; exact hs_g4.off (by omega)
  have hp_g5 : mn_at g5 (rd + 5) (.inl (0, 63, .inl (fun j => onI (pl0 j)))) := by rw [eg5]; exact hp_g4.off (by omega)
  have hv0_g5 : mn_at g5 v (.inr (8, [.ref (v + 1), .int (nI t)])) := by rw [eg5]; exact hv0_g4.off (by omega)
  have hv1_g5 : mn_at g5 (v + 1) (.inl (0, 80, .inl (fun j => nI (b j)))) := by rw [eg5]; exact hv1_g4.off (by omega)
  refine mn_aload_n 0 dRd_begin_45 rfl rfl ?_
  refine mn_get okRd 0 lRd_14 (by decide) hR_g5 rfl dRd_begin_46 ?_
  refine mn_aload_n 0 dRd_begin_49 rfl rfl ?_
  refine mn_get okRd 4 lRd_85 (by decide) hR_g5 rfl dRd_begin_50 ?_
  refine mn_bipush (v := 12) dRd_begin_53 (by decide) ?_
  refine mn_isub (z := nI (t - 12)) dRd_begin_55 (pk_sub (a := t) (b := 12) (by omega)) ?_
  refine mn_putf okPc 4 lRd_96 (by decide) rfl ha_g5 rfl rfl (Nat.le_of_ble_eq_true rfl) dRd_begin_56 ?_
  obtain ⟨g6, eg6⟩ : ∃ gg_, gg_ = mn_set g5 (rd + 1) (.inr (2, [.ref (rd + 1 + 3), .ref (rd + 1 + 1), .ref (rd + 1 + 2), .int (nI (b 4)), .int (nI (t - 12))])) := ⟨_, rfl⟩
  refine mn_R.toG eg6 ?_
  have hR_g6 : mn_at g6 rd (.inr (3, [.ref (rd + 1), .ref (rd + 5), .ref (rd + 6), .int dn, .int (nI t), .int (nI (b 5)), .int (nI pr), .int (nI ma)])) := by rw [eg6]; exact hR_g5.off (by omega)
  have ha_g6 : mn_at g6 (rd + 1) (.inr (2, [.ref (rd + 1 + 3), .ref (rd + 1 + 1), .ref (rd + 1 + 2), .int (nI (b 4)), .int (nI (t - 12))])) := by rw [eg6]; exact ha_g5.same
  have hb_g6 : mn_at g6 (rd + 1 + 3) (.inl (0, 4080, .inl (fun j => nI ((blN pb 4080) j)))) := by rw [eg6]; exact hb_g5.off (by omega)
  have hl_g6 : mn_at g6 (rd + 1 + 1) (.inl (0, 60, .inl (fun j => nI ((blN ln 60) j)))) := by rw [eg6]; exact hl_g5.off (by omega)
  have hs_g6 : mn_at g6 (rd + 1 + 2) (.inl (0, 60, .inl (fun j => nI ((blN sn 60) j)))) := by rw [eg6]; exact hs_g5.off (by omega)
  have hp_g6 : mn_at g6 (rd + 5) (.inl (0, 63, .inl (fun j => onI (pl0 j)))) := by rw [eg6]; exact hp_g5.off (by omega)
  have hv0_g6 : mn_at g6 v (.inr (8, [.ref (v + 1), .int (nI t)])) := by rw [eg6]; exact hv0_g5.off (by omega)
  have hv1_g6 : mn_at g6 (v + 1) (.inl (0, 80, .inl (fun j => nI (b j)))) := by rw [eg6]; exact hv1_g5.off (by omega)
  refine mn_aload_n 0 dRd_begin_59 rfl rfl ?_
  refine mn_iconst (v := 0) dRd_begin_60 (by decide) ?_
  refine mn_putf okRd 6 lRd_66 (by decide) rfl hR_g6 rfl rfl (Nat.le_of_ble_eq_true rfl) dRd_begin_61 ?_
  obtain ⟨g7, eg7⟩ : ∃ gg_, gg_ = mn_set g6 rd (.inr (3, [.ref (rd + 1), .ref (rd + 5), .ref (rd + 6), .int dn, .int (nI t), .int (nI (b 5)), .int 0, .int (nI ma)])) := ⟨_, rfl⟩
  refine mn_R.toG eg7 ?_
  have hR_g7 : mn_at g7 rd (.inr (3, [.ref (rd + 1), .ref (rd + 5), .ref (rd + 6), .int dn, .int (nI t), .int (nI (b 5)), .int 0, .int (nI ma)])) := by rw [eg7]; exact hR_g6.same
  have ha_g7 : mn_at g7 (rd + 1) (.inr (2, [.ref (rd + 1 + 3), .ref (rd + 1 + 1), .ref (rd + 1 + 2), .int (nI (b 4)), .int (nI (t - 12))])) := by rw [eg7]; exact ha_g6.off (by omega)
  have hb_g7 : mn_at g7 (rd + 1 + 3) (.inl (0, 4080, .inl (fun j => nI ((blN pb 4080) j)))) := by rw [eg7]; exact hb_g6.off (by omega)
  have hl_g7 : mn_at g7 (rd + 1 + 1) (.inl (0, 60, .inl (fun j => nI ((blN ln 60) j)))) := by rw [eg7]; exact hl_g6.off (by omega)
  have hs_g7 : mn_at g7 (rd + 1 + 2) (.inl (0, 60, .inl (fun j => nI ((blN sn 60) j)))) := by rw [eg7]; exact hs_g6.off (by omega)
  have hp_g7 : mn_at g7 (rd + 5) (.inl (0, 63, .inl (fun j => onI (pl0 j)))) := by rw [eg7]; exact hp_g6.off (by omega)
  have hv0_g7 : mn_at g7 v (.inr (8, [.ref (v + 1), .int (nI t)])) := by rw [eg7]; exact hv0_g6.off (by omega)
  have hv1_g7 : mn_at g7 (v + 1) (.inl (0, 80, .inl (fun j => nI (b j)))) := by rw [eg7]; exact hv1_g6.off (by omega)
  refine mn_aload_n 0 dRd_begin_64 rfl rfl ?_
  refine mn_iconst (v := 0) dRd_begin_65 (by decide) ?_
  refine mn_putf okRd 7 lRd_70 (by decide) rfl hR_g7 rfl rfl (Nat.le_of_ble_eq_true rfl) dRd_begin_66 ?_
  obtain ⟨g8, eg8⟩ : ∃ gg_, gg_ = mn_set g7 rd (.inr (3, [.ref (rd + 1), .ref (rd + 5), .ref (rd + 6), .int dn, .int (nI t), .int (nI (b 5)), .int 0, .int 0])) := ⟨_, rfl⟩
  refine mn_R.toG eg8 ?_
  have hR_g8 : mn_at g8 rd (.inr (3, [.ref (rd + 1), .ref (rd + 5), .ref (rd + 6), .int dn, .int (nI t), .int (nI (b 5)), .int 0, .int 0])) := by rw [eg8]; exact hR_g7.same
  have ha_g8 : mn_at g8 (rd + 1) (.inr (2, [.ref (rd + 1 + 3), .ref (rd + 1 + 1), .ref (rd + 1 + 2), .int (nI (b 4)), .int (nI (t - 12))])) := by rw [eg8]; exact ha_g7.off (by omega)
  have hb_g8 : mn_at g8 (rd + 1 + 3) (.inl (0, 4080, .inl (fun j => nI ((blN pb 4080) j)))) := by rw [eg8]; exact hb_g7.off (by omega)
  have hl_g8 : mn_at g8 (rd + 1 + 1) (.inl (0, 60, .inl (fun j => nI ((blN ln 60) j)))) := by rw [eg8]; exact hl_g7.off (by omega)
  have hs_g8 : mn_at g8 (rd + 1 + 2) (.inl (0, 60, .inl (fun j => nI ((blN sn 60) j)))) := by rw [eg8]; exact hs_g7.off (by omega)
  have hp_g8 : mn_at g8 (rd + 5) (.inl (0, 63, .inl (fun j => onI (pl0 j)))) := by rw [eg8]; exact hp_g7.off (by omega)
  have hv0_g8 : mn_at g8 v (.inr (8, [.ref (v + 1), .int (nI t)])) := by rw [eg8]; exact hv0_g7.off (by omega)
  have hv1_g8 : mn_at g8 (v + 1) (.inl (0, 80, .inl (fun j => nI (b j)))) := by rw [eg8]; exact hv1_g7.off (by omega)
  exact mn_vret rfl dRd_begin_69 (by have e1 := blN_z hbz; have e2 := blN_z hlz; have e3 := blN_z hsz0; have q1 := hb_g8; have q2 := hl_g8; have q3 := hs_g8; rw [e1] at q1; rw [e2] at q2; rw [e3] at q3; exact ⟨rfl, ((((((((mn_fr.rf.tr (fg1.mo (fun q h => by have h9 : q = rd + 1 + 1 ∨ q = rd + 1 + 2 ∨ q = rd + 1 + 3 := h; show q = rd ∨ q = rd + 1 ∨ q = rd + 1 + 1 ∨ q = rd + 1 + 2 ∨ q = rd + 1 + 3 ∨ q = rd + 5; omega))).tr (fg2.mo (fun q h => by have h9 : q = rd + 5 := h; show q = rd ∨ q = rd + 1 ∨ q = rd + 1 + 1 ∨ q = rd + 1 + 2 ∨ q = rd + 1 + 3 ∨ q = rd + 5; omega))).set eg3 (by show rd = rd ∨ rd = rd + 1 ∨ rd = rd + 1 + 1 ∨ rd = rd + 1 + 2 ∨ rd = rd + 1 + 3 ∨ rd = rd + 5; omega)).set eg4 (by show rd = rd ∨ rd = rd + 1 ∨ rd = rd + 1 + 1 ∨ rd = rd + 1 + 2 ∨ rd = rd + 1 + 3 ∨ rd = rd + 5; omega)).set eg5 (by show (rd + 1) = rd ∨ (rd + 1) = rd + 1 ∨ (rd + 1) = rd + 1 + 1 ∨ (rd + 1) = rd + 1 + 2 ∨ (rd + 1) = rd + 1 + 3 ∨ (rd + 1) = rd + 5; omega)).set eg6 (by show (rd + 1) = rd ∨ (rd + 1) = rd + 1 ∨ (rd + 1) = rd + 1 + 1 ∨ (rd + 1) = rd + 1 + 2 ∨ (rd + 1) = rd + 1 + 3 ∨ (rd + 1) = rd + 5; omega)).set eg7 (by show rd = rd ∨ rd = rd + 1 ∨ rd = rd + 1 + 1 ∨ rd = rd + 1 + 2 ∨ rd = rd + 1 + 3 ∨ rd = rd + 5; omega)).set eg8 (by show rd = rd ∨ rd = rd + 1 ∨ rd = rd + 1 + 1 ∨ rd = rd + 1 + 2 ∨ rd = rd + 1 + 3 ∨ rd = rd + 5; omega)), hR_g8, ha_g8, q1, q2, q3, hp_g8⟩)
set_option maxRecDepth 100000 in
theorem c_Rd_take_l {E : mn_En} {g : mn_H} {rd sz rp pr ma m w : Nat} {dn : Int32} {pb ln sn : Nat → Nat} {pl : Nat → Option Nat} {v t k n : Nat} {b : Nat → Nat} (hm : m ≤ 60) (hw : sz = w + 12) (hw0 : 0 < w) (hsz : sz ≤ 80) (hmw : m * w ≤ 4080) (hn : n < m) (hrv : rd + 11 < v ∨ v + 1 < rd) : ∀ (fu i : Nat) (g0 : mn_H), 6 ≤ i → i ≤ sz → sz - i < fu → mn_fr (fun q => q = rd + 1 + 1 ∨ q = rd + 1 + 2 ∨ q = rd + 1 + 3) g g0 → mn_at g0 rd (.inr (3, [.ref (rd + 1), .ref (rd + 5), .ref (rd + 6), .int dn, .int (nI sz), .int (nI rp), .int (nI pr), .int (nI ma)])) → mn_at g0 (rd + 1) (.inr (2, [.ref (rd + 1 + 3), .ref (rd + 1 + 1), .ref (rd + 1 + 2), .int (nI m), .int (nI w)])) → mn_at g0 (rd + 1 + 3) (.inl (0, 4080, .inl (fun j => nI ((tkB pb n w i b) j)))) → mn_at g0 (rd + 1 + 1) (.inl (0, 60, .inl (fun j => nI ((tkL ln n i b) j)))) → mn_at g0 (rd + 1 + 2) (.inl (0, 60, .inl (fun j => nI ((tkS sn n i b) j)))) → mn_at g0 (rd + 5) (.inl (0, 63, .inl (fun j => onI (pl j)))) → mn_at g0 v (.inr (8, [.ref (v + 1), .int (nI t)])) → mn_at g0 (v + 1) (.inl (0, 80, .inl (fun j => nI (b j)))) → mn_R E MRd_take 2 45 0 0 48 [(0, .ref rd), (1, .ref v), (2, .int (nI k)), (3, .int (nI n)), (4, .int (nI i))] [] g0 (fun x g' => x = none ∧ mn_fr (fun q => q = rd + 1 + 1 ∨ q = rd + 1 + 2 ∨ q = rd + 1 + 3) g g' ∧ mn_at g' rd (.inr (3, [.ref (rd + 1), .ref (rd + 5), .ref (rd + 6), .int dn, .int (nI sz), .int (nI rp), .int (nI pr), .int (nI ma)])) ∧ mn_at g' (rd + 1) (.inr (2, [.ref (rd + 1 + 3), .ref (rd + 1 + 1), .ref (rd + 1 + 2), .int (nI m), .int (nI w)])) ∧ mn_at g' (rd + 1 + 3) (.inl (0, 4080, .inl (fun j => nI ((tkB pb n w sz b) j)))) ∧ mn_at g' (rd + 1 + 1) (.inl (0, 60, .inl (fun j => nI ((tkL ln n sz b) j)))) ∧ mn_at g' (rd + 1 + 2) (.inl (0, 60, .inl (fun j => nI ((tkS sn n sz b) j)))) ∧ mn_at g' (rd + 5) (.inl (0, 63, .inl (fun j => onI (pl j))))) := by
  intro fu
  induction fu with
  | zero => intro i g0 h0 h1 h2; exact absurd h2 (by omega)
  | succ fu ih =>
    intro i g0 h0 h1 h2 hfr hR ha hb hl hs hp hv0 hv1
    have hwn := Nat.mul_le_mul_right w (show n + 1 ≤ m by omega)
    rw [Nat.succ_mul] at hwn
    refine mn_iload 4 dRd_take_48 rfl ?_
    refine mn_aload_n 0 dRd_take_50 rfl rfl ?_
    refine mn_get okRd 4 lRd_85 (by decide) hR rfl dRd_take_51 ?_
    refine mn_icmp_ge 79 dRd_take_54 (by decide) (fun c1 => ?_) (fun c1 => ?_)
    · have c1 := (nI_leI (a := sz) (b := i) (by omega) (by omega)).mp c1
      exact mn_vret rfl dRd_take_79 (by obtain rfl : i = sz := (by omega); exact ⟨rfl, hfr, hR, ha, hb, hl, hs, hp⟩)
    · have c1 := mt (nI_leI (a := sz) (b := i) (by omega) (by omega)).mpr c1
      refine mn_aload_n 0 dRd_take_57 rfl rfl ?_
      refine mn_get okRd 0 lRd_14 (by decide) hR rfl dRd_take_58 ?_
      refine mn_iload_n 3 dRd_take_61 rfl rfl ?_
      refine mn_iload 4 dRd_take_62 rfl ?_
      refine mn_aload_n 1 dRd_take_64 rfl rfl ?_
      refine mn_iload 4 dRd_take_65 rfl ?_
      refine mn_cV (d' := 0) (w' := 0) (As := [.int (nI i)]) (stk' := [.int (nI (b i)), .int (nI i), .int (nI n), .ref (rd + 1)]) okVo_byteAt lRd_86 dRd_take_67 hv0 rfl rfl rfl rfl (Nat.le_of_ble_eq_true rfl) (Nat.le_of_ble_eq_true rfl) (by decide) (c_V_byteAt hv0 hv1 (j := i) (by omega)) rfl ?_
      refine mn_callV (d' := 1) (w' := 22) (nc' := 0) (ns' := 0) (As := [.int (nI n), .int (nI i), .int (nI (b i))]) (st := []) okPc_putPart lRd_106 dRd_take_70 ha rfl rfl rfl rfl (Nat.le_of_ble_eq_true rfl) (Nat.le_of_ble_eq_true rfl) (by decide) (c_P_putPartN ha hb hl hs (by omega) (n := n) (i := i) (v := b i) (by omega) (by omega) (by first | assumption | omega) (by first | assumption | omega)) (fun v g2 hq => ?_)
      obtain ⟨rfl, fg2, hb_g2, hl_g2, hs_g2⟩ := hq
      have hb_g2 : mn_at g2 (rd + 1 + 3) (.inl (0, 4080, .inl (fun j => nI ((ppBN w n i (b i) (tkB pb n w i b)) j)))) := hb_g2
      have hl_g2 : mn_at g2 (rd + 1 + 1) (.inl (0, 60, .inl (fun j => nI ((ppLN n i (b i) (tkL ln n i b)) j)))) := hl_g2
      have hs_g2 : mn_at g2 (rd + 1 + 2) (.inl (0, 60, .inl (fun j => nI ((ppSN n i (b i) (tkS sn n i b)) j)))) := hs_g2
      show mn_R E MRd_take 2 45 _ _ 73 [(0, .ref rd), (1, .ref v), (2, .int (nI k)), (3, .int (nI n)), (4, .int (nI i))] [] g2 _
      have hR_g2 := hR.fr fg2 (fun h => by have h9 : rd = rd + 1 + 1 ∨ rd = rd + 1 + 2 ∨ rd = rd + 1 + 3 := h; omega)
      have ha_g2 := ha.fr fg2 (fun h => by have h9 : (rd + 1) = rd + 1 + 1 ∨ (rd + 1) = rd + 1 + 2 ∨ (rd + 1) = rd + 1 + 3 := h; omega)
      have hp_g2 := hp.fr fg2 (fun h => by have h9 : (rd + 5) = rd + 1 + 1 ∨ (rd + 5) = rd + 1 + 2 ∨ (rd + 5) = rd + 1 + 3 := h; omega)
      have hv0_g2 := hv0.fr fg2 (fun h => by have h9 : v = rd + 1 + 1 ∨ v = rd + 1 + 2 ∨ v = rd + 1 + 3 := h; omega)
      have hv1_g2 := hv1.fr fg2 (fun h => by have h9 : (v + 1) = rd + 1 + 1 ∨ (v + 1) = rd + 1 + 2 ∨ (v + 1) = rd + 1 + 3 := h; omega)
      refine mn_iinc (v := nI (i + 1)) (ls' := [(0, .ref rd), (1, .ref v), (2, .int (nI k)), (3, .int (nI n)), (4, .int (nI (i + 1)))]) 4 dRd_take_73 rfl (nI_add i 1) (by decide) rfl ?_
      refine mn_goto 48 dRd_take_76 (by decide) ?_
      rw [tkB_s _ _ _ _ h0] at hb_g2
      rw [tkL_s _ _ _ h0] at hl_g2
      rw [tkS_s _ _ _ h0] at hs_g2
      exact ih (i + 1) g2 (by omega) (by omega) (by omega) (hfr.tr (fg2.mo (fun q h => by have h9 : q = rd + 1 + 1 ∨ q = rd + 1 + 2 ∨ q = rd + 1 + 3 := h; show q = rd + 1 + 1 ∨ q = rd + 1 + 2 ∨ q = rd + 1 + 3; omega))) hR_g2 ha_g2 hb_g2 hl_g2 hs_g2 hp_g2 hv0_g2 hv1_g2
set_option maxRecDepth 100000 in
theorem c_Rd_take_old {E : mn_En} {g : mn_H} {rd sz rp pr ma m w : Nat} {dn : Int32} {pb ln sn : Nat → Nat} {pl : Nat → Option Nat} (hR : mn_at g rd (.inr (3, [.ref (rd + 1), .ref (rd + 5), .ref (rd + 6), .int dn, .int (nI sz), .int (nI rp), .int (nI pr), .int (nI ma)]))) (ha : mn_at g (rd + 1) (.inr (2, [.ref (rd + 1 + 3), .ref (rd + 1 + 1), .ref (rd + 1 + 2), .int (nI m), .int (nI w)]))) (hb : mn_at g (rd + 1 + 3) (.inl (0, 4080, .inl (fun j => nI (pb j))))) (hl : mn_at g (rd + 1 + 1) (.inl (0, 60, .inl (fun j => nI (ln j))))) (hs : mn_at g (rd + 1 + 2) (.inl (0, 60, .inl (fun j => nI (sn j))))) (hp : mn_at g (rd + 5) (.inl (0, 63, .inl (fun j => onI (pl j))))) {v t : Nat} {b : Nat → Nat} (hv0 : mn_at g v (.inr (8, [.ref (v + 1), .int (nI t)]))) (hv1 : mn_at g (v + 1) (.inl (0, 80, .inl (fun j => nI (b j))))) {k : Nat} (hm : m ≤ 60) (hw : sz = w + 12) (hw0 : 0 < w) (hsz : sz ≤ 80) (hmw : m * w ≤ 4080) (hrv : rd + 11 < v ∨ v + 1 < rd) (hn63 : b 3 < 63) (hpl : ¬ onI (pl (b 3)) = -2) : mn_R E MRd_take 2 45 0 0 0 [(0, .ref rd), (1, .ref v), (2, .int (nI k))] [] g (mn_is none g) := by
  refine mn_aload_n 1 dRd_take_0 rfl rfl ?_
  refine mn_iconst (v := 3) dRd_take_1 (by decide) ?_
  refine mn_cV (d' := 0) (w' := 0) (As := [.int 3]) (stk' := [.int (nI (b 3))]) okVo_byteAt lRd_86 dRd_take_2 hv0 rfl rfl rfl rfl (Nat.le_of_ble_eq_true rfl) (Nat.le_of_ble_eq_true rfl) (by decide) (c_V_byteAt hv0 hv1 (j := 3) (by omega)) rfl ?_
  refine mn_istore_n (ls' := [(0, .ref rd), (1, .ref v), (2, .int (nI k)), (3, .int (nI (b 3)))]) dRd_take_5 rfl (by decide) rfl ?_
  refine mn_aload_n 0 dRd_take_6 rfl rfl ?_
  refine mn_iload_n 3 dRd_take_7 rfl rfl ?_
  refine mn_cV (d' := 0) (w' := 0) (As := [.int (nI (b 3))]) (stk' := [.int (onI (pl (b 3)))]) okRd_placeOf lRd_99 dRd_take_8 hR rfl rfl rfl rfl (Nat.le_of_ble_eq_true rfl) (Nat.le_of_ble_eq_true rfl) (by decide) (c_Rd_placeOf hR hp (j := b 3) (by omega)) rfl ?_
  refine mn_bipush (v := (-2)) dRd_take_11 (by decide) ?_
  refine mn_icmp_eq 17 dRd_take_13 (by decide) (fun c1 => ?_) (fun c1 => ?_)
  · exact absurd c1 hpl
  · exact mn_vret rfl dRd_take_16 ⟨rfl, rfl⟩
set_option maxRecDepth 100000 in
theorem c_Rd_take_rep {E : mn_En} {g : mn_H} {rd sz rp pr ma m w : Nat} {dn : Int32} {pb ln sn : Nat → Nat} {pl : Nat → Option Nat} (hR : mn_at g rd (.inr (3, [.ref (rd + 1), .ref (rd + 5), .ref (rd + 6), .int dn, .int (nI sz), .int (nI rp), .int (nI pr), .int (nI ma)]))) (ha : mn_at g (rd + 1) (.inr (2, [.ref (rd + 1 + 3), .ref (rd + 1 + 1), .ref (rd + 1 + 2), .int (nI m), .int (nI w)]))) (hb : mn_at g (rd + 1 + 3) (.inl (0, 4080, .inl (fun j => nI (pb j))))) (hl : mn_at g (rd + 1 + 1) (.inl (0, 60, .inl (fun j => nI (ln j))))) (hs : mn_at g (rd + 1 + 2) (.inl (0, 60, .inl (fun j => nI (sn j))))) (hp : mn_at g (rd + 5) (.inl (0, 63, .inl (fun j => onI (pl j))))) {v t : Nat} {b : Nat → Nat} (hv0 : mn_at g v (.inr (8, [.ref (v + 1), .int (nI t)]))) (hv1 : mn_at g (v + 1) (.inl (0, 80, .inl (fun j => nI (b j))))) {k : Nat} (hm : m ≤ 60) (hw : sz = w + 12) (hw0 : 0 < w) (hsz : sz ≤ 80) (hmw : m * w ≤ 4080) (hrv : rd + 11 < v ∨ v + 1 < rd) (hn63 : b 3 < 63) (hpl : onI (pl (b 3)) = -2) (hn : m ≤ b 3) : mn_R E MRd_take 2 45 0 0 0 [(0, .ref rd), (1, .ref v), (2, .int (nI k))] [] g (fun x g' => x = none ∧ mn_fr (fun q => q = rd ∨ q = rd + 1 + 1 ∨ q = rd + 1 + 2 ∨ q = rd + 1 + 3 ∨ q = rd + 5) g g' ∧ mn_at g' rd (.inr (3, [.ref (rd + 1), .ref (rd + 5), .ref (rd + 6), .int dn, .int (nI sz), .int (nI rp), .int (nI pr), .int (nI ma)])) ∧ mn_at g' (rd + 1) (.inr (2, [.ref (rd + 1 + 3), .ref (rd + 1 + 1), .ref (rd + 1 + 2), .int (nI m), .int (nI w)])) ∧ mn_at g' (rd + 1 + 3) (.inl (0, 4080, .inl (fun j => nI (pb j)))) ∧ mn_at g' (rd + 1 + 1) (.inl (0, 60, .inl (fun j => nI (ln j)))) ∧ mn_at g' (rd + 1 + 2) (.inl (0, 60, .inl (fun j => nI (sn j)))) ∧ mn_at g' (rd + 5) (.inl (0, 63, .inl (fun j => onI ((va_up pl (b 3) (some k)) j))))) := by
  refine mn_aload_n 1 dRd_take_0 rfl rfl ?_
  refine mn_iconst (v := 3) dRd_take_1 (by decide) ?_
  refine mn_cV (d' := 0) (w' := 0) (As := [.int 3]) (stk' := [.int (nI (b 3))]) okVo_byteAt lRd_86 dRd_take_2 hv0 rfl rfl rfl rfl (Nat.le_of_ble_eq_true rfl) (Nat.le_of_ble_eq_true rfl) (by decide) (c_V_byteAt hv0 hv1 (j := 3) (by omega)) rfl ?_
  refine mn_istore_n (ls' := [(0, .ref rd), (1, .ref v), (2, .int (nI k)), (3, .int (nI (b 3)))]) dRd_take_5 rfl (by decide) rfl ?_
  refine mn_aload_n 0 dRd_take_6 rfl rfl ?_
  refine mn_iload_n 3 dRd_take_7 rfl rfl ?_
  refine mn_cV (d' := 0) (w' := 0) (As := [.int (nI (b 3))]) (stk' := [.int (onI (pl (b 3)))]) okRd_placeOf lRd_99 dRd_take_8 hR rfl rfl rfl rfl (Nat.le_of_ble_eq_true rfl) (Nat.le_of_ble_eq_true rfl) (by decide) (c_Rd_placeOf hR hp (j := b 3) (by omega)) rfl ?_
  refine mn_bipush (v := (-2)) dRd_take_11 (by decide) ?_
  refine mn_icmp_eq 17 dRd_take_13 (by decide) (fun c1 => ?_) (fun c1 => ?_)
  · refine mn_aload_n 0 dRd_take_17 rfl rfl ?_
    refine mn_iload_n 3 dRd_take_18 rfl rfl ?_
    refine mn_iload_n 2 dRd_take_19 rfl rfl ?_
    refine mn_cV (d' := 0) (w' := 0) (As := [.int (nI (b 3)), .int (nI k)]) (stk' := []) okRd_setPlace lRd_102 dRd_take_20 hR rfl rfl rfl rfl (Nat.le_of_ble_eq_true rfl) (Nat.le_of_ble_eq_true rfl) (by decide) (c_Rd_setPlace hR hp (j := b 3) (by omega)) rfl ?_
    obtain ⟨g2, eg2⟩ : ∃ gg_, gg_ = mn_set g (rd + 5) (.inl (0, 63, .inl (upd (fun j => onI (pl j)) (b 3) (nI k)))) := ⟨_, rfl⟩
    refine mn_R.toG eg2 ?_
    have hR_g2 : mn_at g2 rd (.inr (3, [.ref (rd + 1), .ref (rd + 5), .ref (rd + 6), .int dn, .int (nI sz), .int (nI rp), .int (nI pr), .int (nI ma)])) := by rw [eg2]; exact hR.off (by omega)
    have ha_g2 : mn_at g2 (rd + 1) (.inr (2, [.ref (rd + 1 + 3), .ref (rd + 1 + 1), .ref (rd + 1 + 2), .int (nI m), .int (nI w)])) := by rw [eg2]; exact ha.off (by omega)
    have hb_g2 : mn_at g2 (rd + 1 + 3) (.inl (0, 4080, .inl (fun j => nI (pb j)))) := by rw [eg2]; exact hb.off (by omega)
    have hl_g2 : mn_at g2 (rd + 1 + 1) (.inl (0, 60, .inl (fun j => nI (ln j)))) := by rw [eg2]; exact hl.off (by omega)
    have hs_g2 : mn_at g2 (rd + 1 + 2) (.inl (0, 60, .inl (fun j => nI (sn j)))) := by rw [eg2]; exact hs.off (by omega)
    have hp_g2 : mn_at g2 (rd + 5) (.inl (0, 63, .inl (upd (fun j => onI (pl j)) (b 3) (nI k)))) := by rw [eg2]; exact hp.same
    have hv0_g2 : mn_at g2 v (.inr (8, [.ref (v + 1), .int (nI t)])) := by rw [eg2]; exact hv0.off (by omega)
    have hv1_g2 : mn_at g2 (v + 1) (.inl (0, 80, .inl (fun j => nI (b j)))) := by rw [eg2]; exact hv1.off (by omega)
    have hp9_g2 : mn_at g2 (rd + 5) (.inl (0, 63, .inl (fun j => onI (va_up pl (b 3) (some k) j)))) := by rw [← upd_onI]; exact hp_g2
    refine mn_iload_n 3 dRd_take_23 rfl rfl ?_
    refine mn_aload_n 0 dRd_take_24 rfl rfl ?_
    refine mn_get okRd 0 lRd_14 (by decide) hR_g2 rfl dRd_take_25 ?_
    refine mn_get okPc 3 lRd_93 (by decide) ha_g2 rfl dRd_take_28 ?_
    refine mn_icmp_ge 79 dRd_take_31 (by decide) (fun c3 => ?_) (fun c3 => ?_)
    · have c3 := (nI_leI (a := m) (b := (b 3)) (by omega) (by omega)).mp c3
      exact mn_vret rfl dRd_take_79 ⟨rfl, (mn_fr.rf.set eg2 (by show (rd + 5) = rd ∨ (rd + 5) = rd + 1 + 1 ∨ (rd + 5) = rd + 1 + 2 ∨ (rd + 5) = rd + 1 + 3 ∨ (rd + 5) = rd + 5; omega)), hR_g2, ha_g2, hb_g2, hl_g2, hs_g2, hp9_g2⟩
    · have c3 := mt (nI_leI (a := m) (b := (b 3)) (by omega) (by omega)).mpr c3
      exact absurd hn (by omega)
  · exact absurd hpl c1
set_option maxRecDepth 100000 in
theorem c_Rd_take_new {E : mn_En} {g : mn_H} {rd sz rp pr ma m w : Nat} {dn : Int32} {pb ln sn : Nat → Nat} {pl : Nat → Option Nat} (hR : mn_at g rd (.inr (3, [.ref (rd + 1), .ref (rd + 5), .ref (rd + 6), .int dn, .int (nI sz), .int (nI rp), .int (nI pr), .int (nI ma)]))) (ha : mn_at g (rd + 1) (.inr (2, [.ref (rd + 1 + 3), .ref (rd + 1 + 1), .ref (rd + 1 + 2), .int (nI m), .int (nI w)]))) (hb : mn_at g (rd + 1 + 3) (.inl (0, 4080, .inl (fun j => nI (pb j))))) (hl : mn_at g (rd + 1 + 1) (.inl (0, 60, .inl (fun j => nI (ln j))))) (hs : mn_at g (rd + 1 + 2) (.inl (0, 60, .inl (fun j => nI (sn j))))) (hp : mn_at g (rd + 5) (.inl (0, 63, .inl (fun j => onI (pl j))))) {v t : Nat} {b : Nat → Nat} (hv0 : mn_at g v (.inr (8, [.ref (v + 1), .int (nI t)]))) (hv1 : mn_at g (v + 1) (.inl (0, 80, .inl (fun j => nI (b j))))) {k : Nat} (hm : m ≤ 60) (hw : sz = w + 12) (hw0 : 0 < w) (hsz : sz ≤ 80) (hmw : m * w ≤ 4080) (hrv : rd + 11 < v ∨ v + 1 < rd) (hn63 : b 3 < 63) (hpl : onI (pl (b 3)) = -2) (hn : b 3 < m) : mn_R E MRd_take 2 45 0 0 0 [(0, .ref rd), (1, .ref v), (2, .int (nI k))] [] g (fun x g' => x = none ∧ mn_fr (fun q => q = rd ∨ q = rd + 1 + 1 ∨ q = rd + 1 + 2 ∨ q = rd + 1 + 3 ∨ q = rd + 5) g g' ∧ mn_at g' rd (.inr (3, [.ref (rd + 1), .ref (rd + 5), .ref (rd + 6), .int dn, .int (nI sz), .int (nI rp), .int (nI (pr + 1)), .int (nI ma)])) ∧ mn_at g' (rd + 1) (.inr (2, [.ref (rd + 1 + 3), .ref (rd + 1 + 1), .ref (rd + 1 + 2), .int (nI m), .int (nI w)])) ∧ mn_at g' (rd + 1 + 3) (.inl (0, 4080, .inl (fun j => nI ((tkB pb (b 3) w sz b) j)))) ∧ mn_at g' (rd + 1 + 1) (.inl (0, 60, .inl (fun j => nI ((tkL ln (b 3) sz b) j)))) ∧ mn_at g' (rd + 1 + 2) (.inl (0, 60, .inl (fun j => nI ((tkS sn (b 3) sz b) j)))) ∧ mn_at g' (rd + 5) (.inl (0, 63, .inl (fun j => onI ((va_up pl (b 3) (some k)) j))))) := by
  refine mn_aload_n 1 dRd_take_0 rfl rfl ?_
  refine mn_iconst (v := 3) dRd_take_1 (by decide) ?_
  refine mn_cV (d' := 0) (w' := 0) (As := [.int 3]) (stk' := [.int (nI (b 3))]) okVo_byteAt lRd_86 dRd_take_2 hv0 rfl rfl rfl rfl (Nat.le_of_ble_eq_true rfl) (Nat.le_of_ble_eq_true rfl) (by decide) (c_V_byteAt hv0 hv1 (j := 3) (by omega)) rfl ?_
  refine mn_istore_n (ls' := [(0, .ref rd), (1, .ref v), (2, .int (nI k)), (3, .int (nI (b 3)))]) dRd_take_5 rfl (by decide) rfl ?_
  refine mn_aload_n 0 dRd_take_6 rfl rfl ?_
  refine mn_iload_n 3 dRd_take_7 rfl rfl ?_
  refine mn_cV (d' := 0) (w' := 0) (As := [.int (nI (b 3))]) (stk' := [.int (onI (pl (b 3)))]) okRd_placeOf lRd_99 dRd_take_8 hR rfl rfl rfl rfl (Nat.le_of_ble_eq_true rfl) (Nat.le_of_ble_eq_true rfl) (by decide) (c_Rd_placeOf hR hp (j := b 3) (by omega)) rfl ?_
  refine mn_bipush (v := (-2)) dRd_take_11 (by decide) ?_
  refine mn_icmp_eq 17 dRd_take_13 (by decide) (fun c1 => ?_) (fun c1 => ?_)
  · refine mn_aload_n 0 dRd_take_17 rfl rfl ?_
    refine mn_iload_n 3 dRd_take_18 rfl rfl ?_
    refine mn_iload_n 2 dRd_take_19 rfl rfl ?_
    refine mn_cV (d' := 0) (w' := 0) (As := [.int (nI (b 3)), .int (nI k)]) (stk' := []) okRd_setPlace lRd_102 dRd_take_20 hR rfl rfl rfl rfl (Nat.le_of_ble_eq_true rfl) (Nat.le_of_ble_eq_true rfl) (by decide) (c_Rd_setPlace hR hp (j := b 3) (by omega)) rfl ?_
    obtain ⟨g2, eg2⟩ : ∃ gg_, gg_ = mn_set g (rd + 5) (.inl (0, 63, .inl (upd (fun j => onI (pl j)) (b 3) (nI k)))) := ⟨_, rfl⟩
    refine mn_R.toG eg2 ?_
    have hR_g2 : mn_at g2 rd (.inr (3, [.ref (rd + 1), .ref (rd + 5), .ref (rd + 6), .int dn, .int (nI sz), .int (nI rp), .int (nI pr), .int (nI ma)])) := by rw [eg2]; exact hR.off (by omega)
    have ha_g2 : mn_at g2 (rd + 1) (.inr (2, [.ref (rd + 1 + 3), .ref (rd + 1 + 1), .ref (rd + 1 + 2), .int (nI m), .int (nI w)])) := by rw [eg2]; exact ha.off (by omega)
    have hb_g2 : mn_at g2 (rd + 1 + 3) (.inl (0, 4080, .inl (fun j => nI (pb j)))) := by rw [eg2]; exact hb.off (by omega)
    have hl_g2 : mn_at g2 (rd + 1 + 1) (.inl (0, 60, .inl (fun j => nI (ln j)))) := by rw [eg2]; exact hl.off (by omega)
    have hs_g2 : mn_at g2 (rd + 1 + 2) (.inl (0, 60, .inl (fun j => nI (sn j)))) := by rw [eg2]; exact hs.off (by omega)
    have hp_g2 : mn_at g2 (rd + 5) (.inl (0, 63, .inl (upd (fun j => onI (pl j)) (b 3) (nI k)))) := by rw [eg2]; exact hp.same
    have hv0_g2 : mn_at g2 v (.inr (8, [.ref (v + 1), .int (nI t)])) := by rw [eg2]; exact hv0.off (by omega)
    have hv1_g2 : mn_at g2 (v + 1) (.inl (0, 80, .inl (fun j => nI (b j)))) := by rw [eg2]; exact hv1.off (by omega)
    have hp9_g2 : mn_at g2 (rd + 5) (.inl (0, 63, .inl (fun j => onI (va_up pl (b 3) (some k) j)))) := by rw [← upd_onI]; exact hp_g2
    refine mn_iload_n 3 dRd_take_23 rfl rfl ?_
    refine mn_aload_n 0 dRd_take_24 rfl rfl ?_
    refine mn_get okRd 0 lRd_14 (by decide) hR_g2 rfl dRd_take_25 ?_
    refine mn_get okPc 3 lRd_93 (by decide) ha_g2 rfl dRd_take_28 ?_
    refine mn_icmp_ge 79 dRd_take_31 (by decide) (fun c3 => ?_) (fun c3 => ?_)
    · have c3 := (nI_leI (a := m) (b := (b 3)) (by omega) (by omega)).mp c3
      exact absurd hn (by omega)
    · have c3 := mt (nI_leI (a := m) (b := (b 3)) (by omega) (by omega)).mpr c3
      refine mn_aload_n 0 dRd_take_34 rfl rfl ?_
      refine mn_dup dRd_take_35 rfl ?_
      refine mn_get okRd 6 lRd_66 (by decide) hR_g2 rfl dRd_take_36 ?_
      refine mn_iconst (v := 1) dRd_take_39 (by decide) ?_
      refine mn_iadd (z := nI (pr + 1)) dRd_take_40 (nI_add pr 1) ?_
      refine mn_putf okRd 6 lRd_66 (by decide) rfl hR_g2 rfl rfl (Nat.le_of_ble_eq_true rfl) dRd_take_41 ?_
      obtain ⟨g4, eg4⟩ : ∃ gg_, gg_ = mn_set g2 rd (.inr (3, [.ref (rd + 1), .ref (rd + 5), .ref (rd + 6), .int dn, .int (nI sz), .int (nI rp), .int (nI (pr + 1)), .int (nI ma)])) := ⟨_, rfl⟩
      refine mn_R.toG eg4 ?_
      have hR_g4 : mn_at g4 rd (.inr (3, [.ref (rd + 1), .ref (rd + 5), .ref (rd + 6), .int dn, .int (nI sz), .int (nI rp), .int (nI (pr + 1)), .int (nI ma)])) := by rw [eg4]; exact hR_g2.same
      have ha_g4 : mn_at g4 (rd + 1) (.inr (2, [.ref (rd + 1 + 3), .ref (rd + 1 + 1), .ref (rd + 1 + 2), .int (nI m), .int (nI w)])) := by rw [eg4]; exact ha_g2.off (by omega)
      have hb_g4 : mn_at g4 (rd + 1 + 3) (.inl (0, 4080, .inl (fun j => nI (pb j)))) := by rw [eg4]; exact hb_g2.off (by omega)
      have hl_g4 : mn_at g4 (rd + 1 + 1) (.inl (0, 60, .inl (fun j => nI (ln j)))) := by rw [eg4]; exact hl_g2.off (by omega)
      have hs_g4 : mn_at g4 (rd + 1 + 2) (.inl (0, 60, .inl (fun j => nI (sn j)))) := by rw [eg4]; exact hs_g2.off (by omega)
      have hp9_g4 : mn_at g4 (rd + 5) (.inl (0, 63, .inl (fun j => onI ((va_up pl (b 3) (some k)) j)))) := by rw [eg4]; exact hp9_g2.off (by omega)
      have hv0_g4 : mn_at g4 v (.inr (8, [.ref (v + 1), .int (nI t)])) := by rw [eg4]; exact hv0_g2.off (by omega)
      have hv1_g4 : mn_at g4 (v + 1) (.inl (0, 80, .inl (fun j => nI (b j)))) := by rw [eg4]; exact hv1_g2.off (by omega)
      refine mn_bipush (v := 6) dRd_take_44 (by decide) ?_
      refine mn_istore (ls' := [(0, .ref rd), (1, .ref v), (2, .int (nI k)), (3, .int (nI (b 3))), (4, .int 6)]) dRd_take_46 (by decide) rfl ?_
      rw [← tkB_0 pb (b 3) w b] at hb_g4
      rw [← tkL_0 ln (b 3) b] at hl_g4
      rw [← tkS_0 sn (b 3) b] at hs_g4
      refine mn_R.post (c_Rd_take_l hm hw hw0 hsz hmw hn hrv (sz + 1) 6 g4 (by omega) (by omega) (by omega) mn_fr.rf hR_g4 ha_g4 hb_g4 hl_g4 hs_g4 hp9_g4 hv0_g4 hv1_g4) (fun x g' hq => ⟨hq.1, ((mn_fr.rf.set eg2 (by show (rd + 5) = rd ∨ (rd + 5) = rd + 1 + 1 ∨ (rd + 5) = rd + 1 + 2 ∨ (rd + 5) = rd + 1 + 3 ∨ (rd + 5) = rd + 5; omega)).set eg4 (by show rd = rd ∨ rd = rd + 1 + 1 ∨ rd = rd + 1 + 2 ∨ rd = rd + 1 + 3 ∨ rd = rd + 5; omega)).tr (hq.2.1.mo (fun q h => by have h9 : q = rd + 1 + 1 ∨ q = rd + 1 + 2 ∨ q = rd + 1 + 3 := h; show q = rd ∨ q = rd + 1 + 1 ∨ q = rd + 1 + 2 ∨ q = rd + 1 + 3 ∨ q = rd + 5; omega)), hq.2.2⟩)
  · exact absurd hpl c1
set_option maxRecDepth 100000 in
theorem c_Rd_reps_l {E : mn_En} {g : mn_H} {rd sz rp pr ma m w : Nat} {dn : Int32} {pb ln sn : Nat → Nat} {pl : Nat → Option Nat} (hR : mn_at g rd (.inr (3, [.ref (rd + 1), .ref (rd + 5), .ref (rd + 6), .int dn, .int (nI sz), .int (nI rp), .int (nI pr), .int (nI ma)]))) (ha : mn_at g (rd + 1) (.inr (2, [.ref (rd + 1 + 3), .ref (rd + 1 + 1), .ref (rd + 1 + 2), .int (nI m), .int (nI w)]))) (hb : mn_at g (rd + 1 + 3) (.inl (0, 4080, .inl (fun j => nI (pb j))))) (hl : mn_at g (rd + 1 + 1) (.inl (0, 60, .inl (fun j => nI (ln j))))) (hs : mn_at g (rd + 1 + 2) (.inl (0, 60, .inl (fun j => nI (sn j))))) (hp : mn_at g (rd + 5) (.inl (0, 63, .inl (fun j => onI (pl j))))) (hm : m ≤ 60) (hrp : rp ≤ 3) : ∀ (fu k : Nat), k ≤ rp → rp - k < fu → mn_R E MRd_repairsOfIt 1 21 0 0 4 [(0, .ref rd), (1, .int (nI (cnt (fun j => ¬ onI (pl (m + j)) = -2) k))), (2, .int (nI k))] [] g (mn_is (some (.int (nI (cnt (fun j => ¬ onI (pl (m + j)) = -2) rp)))) g) := by
  intro fu
  induction fu with
  | zero => intro k h1 h2; exact absurd h2 (by omega)
  | succ fu ih =>
    intro k h1 h2
    have hcn := cnt_le (fun j => ¬ onI (pl (m + j)) = -2) k
    refine mn_iload_n 2 dRd_repairsOfIt_4 rfl rfl ?_
    refine mn_aload_n 0 dRd_repairsOfIt_5 rfl rfl ?_
    refine mn_get okRd 5 lRd_90 (by decide) hR rfl dRd_repairsOfIt_6 ?_
    refine mn_icmp_ge 39 dRd_repairsOfIt_9 (by decide) (fun c1 => ?_) (fun c1 => ?_)
    · have c1 := (nI_leI (a := rp) (b := k) (by omega) (by omega)).mp c1
      refine mn_iload_n 1 dRd_repairsOfIt_39 rfl rfl ?_
      exact mn_iret rfl dRd_repairsOfIt_40 ⟨by rw [show k = rp by omega], rfl⟩
    · have c1 := mt (nI_leI (a := rp) (b := k) (by omega) (by omega)).mpr c1
      refine mn_aload_n 0 dRd_repairsOfIt_12 rfl rfl ?_
      refine mn_aload_n 0 dRd_repairsOfIt_13 rfl rfl ?_
      refine mn_get okRd 0 lRd_14 (by decide) hR rfl dRd_repairsOfIt_14 ?_
      refine mn_get okPc 3 lRd_93 (by decide) ha rfl dRd_repairsOfIt_17 ?_
      refine mn_iload_n 2 dRd_repairsOfIt_20 rfl rfl ?_
      refine mn_iadd (z := nI (m + k)) dRd_repairsOfIt_21 (nI_add m k) ?_
      refine mn_cV (d' := 0) (w' := 0) (As := [.int (nI (m + k))]) (stk' := [.int (onI (pl (m + k)))]) okRd_placeOf lRd_99 dRd_repairsOfIt_22 hR rfl rfl rfl rfl (Nat.le_of_ble_eq_true rfl) (Nat.le_of_ble_eq_true rfl) (by decide) (c_Rd_placeOf hR hp (j := m + k) (by omega)) rfl ?_
      refine mn_bipush (v := (-2)) dRd_repairsOfIt_25 (by decide) ?_
      refine mn_icmp_eq 33 dRd_repairsOfIt_27 (by decide) (fun c2 => ?_) (fun c2 => ?_)
      · refine mn_iinc (v := nI (k + 1)) (ls' := [(0, .ref rd), (1, .int (nI (cnt (fun j => ¬ onI (pl (m + j)) = -2) k))), (2, .int (nI (k + 1)))]) 2 dRd_repairsOfIt_33 rfl (nI_add k 1) (by decide) rfl ?_
        refine mn_goto 4 dRd_repairsOfIt_36 (by decide) ?_
        rw [← cnt_n (P := (fun j => ¬ onI (pl (m + j)) = -2)) (k := k) (fun q => q c2)]
        exact ih (k + 1) (by omega) (by omega)
      · refine mn_iinc (v := nI (cnt (fun j => ¬ onI (pl (m + j)) = -2) k + 1)) (ls' := [(0, .ref rd), (1, .int (nI (cnt (fun j => ¬ onI (pl (m + j)) = -2) k + 1))), (2, .int (nI k))]) 1 dRd_repairsOfIt_30 rfl (nI_add (cnt (fun j => ¬ onI (pl (m + j)) = -2) k) 1) (by decide) rfl ?_
        refine mn_iinc (v := nI (k + 1)) (ls' := [(0, .ref rd), (1, .int (nI (cnt (fun j => ¬ onI (pl (m + j)) = -2) k + 1))), (2, .int (nI (k + 1)))]) 2 dRd_repairsOfIt_33 rfl (nI_add k 1) (by decide) rfl ?_
        refine mn_goto 4 dRd_repairsOfIt_36 (by decide) ?_
        rw [← cnt_y (P := (fun j => ¬ onI (pl (m + j)) = -2)) (k := k) c2]
        exact ih (k + 1) (by omega) (by omega)
set_option maxRecDepth 100000 in
theorem c_Rd_reps {E : mn_En} {g : mn_H} {rd sz rp pr ma m w : Nat} {dn : Int32} {pb ln sn : Nat → Nat} {pl : Nat → Option Nat} (hR : mn_at g rd (.inr (3, [.ref (rd + 1), .ref (rd + 5), .ref (rd + 6), .int dn, .int (nI sz), .int (nI rp), .int (nI pr), .int (nI ma)]))) (ha : mn_at g (rd + 1) (.inr (2, [.ref (rd + 1 + 3), .ref (rd + 1 + 1), .ref (rd + 1 + 2), .int (nI m), .int (nI w)]))) (hb : mn_at g (rd + 1 + 3) (.inl (0, 4080, .inl (fun j => nI (pb j))))) (hl : mn_at g (rd + 1 + 1) (.inl (0, 60, .inl (fun j => nI (ln j))))) (hs : mn_at g (rd + 1 + 2) (.inl (0, 60, .inl (fun j => nI (sn j))))) (hp : mn_at g (rd + 5) (.inl (0, 63, .inl (fun j => onI (pl j))))) (hm : m ≤ 60) (hrp : rp ≤ 3) : mn_R E MRd_repairsOfIt 1 21 0 0 0 [(0, .ref rd)] [] g (mn_is (some (.int (nI (cnt (fun j => ¬ onI (pl (m + j)) = -2) rp)))) g) := by
  refine mn_iconst (v := 0) dRd_repairsOfIt_0 (by decide) ?_
  refine mn_istore_n (ls' := [(0, .ref rd), (1, .int 0)]) dRd_repairsOfIt_1 rfl (by decide) rfl ?_
  refine mn_iconst (v := 0) dRd_repairsOfIt_2 (by decide) ?_
  refine mn_istore_n (ls' := [(0, .ref rd), (1, .int 0), (2, .int 0)]) dRd_repairsOfIt_3 rfl (by decide) rfl ?_
  exact c_Rd_reps_l hR ha hb hl hs hp hm hrp (rp + 1) 0 (by omega) (by omega)
set_option maxRecDepth 100000 in
theorem c_Rd_tu_i {E : mn_En} {g : mn_H} {rd sz rp pr ma m w : Nat} {dn : Int32} {pb ln sn : Nat → Nat} {pl : Nat → Option Nat} {un gv : Nat} {rw : Nat → Nat → Nat} {nu : Nat → Nat} {n u : Nat} {X : Nat → Nat → Nat} {Q : Option Value → mn_H → Prop} (hm : m ≤ 60) (hw : sz = w + 12) (hw0 : 0 < w) (hsz : sz ≤ 80) (hmw : m * w ≤ 4080) (hn : n < m) (hu : u < 3) (hX : X = (fun u i => rw u (3 + i))) (KK : ∀ g1, mn_fr (fun q => q = rd + 1 + 1 ∨ q = rd + 1 + 2 ∨ q = rd + 1 + 3) g g1 → mn_at g1 rd (.inr (3, [.ref (rd + 1), .ref (rd + 5), .ref (rd + 6), .int dn, .int (nI sz), .int (nI rp), .int (nI pr), .int (nI ma)])) → mn_at g1 (rd + 1) (.inr (2, [.ref (rd + 1 + 3), .ref (rd + 1 + 1), .ref (rd + 1 + 2), .int (nI m), .int (nI w)])) → mn_at g1 (rd + 1 + 3) (.inl (0, 4080, .inl (fun j => nI ((tkB pb n w sz (X u)) j)))) → mn_at g1 (rd + 1 + 1) (.inl (0, 60, .inl (fun j => nI ((tkL ln n sz (X u)) j)))) → mn_at g1 (rd + 1 + 2) (.inl (0, 60, .inl (fun j => nI ((tkS sn n sz (X u)) j)))) → mn_at g1 (rd + 5) (.inl (0, 63, .inl (fun j => onI (pl j)))) → EqP g1 (rd + 6) rw nu un gv → mn_R E MRd_takeUnknowns 2 45 0 0 74 [(0, .ref rd), (1, .int (nI u)), (2, .int (nI n))] [] g1 Q) : ∀ (fu i : Nat) (g0 : mn_H), 6 ≤ i → i ≤ sz → sz - i < fu → mn_fr (fun q => q = rd + 1 + 1 ∨ q = rd + 1 + 2 ∨ q = rd + 1 + 3) g g0 → mn_at g0 rd (.inr (3, [.ref (rd + 1), .ref (rd + 5), .ref (rd + 6), .int dn, .int (nI sz), .int (nI rp), .int (nI pr), .int (nI ma)])) → mn_at g0 (rd + 1) (.inr (2, [.ref (rd + 1 + 3), .ref (rd + 1 + 1), .ref (rd + 1 + 2), .int (nI m), .int (nI w)])) → mn_at g0 (rd + 1 + 3) (.inl (0, 4080, .inl (fun j => nI ((tkB pb n w i (X u)) j)))) → mn_at g0 (rd + 1 + 1) (.inl (0, 60, .inl (fun j => nI ((tkL ln n i (X u)) j)))) → mn_at g0 (rd + 1 + 2) (.inl (0, 60, .inl (fun j => nI ((tkS sn n i (X u)) j)))) → mn_at g0 (rd + 5) (.inl (0, 63, .inl (fun j => onI (pl j)))) → EqP g0 (rd + 6) rw nu un gv → mn_R E MRd_takeUnknowns 2 45 0 0 42 [(0, .ref rd), (1, .int (nI u)), (2, .int (nI n)), (3, .int (nI i))] [] g0 (Q) := by
  intro fu
  induction fu with
  | zero => intro i g0 h0 h1 h2; exact absurd h2 (by omega)
  | succ fu ih =>
    intro i g0 h0 h1 h2 hfr hR ha hb hl hs hp hE
    have hE1 := hE.1
    have hwn := Nat.mul_le_mul_right w (show n + 1 ≤ m by omega)
    rw [Nat.succ_mul] at hwn
    refine mn_iload_n 3 dRd_takeUnknowns_42 rfl rfl ?_
    refine mn_aload_n 0 dRd_takeUnknowns_43 rfl rfl ?_
    refine mn_get okRd 4 lRd_85 (by decide) hR rfl dRd_takeUnknowns_44 ?_
    refine mn_icmp_ge 74 dRd_takeUnknowns_47 (by decide) (fun c1 => ?_) (fun c1 => ?_)
    · have c1 := (nI_leI (a := sz) (b := i) (by omega) (by omega)).mp c1
      refine mn_R.sub [0, 1, 2] (ls' := [(0, .ref rd), (1, .int (nI u)), (2, .int (nI n))]) rfl ?_
      obtain rfl : i = sz := (by omega)
      exact KK g0 hfr hR ha hb hl hs hp hE
    · have c1 := mt (nI_leI (a := sz) (b := i) (by omega) (by omega)).mpr c1
      refine mn_aload_n 0 dRd_takeUnknowns_50 rfl rfl ?_
      refine mn_get okRd 0 lRd_14 (by decide) hR rfl dRd_takeUnknowns_51 ?_
      refine mn_iload_n 2 dRd_takeUnknowns_54 rfl rfl ?_
      refine mn_iload_n 3 dRd_takeUnknowns_55 rfl rfl ?_
      refine mn_aload_n 0 dRd_takeUnknowns_56 rfl rfl ?_
      refine mn_get okRd 2 lRd_27 (by decide) hR rfl dRd_takeUnknowns_57 ?_
      refine mn_iload_n 1 dRd_takeUnknowns_60 rfl rfl ?_
      refine mn_iload_n 3 dRd_takeUnknowns_61 rfl rfl ?_
      refine mn_cV (d' := 0) (w' := 0) (As := [.int (nI u), .int (nI i)]) (stk' := [.int (nI (X u i)), .int (nI i), .int (nI n), .ref (rd + 1)]) okEq_byteOfUnknown lRd_139 dRd_takeUnknowns_62 hE1 rfl rfl rfl rfl (Nat.le_of_ble_eq_true rfl) (Nat.le_of_ble_eq_true rfl) (by decide) (by have h0 := c_E_byteOf (E := E) hE (i := u) (j := i) (by omega) (by omega); rw [show rw u (3 + i) = X u i by rw [hX]] at h0; exact h0) rfl ?_
      have hX9 : rw u (3 + i) = X u i := by rw [hX]
      refine mn_callV (d' := 1) (w' := 22) (nc' := 0) (ns' := 0) (As := [.int (nI n), .int (nI i), .int (nI (X u i))]) (st := []) okPc_putPart lRd_106 dRd_takeUnknowns_65 ha rfl rfl rfl rfl (Nat.le_of_ble_eq_true rfl) (Nat.le_of_ble_eq_true rfl) (by decide) (c_P_putPartN ha hb hl hs (by omega) (n := n) (i := i) (v := X u i) (by omega) (by omega) (by first | assumption | omega) (by first | assumption | omega)) (fun v g2 hq => ?_)
      obtain ⟨rfl, fg2, hb_g2, hl_g2, hs_g2⟩ := hq
      have hb_g2 : mn_at g2 (rd + 1 + 3) (.inl (0, 4080, .inl (fun j => nI ((ppBN w n i (X u i) (tkB pb n w i (X u))) j)))) := hb_g2
      have hl_g2 : mn_at g2 (rd + 1 + 1) (.inl (0, 60, .inl (fun j => nI ((ppLN n i (X u i) (tkL ln n i (X u))) j)))) := hl_g2
      have hs_g2 : mn_at g2 (rd + 1 + 2) (.inl (0, 60, .inl (fun j => nI ((ppSN n i (X u i) (tkS sn n i (X u))) j)))) := hs_g2
      show mn_R E MRd_takeUnknowns 2 45 _ _ 68 [(0, .ref rd), (1, .int (nI u)), (2, .int (nI n)), (3, .int (nI i))] [] g2 _
      have hR_g2 := hR.fr fg2 (fun h => by have h9 : rd = rd + 1 + 1 ∨ rd = rd + 1 + 2 ∨ rd = rd + 1 + 3 := h; omega)
      have ha_g2 := ha.fr fg2 (fun h => by have h9 : (rd + 1) = rd + 1 + 1 ∨ (rd + 1) = rd + 1 + 2 ∨ (rd + 1) = rd + 1 + 3 := h; omega)
      have hp_g2 := hp.fr fg2 (fun h => by have h9 : (rd + 5) = rd + 1 + 1 ∨ (rd + 5) = rd + 1 + 2 ∨ (rd + 5) = rd + 1 + 3 := h; omega)
      have hE1_g2 := hE1.fr fg2 (fun h => by have h9 : (rd + 6) = rd + 1 + 1 ∨ (rd + 6) = rd + 1 + 2 ∨ (rd + 6) = rd + 1 + 3 := h; omega)
      have hE_g2 : EqP g2 (rd + 6) rw nu un gv := hE.fr fg2 (fun q q1 q2 h => by have h9 : q = rd + 1 + 1 ∨ q = rd + 1 + 2 ∨ q = rd + 1 + 3 := h; omega)
      refine mn_iinc (v := nI (i + 1)) (ls' := [(0, .ref rd), (1, .int (nI u)), (2, .int (nI n)), (3, .int (nI (i + 1)))]) 3 dRd_takeUnknowns_68 rfl (nI_add i 1) (by decide) rfl ?_
      refine mn_goto 42 dRd_takeUnknowns_71 (by decide) ?_
      rw [tkB_s _ _ _ _ h0] at hb_g2
      rw [tkL_s _ _ _ h0] at hl_g2
      rw [tkS_s _ _ _ h0] at hs_g2
      exact ih (i + 1) g2 (by omega) (by omega) (by omega) (hfr.tr (fg2.mo (fun q h => by have h9 : q = rd + 1 + 1 ∨ q = rd + 1 + 2 ∨ q = rd + 1 + 3 := h; show q = rd + 1 + 1 ∨ q = rd + 1 + 2 ∨ q = rd + 1 + 3; omega))) hR_g2 ha_g2 hb_g2 hl_g2 hs_g2 hp_g2 hE_g2
set_option maxRecDepth 100000 in
theorem c_Rd_tu_l {E : mn_En} {g : mn_H} {rd sz rp pr ma m w : Nat} {dn : Int32} {pb ln sn : Nat → Nat} {pl : Nat → Option Nat} {un gv : Nat} {rw : Nat → Nat → Nat} {nu : Nat → Nat} {X : Nat → Nat → Nat} (hm : m ≤ 60) (hw : sz = w + 12) (hw0 : 0 < w) (hsz : sz ≤ 80) (hmw : m * w ≤ 4080) (hun : un ≤ 3) (hnu : ∀ i, i < un → nu i < m) (hsz20 : 20 ≤ sz) (hX : X = (fun u i => rw u (3 + i))) : ∀ (fu u : Nat) (g0 : mn_H), u ≤ un → un - u < fu → mn_fr (fun q => q = rd ∨ q = rd + 1 + 1 ∨ q = rd + 1 + 2 ∨ q = rd + 1 + 3 ∨ q = rd + 5) g g0 → mn_at g0 rd (.inr (3, [.ref (rd + 1), .ref (rd + 5), .ref (rd + 6), .int dn, .int (nI sz), .int (nI rp), .int (nI pr), .int (nI (ma + u))])) → mn_at g0 (rd + 1) (.inr (2, [.ref (rd + 1 + 3), .ref (rd + 1 + 1), .ref (rd + 1 + 2), .int (nI m), .int (nI w)])) → mn_at g0 (rd + 1 + 3) (.inl (0, 4080, .inl (fun j => nI ((tuB pb nu w X u) j)))) → mn_at g0 (rd + 1 + 1) (.inl (0, 60, .inl (fun j => nI ((tuA ln nu (fun v => X v 6) u) j)))) → mn_at g0 (rd + 1 + 2) (.inl (0, 60, .inl (fun j => nI ((tuA sn nu (fun v => X v 7) u) j)))) → mn_at g0 (rd + 5) (.inl (0, 63, .inl (fun j => onI ((tuP pl nu u) j)))) → EqP g0 (rd + 6) rw nu un gv → mn_R E MRd_takeUnknowns 2 45 0 0 2 [(0, .ref rd), (1, .int (nI u))] [] g0 (fun x g' => x = none ∧ mn_fr (fun q => q = rd ∨ q = rd + 1 + 1 ∨ q = rd + 1 + 2 ∨ q = rd + 1 + 3 ∨ q = rd + 5) g g' ∧ mn_at g' rd (.inr (3, [.ref (rd + 1), .ref (rd + 5), .ref (rd + 6), .int dn, .int (nI sz), .int (nI rp), .int (nI pr), .int (nI (ma + un))])) ∧ mn_at g' (rd + 1) (.inr (2, [.ref (rd + 1 + 3), .ref (rd + 1 + 1), .ref (rd + 1 + 2), .int (nI m), .int (nI w)])) ∧ mn_at g' (rd + 1 + 3) (.inl (0, 4080, .inl (fun j => nI ((tuB pb nu w X un) j)))) ∧ mn_at g' (rd + 1 + 1) (.inl (0, 60, .inl (fun j => nI ((tuA ln nu (fun v => X v 6) un) j)))) ∧ mn_at g' (rd + 1 + 2) (.inl (0, 60, .inl (fun j => nI ((tuA sn nu (fun v => X v 7) un) j)))) ∧ mn_at g' (rd + 5) (.inl (0, 63, .inl (fun j => onI ((tuP pl nu un) j)))) ∧ EqP g' (rd + 6) rw nu un gv) := by
  intro fu
  induction fu with
  | zero => intro u g0 h1 h2; exact absurd h2 (by omega)
  | succ fu ih =>
    intro u g0 h1 h2 hfr hR ha hb hl hs hp hE
    have hE1 := hE.1
    refine mn_iload_n 1 dRd_takeUnknowns_2 rfl rfl ?_
    refine mn_aload_n 0 dRd_takeUnknowns_3 rfl rfl ?_
    refine mn_get okRd 2 lRd_27 (by decide) hR rfl dRd_takeUnknowns_4 ?_
    refine mn_get okEq 2 lRd_133 (by decide) hE1 rfl dRd_takeUnknowns_7 ?_
    refine mn_icmp_ge 80 dRd_takeUnknowns_10 (by decide) (fun c1 => ?_) (fun c1 => ?_)
    · have c1 := (nI_leI (a := un) (b := u) (by omega) (by omega)).mp c1
      exact mn_vret rfl dRd_takeUnknowns_80 (by obtain rfl : u = un := (by omega); exact ⟨rfl, hfr, hR, ha, hb, hl, hs, hp, hE⟩)
    · have c1 := mt (nI_leI (a := un) (b := u) (by omega) (by omega)).mpr c1
      have hnu9 := hnu u (by omega)
      refine mn_aload_n 0 dRd_takeUnknowns_13 rfl rfl ?_
      refine mn_get okRd 2 lRd_27 (by decide) hR rfl dRd_takeUnknowns_14 ?_
      refine mn_iload_n 1 dRd_takeUnknowns_17 rfl rfl ?_
      refine mn_cV (d' := 0) (w' := 0) (As := [.int (nI u)]) (stk' := [.int (nI (nu u))]) okEq_numberOf lRd_136 dRd_takeUnknowns_18 hE1 rfl rfl rfl rfl (Nat.le_of_ble_eq_true rfl) (Nat.le_of_ble_eq_true rfl) (by decide) (c_E_numberOf hE (i := u) (by omega)) rfl ?_
      refine mn_istore_n (ls' := [(0, .ref rd), (1, .int (nI u)), (2, .int (nI (nu u)))]) dRd_takeUnknowns_21 rfl (by decide) rfl ?_
      refine mn_aload_n 0 dRd_takeUnknowns_22 rfl rfl ?_
      refine mn_iload_n 2 dRd_takeUnknowns_23 rfl rfl ?_
      refine mn_bipush (v := 100) dRd_takeUnknowns_24 (by decide) ?_
      refine mn_cV (d' := 0) (w' := 0) (As := [.int (nI (nu u)), .int 100]) (stk' := []) okRd_setPlace lRd_102 dRd_takeUnknowns_26 hR rfl rfl rfl rfl (Nat.le_of_ble_eq_true rfl) (Nat.le_of_ble_eq_true rfl) (by decide) (c_Rd_setPlace hR hp (j := nu u) (by omega)) rfl ?_
      obtain ⟨g2, eg2⟩ : ∃ gg_, gg_ = mn_set g0 (rd + 5) (.inl (0, 63, .inl (upd (fun j => onI ((tuP pl nu u) j)) (nu u) 100))) := ⟨_, rfl⟩
      refine mn_R.toG eg2 ?_
      have hR_g2 : mn_at g2 rd (.inr (3, [.ref (rd + 1), .ref (rd + 5), .ref (rd + 6), .int dn, .int (nI sz), .int (nI rp), .int (nI pr), .int (nI (ma + u))])) := by rw [eg2]; exact hR.off (by omega)
      have ha_g2 : mn_at g2 (rd + 1) (.inr (2, [.ref (rd + 1 + 3), .ref (rd + 1 + 1), .ref (rd + 1 + 2), .int (nI m), .int (nI w)])) := by rw [eg2]; exact ha.off (by omega)
      have hb_g2 : mn_at g2 (rd + 1 + 3) (.inl (0, 4080, .inl (fun j => nI ((tuB pb nu w X u) j)))) := by rw [eg2]; exact hb.off (by omega)
      have hl_g2 : mn_at g2 (rd + 1 + 1) (.inl (0, 60, .inl (fun j => nI ((tuA ln nu (fun v => X v 6) u) j)))) := by rw [eg2]; exact hl.off (by omega)
      have hs_g2 : mn_at g2 (rd + 1 + 2) (.inl (0, 60, .inl (fun j => nI ((tuA sn nu (fun v => X v 7) u) j)))) := by rw [eg2]; exact hs.off (by omega)
      have hp_g2 : mn_at g2 (rd + 5) (.inl (0, 63, .inl (upd (fun j => onI ((tuP pl nu u) j)) (nu u) 100))) := by rw [eg2]; exact hp.same
      have hE1_g2 : mn_at g2 (rd + 6) (.inr (0, [.ref (rd + 6 + 1), .ref (rd + 6 + 5), .int (nI un), .int (nI gv)])) := by rw [eg2]; exact hE1.off (by omega)
      have hE_g2 : EqP g2 (rd + 6) rw nu un gv := by rw [eg2]; exact hE.fr (mn_fr_set (S := fun q => q = rd + 5) rfl) (fun q q1 q2 h => by have h9 : q = rd + 5 := h; omega)
      refine mn_aload_n 0 dRd_takeUnknowns_29 rfl rfl ?_
      refine mn_dup dRd_takeUnknowns_30 rfl ?_
      refine mn_get okRd 7 lRd_70 (by decide) hR_g2 rfl dRd_takeUnknowns_31 ?_
      refine mn_iconst (v := 1) dRd_takeUnknowns_34 (by decide) ?_
      refine mn_iadd (z := nI (ma + u + 1)) dRd_takeUnknowns_35 (nI_add (ma + u) 1) ?_
      refine mn_putf okRd 7 lRd_70 (by decide) rfl hR_g2 rfl rfl (Nat.le_of_ble_eq_true rfl) dRd_takeUnknowns_36 ?_
      obtain ⟨g3, eg3⟩ : ∃ gg_, gg_ = mn_set g2 rd (.inr (3, [.ref (rd + 1), .ref (rd + 5), .ref (rd + 6), .int dn, .int (nI sz), .int (nI rp), .int (nI pr), .int (nI (ma + u + 1))])) := ⟨_, rfl⟩
      refine mn_R.toG eg3 ?_
      have hR_g3 : mn_at g3 rd (.inr (3, [.ref (rd + 1), .ref (rd + 5), .ref (rd + 6), .int dn, .int (nI sz), .int (nI rp), .int (nI pr), .int (nI (ma + u + 1))])) := by rw [eg3]; exact hR_g2.same
      have ha_g3 : mn_at g3 (rd + 1) (.inr (2, [.ref (rd + 1 + 3), .ref (rd + 1 + 1), .ref (rd + 1 + 2), .int (nI m), .int (nI w)])) := by rw [eg3]; exact ha_g2.off (by omega)
      have hb_g3 : mn_at g3 (rd + 1 + 3) (.inl (0, 4080, .inl (fun j => nI ((tuB pb nu w X u) j)))) := by rw [eg3]; exact hb_g2.off (by omega)
      have hl_g3 : mn_at g3 (rd + 1 + 1) (.inl (0, 60, .inl (fun j => nI ((tuA ln nu (fun v => X v 6) u) j)))) := by rw [eg3]; exact hl_g2.off (by omega)
      have hs_g3 : mn_at g3 (rd + 1 + 2) (.inl (0, 60, .inl (fun j => nI ((tuA sn nu (fun v => X v 7) u) j)))) := by rw [eg3]; exact hs_g2.off (by omega)
      have hp_g3 : mn_at g3 (rd + 5) (.inl (0, 63, .inl (upd (fun j => onI ((tuP pl nu u) j)) (nu u) 100))) := by rw [eg3]; exact hp_g2.off (by omega)
      have hE1_g3 : mn_at g3 (rd + 6) (.inr (0, [.ref (rd + 6 + 1), .ref (rd + 6 + 5), .int (nI un), .int (nI gv)])) := by rw [eg3]; exact hE1_g2.off (by omega)
      have hE_g3 : EqP g3 (rd + 6) rw nu un gv := by rw [eg3]; exact hE_g2.fr (mn_fr_set (S := fun q => q = rd) rfl) (fun q q1 q2 h => by have h9 : q = rd := h; omega)
      refine mn_bipush (v := 6) dRd_takeUnknowns_39 (by decide) ?_
      refine mn_istore_n (ls' := [(0, .ref rd), (1, .int (nI u)), (2, .int (nI (nu u))), (3, .int 6)]) dRd_takeUnknowns_41 rfl (by decide) rfl ?_
      have hp9 : mn_at g3 (rd + 5) (.inl (0, 63, .inl (fun j => onI (tuP pl nu (u + 1) j)))) := by show mn_at g3 (rd + 5) (.inl (0, 63, .inl (fun j => onI (va_up (tuP pl nu u) (nu u) (some 100) j)))); rw [← upd_onI]; exact hp_g3
      rw [← tkB_0 (tuB pb nu w X u) (nu u) w (X u)] at hb_g3
      rw [← tkL_0 (tuA ln nu (fun v => X v 6) u) (nu u) (X u)] at hl_g3
      rw [← tkS_0 (tuA sn nu (fun v => X v 7) u) (nu u) (X u)] at hs_g3
      refine c_Rd_tu_i hm hw hw0 hsz hmw (n := nu u) (u := u) (hnu u (by omega)) (by omega) hX (fun g8 hf8 hR8 ha8 hb8 hl8 hs8 hp8 hE8 => ?_) (sz + 1) 6 g3 (by omega) (by omega) (by omega) mn_fr.rf hR_g3 ha_g3 hb_g3 hl_g3 hs_g3 hp9 hE_g3
      refine mn_iinc (v := nI (u + 1)) (ls' := [(0, .ref rd), (1, .int (nI (u + 1))), (2, .int (nI (nu u)))]) 1 dRd_takeUnknowns_74 rfl (nI_add u 1) (by decide) rfl ?_
      refine mn_goto 2 dRd_takeUnknowns_77 (by decide) ?_
      refine mn_R.sub [0, 1] (ls' := [(0, .ref rd), (1, .int (nI (u + 1)))]) rfl ?_
      refine ih (u + 1) g8 (by omega) (by omega) (((hfr.set eg2 (by show (rd + 5) = rd ∨ (rd + 5) = rd + 1 + 1 ∨ (rd + 5) = rd + 1 + 2 ∨ (rd + 5) = rd + 1 + 3 ∨ (rd + 5) = rd + 5; omega)).set eg3 (by show rd = rd ∨ rd = rd + 1 + 1 ∨ rd = rd + 1 + 2 ∨ rd = rd + 1 + 3 ∨ rd = rd + 5; omega)).tr (hf8.mo (fun q h => by have h9 : q = rd + 1 + 1 ∨ q = rd + 1 + 2 ∨ q = rd + 1 + 3 := h; show q = rd ∨ q = rd + 1 + 1 ∨ q = rd + 1 + 2 ∨ q = rd + 1 + 3 ∨ q = rd + 5; omega))) hR8 ha8 ?_ ?_ ?_ hp8 hE8
      · show mn_at g8 (rd + 1 + 3) (.inl (0, 4080, .inl (fun j => nI (tkB (tuB pb nu w X u) (nu u) w (w + 12) (X u) j)))); rw [← hw]; exact hb8
      · show mn_at g8 (rd + 1 + 1) (.inl (0, 60, .inl (fun j => nI (va_up (tuA ln nu (fun v => X v 6) u) (nu u) (X u 6) j)))); unfold tkL at hl8; rw [if_pos (by omega)] at hl8; exact hl8
      · show mn_at g8 (rd + 1 + 2) (.inl (0, 60, .inl (fun j => nI (va_up (tuA sn nu (fun v => X v 7) u) (nu u) (X u 7) j)))); unfold tkS at hs8; rw [if_pos (by omega)] at hs8; exact hs8
set_option maxRecDepth 100000 in
theorem c_Rd_tu {E : mn_En} {g : mn_H} {rd sz rp pr ma m w : Nat} {dn : Int32} {pb ln sn : Nat → Nat} {pl : Nat → Option Nat} {un gv : Nat} {rw : Nat → Nat → Nat} {nu : Nat → Nat} (hR : mn_at g rd (.inr (3, [.ref (rd + 1), .ref (rd + 5), .ref (rd + 6), .int dn, .int (nI sz), .int (nI rp), .int (nI pr), .int (nI ma)]))) (ha : mn_at g (rd + 1) (.inr (2, [.ref (rd + 1 + 3), .ref (rd + 1 + 1), .ref (rd + 1 + 2), .int (nI m), .int (nI w)]))) (hb : mn_at g (rd + 1 + 3) (.inl (0, 4080, .inl (fun j => nI (pb j))))) (hl : mn_at g (rd + 1 + 1) (.inl (0, 60, .inl (fun j => nI (ln j))))) (hs : mn_at g (rd + 1 + 2) (.inl (0, 60, .inl (fun j => nI (sn j))))) (hp : mn_at g (rd + 5) (.inl (0, 63, .inl (fun j => onI (pl j))))) (hE : EqP g (rd + 6) rw nu un gv) {X : Nat → Nat → Nat} (hm : m ≤ 60) (hw : sz = w + 12) (hw0 : 0 < w) (hsz : sz ≤ 80) (hmw : m * w ≤ 4080) (hun : un ≤ 3) (hnu : ∀ i, i < un → nu i < m) (hsz20 : 20 ≤ sz) (hX : X = (fun u i => rw u (3 + i))) : mn_R E MRd_takeUnknowns 2 45 0 0 0 [(0, .ref rd)] [] g (fun x g' => x = none ∧ mn_fr (fun q => q = rd ∨ q = rd + 1 + 1 ∨ q = rd + 1 + 2 ∨ q = rd + 1 + 3 ∨ q = rd + 5) g g' ∧ mn_at g' rd (.inr (3, [.ref (rd + 1), .ref (rd + 5), .ref (rd + 6), .int dn, .int (nI sz), .int (nI rp), .int (nI pr), .int (nI (ma + un))])) ∧ mn_at g' (rd + 1) (.inr (2, [.ref (rd + 1 + 3), .ref (rd + 1 + 1), .ref (rd + 1 + 2), .int (nI m), .int (nI w)])) ∧ mn_at g' (rd + 1 + 3) (.inl (0, 4080, .inl (fun j => nI ((tuB pb nu w X un) j)))) ∧ mn_at g' (rd + 1 + 1) (.inl (0, 60, .inl (fun j => nI ((tuA ln nu (fun v => X v 6) un) j)))) ∧ mn_at g' (rd + 1 + 2) (.inl (0, 60, .inl (fun j => nI ((tuA sn nu (fun v => X v 7) un) j)))) ∧ mn_at g' (rd + 5) (.inl (0, 63, .inl (fun j => onI ((tuP pl nu un) j)))) ∧ EqP g' (rd + 6) rw nu un gv) := by
  have hE1 := hE.1
  refine mn_iconst (v := 0) dRd_takeUnknowns_0 (by decide) ?_
  refine mn_istore_n (ls' := [(0, .ref rd), (1, .int 0)]) dRd_takeUnknowns_1 rfl (by decide) rfl ?_
  exact c_Rd_tu_l hm hw hw0 hsz hmw hun hnu hsz20 hX (un + 1) 0 g (by omega) (by omega) mn_fr.rf hR ha hb hl hs hp hE
