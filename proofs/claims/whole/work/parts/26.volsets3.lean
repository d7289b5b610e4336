set_option maxRecDepth 100000 in
theorem c_VS_read_bad {E : mn_En} {g : mn_H} {vs t s u y z rd op : Nat} (hL : Lay vs t s u y z rd op) (hV : mn_at g vs (.inr (10, [.ref t, .ref s, .ref u, .ref y, .ref z, .ref rd, .ref op]))) {x : Int32} (hx : x < 0 ∨ 255 < x) : mn_R E MVS_read 7 159 0 0 0 [(0, .ref vs), (1, .int x)] [] g (mn_is (some (.int (-1))) g) := by
  obtain ⟨l1, l2, l3, l4, l5, l6, l7⟩ := hL
  refine mn_iload_n 1 dVS_read_0 rfl rfl ?_
  refine mn_if_lt 11 dVS_read_1 (by decide) (fun c1 => ?_) (fun c1 => ?_)
  · refine mn_iconst (v := -1) dVS_read_11 (by decide) ?_
    exact mn_iret rfl dVS_read_12 ⟨rfl, rfl⟩
  · refine mn_iload_n 1 dVS_read_4 rfl rfl ?_
    refine mn_sipush (v := 255) dVS_read_5 (by decide) ?_
    refine mn_icmp_le 13 dVS_read_8 (by decide) (fun c2 => ?_) (fun c2 => ?_)
    · exact absurd hx (fun q => q.elim c1 (Int32.not_lt.mpr c2))
    · refine mn_iconst (v := -1) dVS_read_11 (by decide) ?_
      exact mn_iret rfl dVS_read_12 ⟨rfl, rfl⟩
set_option maxRecDepth 100000 in
theorem c_VS_read_none {E : mn_En} {g : mn_H} {vs t s u y z rd op : Nat} (hL : Lay vs t s u y z rd op) (hV : mn_at g vs (.inr (10, [.ref t, .ref s, .ref u, .ref y, .ref z, .ref rd, .ref op]))) {pi ss : Nat → Nat} {sb : Nat → Nat → Nat} (hSl : SlP g z pi ss sb) {sz0 rp0 pr0 ma0 td : Nat} {dn : Int32} (hR : mn_at g rd (.inr (3, [.ref (rd + 1), .ref (rd + 5), .ref (rd + 6), .int dn, .int (nI sz0), .int (nI rp0), .int (nI pr0), .int (nI ma0)]))) (hO : mn_at g op (.inr (1, [.ref (op + 1), .ref (op + 2), .ref (op + 3), .int (nI td)]))) {x : Nat} (hx : x < 256) (hf : fst' (fun k => sb k 2 = x ∧ stN (sb k) (ss k) = 1) 60 60 = none) : mn_R E MVS_read 7 159 0 0 0 [(0, .ref vs), (1, .int (nI x))] [] g (fun v g' => v = some (.int (-2)) ∧ mn_fr (fun q => q = rd ∨ q = op) g g' ∧ mn_at g' rd (.inr (3, [.ref (rd + 1), .ref (rd + 5), .ref (rd + 6), .int 0, .int (nI sz0), .int (nI rp0), .int (nI pr0), .int (nI ma0)])) ∧ mn_at g' op (.inr (1, [.ref (op + 1), .ref (op + 2), .ref (op + 3), .int 0]))) := by
  obtain ⟨l1, l2, l3, l4, l5, l6, l7⟩ := hL
  have hz := hSl.1
  refine mn_iload_n 1 dVS_read_0 rfl rfl ?_
  refine mn_if_lt 11 dVS_read_1 (by decide) (fun c1 => ?_) (fun c1 => ?_)
  · exact absurd c1 (nI_pos (by omega))
  · refine mn_iload_n 1 dVS_read_4 rfl rfl ?_
    refine mn_sipush (v := 255) dVS_read_5 (by decide) ?_
    refine mn_icmp_le 13 dVS_read_8 (by decide) (fun c2 => ?_) (fun c2 => ?_)
    · have c2 := (nI_leI (a := x) (b := 255) (by omega) (by omega)).mp c2
      refine mn_aload_n 0 dVS_read_13 rfl rfl ?_
      refine mn_get okVS 5 lVS_47 (by decide) hV rfl dVS_read_14 ?_
      refine mn_aload_n 0 dVS_read_17 rfl rfl ?_
      refine mn_get okVS 4 lVS_40 (by decide) hV rfl dVS_read_18 ?_
      refine mn_iload_n 1 dVS_read_21 rfl rfl ?_
      refine mn_callV (d' := 6) (w' := 134) (nc' := 0) (ns' := 0) (As := [.ref z, .int (nI x)]) (st := []) okRd_gather lVS_156 dVS_read_22 hR rfl rfl rfl rfl (Nat.le_of_ble_eq_true rfl) (Nat.le_of_ble_eq_true rfl) (by decide) (c_Rd_gather_none hR hSl hx hf (by omega)) (fun v g3 hq => ?_)
      obtain ⟨rfl, fg3, hR_g3⟩ := hq
      have hR_g3 : mn_at g3 rd (.inr (3, [.ref (rd + 1), .ref (rd + 5), .ref (rd + 6), .int 0, .int (nI sz0), .int (nI rp0), .int (nI pr0), .int (nI ma0)])) := hR_g3
      show mn_R E MVS_read 7 159 _ _ 25 [(0, .ref vs), (1, .int (nI x))] [.int (-2)] g3 _
      have hV_g3 := hV.fr fg3 (fun h => by have h9 : vs = rd := h; omega)
      have hz_g3 := hz.fr fg3 (fun h => by have h9 : z = rd := h; omega)
      have hO_g3 := hO.fr fg3 (fun h => by have h9 : op = rd := h; omega)
      have hSl_g3 : SlP g3 z pi ss sb := hSl.fr fg3 (fun q q1 q2 h => by have h9 : q = rd := h; omega)
      refine mn_istore_n (ls' := [(0, .ref vs), (1, .int (nI x)), (2, .int (-2))]) dVS_read_25 rfl (by decide) rfl ?_
      refine mn_aload_n 0 dVS_read_26 rfl rfl ?_
      refine mn_get okVS 5 lVS_47 (by decide) hV_g3 rfl dVS_read_27 ?_
      refine mn_get okRd 3 lVS_160 (by decide) hR_g3 rfl dVS_read_30 ?_
      refine mn_if_eq 53 dVS_read_33 (by decide) (fun c4 => ?_) (fun c4 => ?_)
      · refine mn_aload_n 0 dVS_read_53 rfl rfl ?_
        refine mn_get okVS 6 lVS_54 (by decide) hV_g3 rfl dVS_read_54 ?_
        refine mn_iconst (v := 0) dVS_read_57 (by decide) ?_
        refine mn_putf okOp 3 lVS_169 (by decide) rfl hO_g3 rfl rfl (Nat.le_of_ble_eq_true rfl) dVS_read_58 ?_
        obtain ⟨g5, eg5⟩ : ∃ gg_, gg_ = mn_set g3 op (.inr (1, [.ref (op + 1), .ref (op + 2), .ref (op + 3), .int 0])) := ⟨_, rfl⟩
        refine mn_R.toG eg5 ?_
        have hV_g5 : mn_at g5 vs (.inr (10, [.ref t, .ref s, .ref u, .ref y, .ref z, .ref rd, .ref op])) := by rw [eg5]; exact hV_g3.off (by omega)
        have hz_g5 : mn_at g5 z (.inr (5, [.ref (z + 1)])) := by rw [eg5]; exact hz_g3.off (by omega)
        have hR_g5 : mn_at g5 rd (.inr (3, [.ref (rd + 1), .ref (rd + 5), .ref (rd + 6), .int 0, .int (nI sz0), .int (nI rp0), .int (nI pr0), .int (nI ma0)])) := by rw [eg5]; exact hR_g3.off (by omega)
        have hO_g5 : mn_at g5 op (.inr (1, [.ref (op + 1), .ref (op + 2), .ref (op + 3), .int 0])) := by rw [eg5]; exact hO_g3.same
        have hSl_g5 : SlP g5 z pi ss sb := by rw [eg5]; exact hSl_g3.fr (mn_fr_set (S := fun q => q = op) rfl) (fun q q1 q2 h => by have h9 : q = op := h; omega)
        refine mn_iload_n 2 dVS_read_61 rfl rfl ?_
        exact mn_iret rfl dVS_read_62 ⟨rfl, ((mn_fr.rf.tr (fg3.mo (fun q h => by have h9 : q = rd := h; show q = rd ∨ q = op; omega))).set eg5 (by show op = rd ∨ op = op; omega)), hR_g5, hO_g5⟩
      · exact absurd c4 (by decide)
    · have c2 := mt (nI_leI (a := x) (b := 255) (by omega) (by omega)).mpr c2
      refine mn_iconst (v := -1) dVS_read_11 (by decide) ?_
      exact mn_iret rfl dVS_read_12 (absurd hx (by omega))
set_option maxRecDepth 100000 in
theorem c_VS_read_no {E : mn_En} {g : mn_H} {vs t s u y z rd op : Nat} (hL : Lay vs t s u y z rd op) (hV : mn_at g vs (.inr (10, [.ref t, .ref s, .ref u, .ref y, .ref z, .ref rd, .ref op]))) {pi ss : Nat → Nat} {sb : Nat → Nat → Nat} (hSl : SlP g z pi ss sb) {un gv : Nat} {rw : Nat → Nat → Nat} {nu : Nat → Nat} (hE : EqP g (rd + 6) rw nu un gv) {sz0 rp0 pr0 ma0 m0 w0 : Nat} {dn : Int32} {pb ln sn : Nat → Nat} {pl : Nat → Option Nat} (hR : mn_at g rd (.inr (3, [.ref (rd + 1), .ref (rd + 5), .ref (rd + 6), .int dn, .int (nI sz0), .int (nI rp0), .int (nI pr0), .int (nI ma0)]))) (ha : mn_at g (rd + 1) (.inr (2, [.ref (rd + 1 + 3), .ref (rd + 1 + 1), .ref (rd + 1 + 2), .int (nI m0), .int (nI w0)]))) (hb : mn_at g (rd + 1 + 3) (.inl (0, 4080, .inl (fun j => nI (pb j))))) (hl : mn_at g (rd + 1 + 1) (.inl (0, 60, .inl (fun j => nI (ln j))))) (hs : mn_at g (rd + 1 + 2) (.inl (0, 60, .inl (fun j => nI (sn j))))) (hp : mn_at g (rd + 5) (.inl (0, 63, .inl (fun j => onI (pl j))))) {td : Nat} {oA oL oW : Nat → Nat} (hO : mn_at g op (.inr (1, [.ref (op + 1), .ref (op + 2), .ref (op + 3), .int (nI td)]))) (hOa : mn_at g (op + 1) (.inl (0, 40, .inl (fun j => nI (oA j))))) (hOl : mn_at g (op + 2) (.inl (0, 40, .inl (fun j => nI (oL j))))) (hOw : mn_at g (op + 3) (.inl (0, 40, .inl (fun j => nI (oW j))))) {rp m w x f ms : Nat} (hx : x < 256) (hff : f < 60) (em : sb f 4 = m) (er : sb f 5 = rp) (es : ss f = w + 12) (hm : m ≤ 60) (hm1 : 1 ≤ m) (hrp : rp ≤ 3) (hw8 : 8 ≤ w) (hw68 : w ≤ 68) (hmw : m * w ≤ 4080) (hbz : ∀ j, 4080 ≤ j → pb j = 0) (hlz : ∀ j, 60 ≤ j → ln j = 0) (hsz0 : ∀ j, 60 ≤ j → sn j = 0) (hpz : ∀ j, 63 ≤ j → pl j = some 0) (hf : fst' (fun k => sb k 2 = x ∧ stN (sb k) (ss k) = 1) 60 60 = some f) (hms : (cnt (fun j => (plK ss sb x f 60) j ≠ none) m) + ms = m) (hA : ms = 0 ∨ cnt (fun j => ¬ onI ((plK ss sb x f 60) (m + j)) = -2) rp < ms) : mn_R E MVS_read 7 159 0 0 0 [(0, .ref vs), (1, .int (nI x))] [] g (fun v g' => v = some (.int (nI ((cnt (fun j => (plK ss sb x f 60) j ≠ none) m)))) ∧ mn_fr (fun q => rd ≤ q ∧ q < op + 4) g g' ∧ (mn_at g' rd (.inr (3, [.ref (rd + 1), .ref (rd + 5), .ref (rd + 6), .int 1, .int (nI (w + 12)), .int (nI rp), .int (nI (cnt (fun j => (plK ss sb x f 60) j ≠ none) m)), .int 0])) ∧ mn_at g' (rd + 1) (.inr (2, [.ref (rd + 1 + 3), .ref (rd + 1 + 1), .ref (rd + 1 + 2), .int (nI m), .int (nI w)])) ∧ mn_at g' (rd + 1 + 3) (.inl (0, 4080, .inl (fun j => nI ((gB m w (plK ss sb x f 60) sb) j)))) ∧ mn_at g' (rd + 1 + 1) (.inl (0, 60, .inl (fun j => nI ((gL m (plK ss sb x f 60) sb) j)))) ∧ mn_at g' (rd + 1 + 2) (.inl (0, 60, .inl (fun j => nI ((gS m (plK ss sb x f 60) sb) j)))) ∧ mn_at g' (rd + 5) (.inl (0, 63, .inl (fun j => onI ((plK ss sb x f 60) j))))) ∧ (∃ (r9 : Nat → Nat → Nat) (n9 : Nat → Nat) (u9 v9 : Nat), EqP g' (rd + 6) r9 n9 u9 v9) ∧ ∃ (t9 : Nat) (A9 L9 W9 : Nat → Nat), mn_at g' op (.inr (1, [.ref (op + 1), .ref (op + 2), .ref (op + 3), .int (nI t9)])) ∧ mn_at g' (op + 1) (.inl (0, 40, .inl (fun j => nI (A9 j)))) ∧ mn_at g' (op + 2) (.inl (0, 40, .inl (fun j => nI (L9 j)))) ∧ mn_at g' (op + 3) (.inl (0, 40, .inl (fun j => nI (W9 j)))) ∧ t9 ≤ 40 ∧ Tld (gB m w (plK ss sb x f 60) sb) (gL m (plK ss sb x f 60) sb) (gS m (plK ss sb x f 60) sb) m w t9 A9 L9 W9 ∧ (t9 = 40 ∨ tsq (gB m w (plK ss sb x f 60) sb) (gL m (plK ss sb x f 60) sb) (gS m (plK ss sb x f 60) sb) m w t9 = none)) := by
  obtain ⟨l1, l2, l3, l4, l5, l6, l7⟩ := hL
  have hz := hSl.1
  refine mn_iload_n 1 dVS_read_0 rfl rfl ?_
  refine mn_if_lt 11 dVS_read_1 (by decide) (fun c1 => ?_) (fun c1 => ?_)
  · exact absurd c1 (nI_pos (by omega))
  · refine mn_iload_n 1 dVS_read_4 rfl rfl ?_
    refine mn_sipush (v := 255) dVS_read_5 (by decide) ?_
    refine mn_icmp_le 13 dVS_read_8 (by decide) (fun c2 => ?_) (fun c2 => ?_)
    · have c2 := (nI_leI (a := x) (b := 255) (by omega) (by omega)).mp c2
      refine mn_aload_n 0 dVS_read_13 rfl rfl ?_
      refine mn_get okVS 5 lVS_47 (by decide) hV rfl dVS_read_14 ?_
      refine mn_aload_n 0 dVS_read_17 rfl rfl ?_
      refine mn_get okVS 4 lVS_40 (by decide) hV rfl dVS_read_18 ?_
      refine mn_iload_n 1 dVS_read_21 rfl rfl ?_
      refine mn_callV (d' := 6) (w' := 134) (nc' := 0) (ns' := 0) (As := [.ref z, .int (nI x)]) (st := []) okRd_gather lVS_156 dVS_read_22 hR rfl rfl rfl rfl (Nat.le_of_ble_eq_true rfl) (Nat.le_of_ble_eq_true rfl) (by decide) (c_Rd_gather_no hx hff em er es hm hm1 hrp (by omega) hw68 hmw (by omega) hR ha hb hl hs hp hE hSl hbz hlz hsz0 hpz hf hms hA) (fun v g3 hq => ?_)
      obtain ⟨rfl, fg3, hR_g3, ha_g3, hb_g3, hl_g3, hs_g3, hp_g3, r9, n9, u9, v9, hE9⟩ := hq
      show mn_R E MVS_read 7 159 _ _ 25 [(0, .ref vs), (1, .int (nI x))] [.int (nI (cnt (fun j => (plK ss sb x f 60) j ≠ none) m))] g3 _
      have hV_g3 := hV.fr fg3 (fun h => by have h9 : rd ≤ vs ∧ vs < rd + 12 := h; omega)
      have hz_g3 := hz.fr fg3 (fun h => by have h9 : rd ≤ z ∧ z < rd + 12 := h; omega)
      have hO_g3 := hO.fr fg3 (fun h => by have h9 : rd ≤ op ∧ op < rd + 12 := h; omega)
      have hOa_g3 := hOa.fr fg3 (fun h => by have h9 : rd ≤ (op + 1) ∧ (op + 1) < rd + 12 := h; omega)
      have hOl_g3 := hOl.fr fg3 (fun h => by have h9 : rd ≤ (op + 2) ∧ (op + 2) < rd + 12 := h; omega)
      have hOw_g3 := hOw.fr fg3 (fun h => by have h9 : rd ≤ (op + 3) ∧ (op + 3) < rd + 12 := h; omega)
      have hSl_g3 : SlP g3 z pi ss sb := hSl.fr fg3 (fun q q1 q2 h => by have h9 : rd ≤ q ∧ q < rd + 12 := h; omega)
      have hb9 : ∀ j, (gB m w (plK ss sb x f 60) sb) j < 256 := gB_lt hSl.2.2.2.2.2.2
      refine mn_istore_n (ls' := [(0, .ref vs), (1, .int (nI x)), (2, .int (nI (cnt (fun j => (plK ss sb x f 60) j ≠ none) m)))]) dVS_read_25 rfl (by decide) rfl ?_
      refine mn_aload_n 0 dVS_read_26 rfl rfl ?_
      refine mn_get okVS 5 lVS_47 (by decide) hV_g3 rfl dVS_read_27 ?_
      refine mn_get okRd 3 lVS_160 (by decide) hR_g3 rfl dVS_read_30 ?_
      refine mn_if_eq 53 dVS_read_33 (by decide) (fun c4 => ?_) (fun c4 => ?_)
      · exact absurd c4 (by decide)
      · refine mn_aload_n 0 dVS_read_36 rfl rfl ?_
        refine mn_get okVS 6 lVS_54 (by decide) hV_g3 rfl dVS_read_37 ?_
        refine mn_aload_n 0 dVS_read_40 rfl rfl ?_
        refine mn_get okVS 5 lVS_47 (by decide) hV_g3 rfl dVS_read_41 ?_
        refine mn_get okRd 0 lVS_164 (by decide) hR_g3 rfl dVS_read_44 ?_
        refine mn_callV (d' := 5) (w' := 114) (nc' := 0) (ns' := 0) (As := [.ref (rd + 1)]) (st := []) okOp_open lVS_165 dVS_read_47 hO_g3 rfl rfl rfl rfl (Nat.le_of_ble_eq_true rfl) (Nat.le_of_ble_eq_true rfl) (by decide) (c_O_open hO_g3 hOa_g3 hOl_g3 hOw_g3 ha_g3 hb_g3 hl_g3 hs_g3 (by omega) hw68 hmw hm (gB_lt hSl.2.2.2.2.2.2) (gL_lt hSl.2.2.2.2.2.2) (gS_lt hSl.2.2.2.2.2.2) (by omega)) (fun v g5 hq => ?_)
        obtain ⟨rfl, fg5, t9, A9, L9, W9, hO_g5, hOa_g5, hOl_g5, hOw_g5, o1, o2, o3⟩ := hq
        show mn_R E MVS_read 7 159 _ _ 50 [(0, .ref vs), (1, .int (nI x)), (2, .int (nI (cnt (fun j => (plK ss sb x f 60) j ≠ none) m)))] [] g5 _
        have hV_g5 := hV_g3.fr fg5 (fun h => by have h9 : vs = op ∨ vs = op + 1 ∨ vs = op + 2 ∨ vs = op + 3 := h; omega)
        have hz_g5 := hz_g3.fr fg5 (fun h => by have h9 : z = op ∨ z = op + 1 ∨ z = op + 2 ∨ z = op + 3 := h; omega)
        have hR_g5 := hR_g3.fr fg5 (fun h => by have h9 : rd = op ∨ rd = op + 1 ∨ rd = op + 2 ∨ rd = op + 3 := h; omega)
        have ha_g5 := ha_g3.fr fg5 (fun h => by have h9 : (rd + 1) = op ∨ (rd + 1) = op + 1 ∨ (rd + 1) = op + 2 ∨ (rd + 1) = op + 3 := h; omega)
        have hb_g5 := hb_g3.fr fg5 (fun h => by have h9 : (rd + 1 + 3) = op ∨ (rd + 1 + 3) = op + 1 ∨ (rd + 1 + 3) = op + 2 ∨ (rd + 1 + 3) = op + 3 := h; omega)
        have hl_g5 := hl_g3.fr fg5 (fun h => by have h9 : (rd + 1 + 1) = op ∨ (rd + 1 + 1) = op + 1 ∨ (rd + 1 + 1) = op + 2 ∨ (rd + 1 + 1) = op + 3 := h; omega)
        have hs_g5 := hs_g3.fr fg5 (fun h => by have h9 : (rd + 1 + 2) = op ∨ (rd + 1 + 2) = op + 1 ∨ (rd + 1 + 2) = op + 2 ∨ (rd + 1 + 2) = op + 3 := h; omega)
        have hp_g5 := hp_g3.fr fg5 (fun h => by have h9 : (rd + 5) = op ∨ (rd + 5) = op + 1 ∨ (rd + 5) = op + 2 ∨ (rd + 5) = op + 3 := h; omega)
        have hSl_g5 : SlP g5 z pi ss sb := hSl_g3.fr fg5 (fun q q1 q2 h => by have h9 : q = op ∨ q = op + 1 ∨ q = op + 2 ∨ q = op + 3 := h; omega)
        have hE_g5 : EqP g5 (rd + 6) r9 n9 u9 v9 := hE9.fr fg5 (fun q q1 q2 h => by have h9 : q = op ∨ q = op + 1 ∨ q = op + 2 ∨ q = op + 3 := h; omega)
        refine mn_goto 61 dVS_read_50 (by decide) ?_
        refine mn_iload_n 2 dVS_read_61 rfl rfl ?_
        exact mn_iret rfl dVS_read_62 ⟨rfl, ((mn_fr.rf.tr (fg3.mo (fun q h => by have h9 : rd ≤ q ∧ q < rd + 12 := h; show rd ≤ q ∧ q < op + 4; omega))).tr (fg5.mo (fun q h => by have h9 : q = op ∨ q = op + 1 ∨ q = op + 2 ∨ q = op + 3 := h; show rd ≤ q ∧ q < op + 4; omega))), ⟨hR_g5, ha_g5, hb_g5, hl_g5, hs_g5, hp_g5⟩, ⟨_, _, _, _, hE_g5⟩, t9, A9, L9, W9, hO_g5, hOa_g5, hOl_g5, hOw_g5, o1, o2, o3⟩
    · have c2 := mt (nI_leI (a := x) (b := 255) (by omega) (by omega)).mpr c2
      refine mn_iconst (v := -1) dVS_read_11 (by decide) ?_
      exact mn_iret rfl dVS_read_12 (absurd hx (by omega))
set_option maxRecDepth 100000 in
theorem c_VS_read_yes {E : mn_En} {g : mn_H} {vs t s u y z rd op : Nat} (hL : Lay vs t s u y z rd op) (hV : mn_at g vs (.inr (10, [.ref t, .ref s, .ref u, .ref y, .ref z, .ref rd, .ref op]))) {pi ss : Nat → Nat} {sb : Nat → Nat → Nat} (hSl : SlP g z pi ss sb) {un gv : Nat} {rw : Nat → Nat → Nat} {nu : Nat → Nat} (hE : EqP g (rd + 6) rw nu un gv) {sz0 rp0 pr0 ma0 m0 w0 : Nat} {dn : Int32} {pb ln sn : Nat → Nat} {pl : Nat → Option Nat} (hR : mn_at g rd (.inr (3, [.ref (rd + 1), .ref (rd + 5), .ref (rd + 6), .int dn, .int (nI sz0), .int (nI rp0), .int (nI pr0), .int (nI ma0)]))) (ha : mn_at g (rd + 1) (.inr (2, [.ref (rd + 1 + 3), .ref (rd + 1 + 1), .ref (rd + 1 + 2), .int (nI m0), .int (nI w0)]))) (hb : mn_at g (rd + 1 + 3) (.inl (0, 4080, .inl (fun j => nI (pb j))))) (hl : mn_at g (rd + 1 + 1) (.inl (0, 60, .inl (fun j => nI (ln j))))) (hs : mn_at g (rd + 1 + 2) (.inl (0, 60, .inl (fun j => nI (sn j))))) (hp : mn_at g (rd + 5) (.inl (0, 63, .inl (fun j => onI (pl j))))) {td : Nat} {oA oL oW : Nat → Nat} (hO : mn_at g op (.inr (1, [.ref (op + 1), .ref (op + 2), .ref (op + 3), .int (nI td)]))) (hOa : mn_at g (op + 1) (.inl (0, 40, .inl (fun j => nI (oA j))))) (hOl : mn_at g (op + 2) (.inl (0, 40, .inl (fun j => nI (oL j))))) (hOw : mn_at g (op + 3) (.inl (0, 40, .inl (fun j => nI (oW j))))) {rp m w x f ms : Nat} (hx : x < 256) (hff : f < 60) (em : sb f 4 = m) (er : sb f 5 = rp) (es : ss f = w + 12) (hm : m ≤ 60) (hm1 : 1 ≤ m) (hrp : rp ≤ 3) (hw8 : 8 ≤ w) (hw68 : w ≤ 68) (hmw : m * w ≤ 4080) (hbz : ∀ j, 4080 ≤ j → pb j = 0) (hlz : ∀ j, 60 ≤ j → ln j = 0) (hsz0 : ∀ j, 60 ≤ j → sn j = 0) (hpz : ∀ j, 63 ≤ j → pl j = some 0) (hf : fst' (fun k => sb k 2 = x ∧ stN (sb k) (ss k) = 1) 60 60 = some f) (hms : (cnt (fun j => (plK ss sb x f 60) j ≠ none) m) + ms = m) (hms0 : ¬ ms = 0) (hms1 : ms ≤ cnt (fun j => ¬ onI ((plK ss sb x f 60) (m + j)) = -2) rp) (hlB : ∀ j, (tuB (gB m w (plK ss sb x f 60) sb) (unK nu (plK ss sb x f 60) m) w (fun u i => elO (rkS (plK ss sb x f 60) sb (unK nu (plK ss sb x f 60) m) ms ms (gB m w (plK ss sb x f 60) sb) (gL m (plK ss sb x f 60) sb) (gS m (plK ss sb x f 60) sb) w m (w + 12) rw rp).1 ms ms u (3 + i)) ms) j < 256) (hlL : ∀ j, (tuA (gL m (plK ss sb x f 60) sb) (unK nu (plK ss sb x f 60) m) (fun v => (fun u i => elO (rkS (plK ss sb x f 60) sb (unK nu (plK ss sb x f 60) m) ms ms (gB m w (plK ss sb x f 60) sb) (gL m (plK ss sb x f 60) sb) (gS m (plK ss sb x f 60) sb) w m (w + 12) rw rp).1 ms ms u (3 + i)) v 6) ms) j < 256) (hlS : ∀ j, (tuA (gS m (plK ss sb x f 60) sb) (unK nu (plK ss sb x f 60) m) (fun v => (fun u i => elO (rkS (plK ss sb x f 60) sb (unK nu (plK ss sb x f 60) m) ms ms (gB m w (plK ss sb x f 60) sb) (gL m (plK ss sb x f 60) sb) (gS m (plK ss sb x f 60) sb) w m (w + 12) rw rp).1 ms ms u (3 + i)) v 7) ms) j < 256) : mn_R E MVS_read 7 159 0 0 0 [(0, .ref vs), (1, .int (nI x))] [] g (fun v g' => v = some (.int (nI ((cnt (fun j => (plK ss sb x f 60) j ≠ none) m) + (0 + ms)))) ∧ mn_fr (fun q => rd ≤ q ∧ q < op + 4) g g' ∧ (mn_at g' rd (.inr (3, [.ref (rd + 1), .ref (rd + 5), .ref (rd + 6), .int 1, .int (nI (w + 12)), .int (nI rp), .int (nI (cnt (fun j => (plK ss sb x f 60) j ≠ none) m)), .int (nI (0 + ms))])) ∧ mn_at g' (rd + 1) (.inr (2, [.ref (rd + 1 + 3), .ref (rd + 1 + 1), .ref (rd + 1 + 2), .int (nI m), .int (nI w)])) ∧ mn_at g' (rd + 1 + 3) (.inl (0, 4080, .inl (fun j => nI ((tuB (gB m w (plK ss sb x f 60) sb) (unK nu (plK ss sb x f 60) m) w (fun u i => elO (rkS (plK ss sb x f 60) sb (unK nu (plK ss sb x f 60) m) ms ms (gB m w (plK ss sb x f 60) sb) (gL m (plK ss sb x f 60) sb) (gS m (plK ss sb x f 60) sb) w m (w + 12) rw rp).1 ms ms u (3 + i)) ms) j)))) ∧ mn_at g' (rd + 1 + 1) (.inl (0, 60, .inl (fun j => nI ((tuA (gL m (plK ss sb x f 60) sb) (unK nu (plK ss sb x f 60) m) (fun v => (fun u i => elO (rkS (plK ss sb x f 60) sb (unK nu (plK ss sb x f 60) m) ms ms (gB m w (plK ss sb x f 60) sb) (gL m (plK ss sb x f 60) sb) (gS m (plK ss sb x f 60) sb) w m (w + 12) rw rp).1 ms ms u (3 + i)) v 6) ms) j)))) ∧ mn_at g' (rd + 1 + 2) (.inl (0, 60, .inl (fun j => nI ((tuA (gS m (plK ss sb x f 60) sb) (unK nu (plK ss sb x f 60) m) (fun v => (fun u i => elO (rkS (plK ss sb x f 60) sb (unK nu (plK ss sb x f 60) m) ms ms (gB m w (plK ss sb x f 60) sb) (gL m (plK ss sb x f 60) sb) (gS m (plK ss sb x f 60) sb) w m (w + 12) rw rp).1 ms ms u (3 + i)) v 7) ms) j)))) ∧ mn_at g' (rd + 5) (.inl (0, 63, .inl (fun j => onI ((tuP (plK ss sb x f 60) (unK nu (plK ss sb x f 60) m) ms) j))))) ∧ (∃ (r9 : Nat → Nat → Nat) (n9 : Nat → Nat) (u9 v9 : Nat), EqP g' (rd + 6) r9 n9 u9 v9) ∧ ∃ (t9 : Nat) (A9 L9 W9 : Nat → Nat), mn_at g' op (.inr (1, [.ref (op + 1), .ref (op + 2), .ref (op + 3), .int (nI t9)])) ∧ mn_at g' (op + 1) (.inl (0, 40, .inl (fun j => nI (A9 j)))) ∧ mn_at g' (op + 2) (.inl (0, 40, .inl (fun j => nI (L9 j)))) ∧ mn_at g' (op + 3) (.inl (0, 40, .inl (fun j => nI (W9 j)))) ∧ t9 ≤ 40 ∧ Tld (tuB (gB m w (plK ss sb x f 60) sb) (unK nu (plK ss sb x f 60) m) w (fun u i => elO (rkS (plK ss sb x f 60) sb (unK nu (plK ss sb x f 60) m) ms ms (gB m w (plK ss sb x f 60) sb) (gL m (plK ss sb x f 60) sb) (gS m (plK ss sb x f 60) sb) w m (w + 12) rw rp).1 ms ms u (3 + i)) ms) (tuA (gL m (plK ss sb x f 60) sb) (unK nu (plK ss sb x f 60) m) (fun v => (fun u i => elO (rkS (plK ss sb x f 60) sb (unK nu (plK ss sb x f 60) m) ms ms (gB m w (plK ss sb x f 60) sb) (gL m (plK ss sb x f 60) sb) (gS m (plK ss sb x f 60) sb) w m (w + 12) rw rp).1 ms ms u (3 + i)) v 6) ms) (tuA (gS m (plK ss sb x f 60) sb) (unK nu (plK ss sb x f 60) m) (fun v => (fun u i => elO (rkS (plK ss sb x f 60) sb (unK nu (plK ss sb x f 60) m) ms ms (gB m w (plK ss sb x f 60) sb) (gL m (plK ss sb x f 60) sb) (gS m (plK ss sb x f 60) sb) w m (w + 12) rw rp).1 ms ms u (3 + i)) v 7) ms) m w t9 A9 L9 W9 ∧ (t9 = 40 ∨ tsq (tuB (gB m w (plK ss sb x f 60) sb) (unK nu (plK ss sb x f 60) m) w (fun u i => elO (rkS (plK ss sb x f 60) sb (unK nu (plK ss sb x f 60) m) ms ms (gB m w (plK ss sb x f 60) sb) (gL m (plK ss sb x f 60) sb) (gS m (plK ss sb x f 60) sb) w m (w + 12) rw rp).1 ms ms u (3 + i)) ms) (tuA (gL m (plK ss sb x f 60) sb) (unK nu (plK ss sb x f 60) m) (fun v => (fun u i => elO (rkS (plK ss sb x f 60) sb (unK nu (plK ss sb x f 60) m) ms ms (gB m w (plK ss sb x f 60) sb) (gL m (plK ss sb x f 60) sb) (gS m (plK ss sb x f 60) sb) w m (w + 12) rw rp).1 ms ms u (3 + i)) v 6) ms) (tuA (gS m (plK ss sb x f 60) sb) (unK nu (plK ss sb x f 60) m) (fun v => (fun u i => elO (rkS (plK ss sb x f 60) sb (unK nu (plK ss sb x f 60) m) ms ms (gB m w (plK ss sb x f 60) sb) (gL m (plK ss sb x f 60) sb) (gS m (plK ss sb x f 60) sb) w m (w + 12) rw rp).1 ms ms u (3 + i)) v 7) ms) m w t9 = none)) := by
  obtain ⟨l1, l2, l3, l4, l5, l6, l7⟩ := hL
  have hz := hSl.1
  refine mn_iload_n 1 dVS_read_0 rfl rfl ?_
  refine mn_if_lt 11 dVS_read_1 (by decide) (fun c1 => ?_) (fun c1 => ?_)
  · exact absurd c1 (nI_pos (by omega))
  · refine mn_iload_n 1 dVS_read_4 rfl rfl ?_
    refine mn_sipush (v := 255) dVS_read_5 (by decide) ?_
    refine mn_icmp_le 13 dVS_read_8 (by decide) (fun c2 => ?_) (fun c2 => ?_)
    · have c2 := (nI_leI (a := x) (b := 255) (by omega) (by omega)).mp c2
      refine mn_aload_n 0 dVS_read_13 rfl rfl ?_
      refine mn_get okVS 5 lVS_47 (by decide) hV rfl dVS_read_14 ?_
      refine mn_aload_n 0 dVS_read_17 rfl rfl ?_
      refine mn_get okVS 4 lVS_40 (by decide) hV rfl dVS_read_18 ?_
      refine mn_iload_n 1 dVS_read_21 rfl rfl ?_
      refine mn_callV (d' := 6) (w' := 134) (nc' := 0) (ns' := 0) (As := [.ref z, .int (nI x)]) (st := []) okRd_gather lVS_156 dVS_read_22 hR rfl rfl rfl rfl (Nat.le_of_ble_eq_true rfl) (Nat.le_of_ble_eq_true rfl) (by decide) (c_Rd_gather_yes hx hff em er es hm hm1 hrp (by omega) hw68 hmw (by omega) hR ha hb hl hs hp hE hSl hbz hlz hsz0 hpz hf hms hms0 hms1 hw8) (fun v g3 hq => ?_)
      obtain ⟨rfl, fg3, hR_g3, ha_g3, hb_g3, hl_g3, hs_g3, hp_g3, r9, n9, u9, v9, hE9⟩ := hq
      show mn_R E MVS_read 7 159 _ _ 25 [(0, .ref vs), (1, .int (nI x))] [.int (nI ((cnt (fun j => (plK ss sb x f 60) j ≠ none) m) + (0 + ms)))] g3 _
      have hV_g3 := hV.fr fg3 (fun h => by have h9 : rd ≤ vs ∧ vs < rd + 12 := h; omega)
      have hz_g3 := hz.fr fg3 (fun h => by have h9 : rd ≤ z ∧ z < rd + 12 := h; omega)
      have hO_g3 := hO.fr fg3 (fun h => by have h9 : rd ≤ op ∧ op < rd + 12 := h; omega)
      have hOa_g3 := hOa.fr fg3 (fun h => by have h9 : rd ≤ (op + 1) ∧ (op + 1) < rd + 12 := h; omega)
      have hOl_g3 := hOl.fr fg3 (fun h => by have h9 : rd ≤ (op + 2) ∧ (op + 2) < rd + 12 := h; omega)
      have hOw_g3 := hOw.fr fg3 (fun h => by have h9 : rd ≤ (op + 3) ∧ (op + 3) < rd + 12 := h; omega)
      have hSl_g3 : SlP g3 z pi ss sb := hSl.fr fg3 (fun q q1 q2 h => by have h9 : rd ≤ q ∧ q < rd + 12 := h; omega)
      refine mn_istore_n (ls' := [(0, .ref vs), (1, .int (nI x)), (2, .int (nI ((cnt (fun j => (plK ss sb x f 60) j ≠ none) m) + (0 + ms))))]) dVS_read_25 rfl (by decide) rfl ?_
      refine mn_aload_n 0 dVS_read_26 rfl rfl ?_
      refine mn_get okVS 5 lVS_47 (by decide) hV_g3 rfl dVS_read_27 ?_
      refine mn_get okRd 3 lVS_160 (by decide) hR_g3 rfl dVS_read_30 ?_
      refine mn_if_eq 53 dVS_read_33 (by decide) (fun c4 => ?_) (fun c4 => ?_)
      · exact absurd c4 (by decide)
      · refine mn_aload_n 0 dVS_read_36 rfl rfl ?_
        refine mn_get okVS 6 lVS_54 (by decide) hV_g3 rfl dVS_read_37 ?_
        refine mn_aload_n 0 dVS_read_40 rfl rfl ?_
        refine mn_get okVS 5 lVS_47 (by decide) hV_g3 rfl dVS_read_41 ?_
        refine mn_get okRd 0 lVS_164 (by decide) hR_g3 rfl dVS_read_44 ?_
        refine mn_callV (d' := 5) (w' := 114) (nc' := 0) (ns' := 0) (As := [.ref (rd + 1)]) (st := []) okOp_open lVS_165 dVS_read_47 hO_g3 rfl rfl rfl rfl (Nat.le_of_ble_eq_true rfl) (Nat.le_of_ble_eq_true rfl) (by decide) (c_O_open hO_g3 hOa_g3 hOl_g3 hOw_g3 ha_g3 hb_g3 hl_g3 hs_g3 (by omega) hw68 hmw hm hlB hlL hlS (by omega)) (fun v g5 hq => ?_)
        obtain ⟨rfl, fg5, t9, A9, L9, W9, hO_g5, hOa_g5, hOl_g5, hOw_g5, o1, o2, o3⟩ := hq
        show mn_R E MVS_read 7 159 _ _ 50 [(0, .ref vs), (1, .int (nI x)), (2, .int (nI ((cnt (fun j => (plK ss sb x f 60) j ≠ none) m) + (0 + ms))))] [] g5 _
        have hV_g5 := hV_g3.fr fg5 (fun h => by have h9 : vs = op ∨ vs = op + 1 ∨ vs = op + 2 ∨ vs = op + 3 := h; omega)
        have hz_g5 := hz_g3.fr fg5 (fun h => by have h9 : z = op ∨ z = op + 1 ∨ z = op + 2 ∨ z = op + 3 := h; omega)
        have hR_g5 := hR_g3.fr fg5 (fun h => by have h9 : rd = op ∨ rd = op + 1 ∨ rd = op + 2 ∨ rd = op + 3 := h; omega)
        have ha_g5 := ha_g3.fr fg5 (fun h => by have h9 : (rd + 1) = op ∨ (rd + 1) = op + 1 ∨ (rd + 1) = op + 2 ∨ (rd + 1) = op + 3 := h; omega)
        have hb_g5 := hb_g3.fr fg5 (fun h => by have h9 : (rd + 1 + 3) = op ∨ (rd + 1 + 3) = op + 1 ∨ (rd + 1 + 3) = op + 2 ∨ (rd + 1 + 3) = op + 3 := h; omega)
        have hl_g5 := hl_g3.fr fg5 (fun h => by have h9 : (rd + 1 + 1) = op ∨ (rd + 1 + 1) = op + 1 ∨ (rd + 1 + 1) = op + 2 ∨ (rd + 1 + 1) = op + 3 := h; omega)
        have hs_g5 := hs_g3.fr fg5 (fun h => by have h9 : (rd + 1 + 2) = op ∨ (rd + 1 + 2) = op + 1 ∨ (rd + 1 + 2) = op + 2 ∨ (rd + 1 + 2) = op + 3 := h; omega)
        have hp_g5 := hp_g3.fr fg5 (fun h => by have h9 : (rd + 5) = op ∨ (rd + 5) = op + 1 ∨ (rd + 5) = op + 2 ∨ (rd + 5) = op + 3 := h; omega)
        have hSl_g5 : SlP g5 z pi ss sb := hSl_g3.fr fg5 (fun q q1 q2 h => by have h9 : q = op ∨ q = op + 1 ∨ q = op + 2 ∨ q = op + 3 := h; omega)
        have hE_g5 : EqP g5 (rd + 6) r9 n9 u9 v9 := hE9.fr fg5 (fun q q1 q2 h => by have h9 : q = op ∨ q = op + 1 ∨ q = op + 2 ∨ q = op + 3 := h; omega)
        refine mn_goto 61 dVS_read_50 (by decide) ?_
        refine mn_iload_n 2 dVS_read_61 rfl rfl ?_
        exact mn_iret rfl dVS_read_62 ⟨rfl, ((mn_fr.rf.tr (fg3.mo (fun q h => by have h9 : rd ≤ q ∧ q < rd + 12 := h; show rd ≤ q ∧ q < op + 4; omega))).tr (fg5.mo (fun q h => by have h9 : q = op ∨ q = op + 1 ∨ q = op + 2 ∨ q = op + 3 := h; show rd ≤ q ∧ q < op + 4; omega))), ⟨hR_g5, ha_g5, hb_g5, hl_g5, hs_g5, hp_g5⟩, ⟨_, _, _, _, hE_g5⟩, t9, A9, L9, W9, hO_g5, hOa_g5, hOl_g5, hOw_g5, o1, o2, o3⟩
    · have c2 := mt (nI_leI (a := x) (b := 255) (by omega) (by omega)).mpr c2
      refine mn_iconst (v := -1) dVS_read_11 (by decide) ?_
      exact mn_iret rfl dVS_read_12 (absurd hx (by omega))
set_option maxRecDepth 100000 in
theorem c_VS_found_bad {E : mn_En} {g : mn_H} {vs t s u y z rd op : Nat} (hL : Lay vs t s u y z rd op) (hV : mn_at g vs (.inr (10, [.ref t, .ref s, .ref u, .ref y, .ref z, .ref rd, .ref op]))) {x : Int32} (hx : x < 0 ∨ 5 < x) : mn_R E MVS_found 1 22 0 0 0 [(0, .ref vs), (1, .int x)] [] g (mn_is (some (.int (-1))) g) := by
  obtain ⟨l1, l2, l3, l4, l5, l6, l7⟩ := hL
  refine mn_iload_n 1 dVS_found_0 rfl rfl ?_
  refine mn_if_lt 9 dVS_found_1 (by decide) (fun c1 => ?_) (fun c1 => ?_)
  · refine mn_iconst (v := -1) dVS_found_9 (by decide) ?_
    exact mn_iret rfl dVS_found_10 ⟨rfl, rfl⟩
  · refine mn_iload_n 1 dVS_found_4 rfl rfl ?_
    refine mn_iconst (v := 5) dVS_found_5 (by decide) ?_
    refine mn_icmp_le 11 dVS_found_6 (by decide) (fun c2 => ?_) (fun c2 => ?_)
    · exact absurd hx (fun q => q.elim c1 (Int32.not_lt.mpr c2))
    · refine mn_iconst (v := -1) dVS_found_9 (by decide) ?_
      exact mn_iret rfl dVS_found_10 ⟨rfl, rfl⟩
set_option maxRecDepth 100000 in
theorem c_VS_found_none {E : mn_En} {g : mn_H} {vs t s u y z rd op : Nat} (hL : Lay vs t s u y z rd op) (hV : mn_at g vs (.inr (10, [.ref t, .ref s, .ref u, .ref y, .ref z, .ref rd, .ref op]))) {sz rp pr ma : Nat} (hR : mn_at g rd (.inr (3, [.ref (rd + 1), .ref (rd + 5), .ref (rd + 6), .int 0, .int (nI sz), .int (nI rp), .int (nI pr), .int (nI ma)]))) {k : Nat} (hk : k ≤ 5) : mn_R E MVS_found 1 22 0 0 0 [(0, .ref vs), (1, .int (nI k))] [] g (mn_is (some (.int (-2))) g) := by
  obtain ⟨l1, l2, l3, l4, l5, l6, l7⟩ := hL
  refine mn_iload_n 1 dVS_found_0 rfl rfl ?_
  refine mn_if_lt 9 dVS_found_1 (by decide) (fun c1 => ?_) (fun c1 => ?_)
  · exact absurd c1 (nI_pos (by omega))
  · refine mn_iload_n 1 dVS_found_4 rfl rfl ?_
    refine mn_iconst (v := 5) dVS_found_5 (by decide) ?_
    refine mn_icmp_le 11 dVS_found_6 (by decide) (fun c2 => ?_) (fun c2 => ?_)
    · have c2 := (nI_leI (a := k) (b := 5) (by omega) (by omega)).mp c2
      refine mn_aload_n 0 dVS_found_11 rfl rfl ?_
      refine mn_get okVS 5 lVS_47 (by decide) hV rfl dVS_found_12 ?_
      refine mn_get okRd 3 lVS_160 (by decide) hR rfl dVS_found_15 ?_
      refine mn_if_ne 24 dVS_found_18 (by decide) (fun c3 => ?_) (fun c3 => ?_)
      · exact absurd c3 (by decide)
      · refine mn_bipush (v := (-2)) dVS_found_21 (by decide) ?_
        exact mn_iret rfl dVS_found_23 ⟨rfl, rfl⟩
    · have c2 := mt (nI_leI (a := k) (b := 5) (by omega) (by omega)).mpr c2
      refine mn_iconst (v := -1) dVS_found_9 (by decide) ?_
      exact mn_iret rfl dVS_found_10 (absurd hk (by omega))
set_option maxRecDepth 100000 in
theorem c_VS_found0 {E : mn_En} {g : mn_H} {vs t s u y z rd op : Nat} (hL : Lay vs t s u y z rd op) (hV : mn_at g vs (.inr (10, [.ref t, .ref s, .ref u, .ref y, .ref z, .ref rd, .ref op]))) {sz rp pr ma m w : Nat} {pb ln sn : Nat → Nat} {pl : Nat → Option Nat} (hR : mn_at g rd (.inr (3, [.ref (rd + 1), .ref (rd + 5), .ref (rd + 6), .int 1, .int (nI sz), .int (nI rp), .int (nI pr), .int (nI ma)]))) (ha : mn_at g (rd + 1) (.inr (2, [.ref (rd + 1 + 3), .ref (rd + 1 + 1), .ref (rd + 1 + 2), .int (nI m), .int (nI w)]))) (hb : mn_at g (rd + 1 + 3) (.inl (0, 4080, .inl (fun j => nI (pb j))))) (hl : mn_at g (rd + 1 + 1) (.inl (0, 60, .inl (fun j => nI (ln j))))) (hs : mn_at g (rd + 1 + 2) (.inl (0, 60, .inl (fun j => nI (sn j))))) (hp : mn_at g (rd + 5) (.inl (0, 63, .inl (fun j => onI (pl j))))) {td : Nat} {oA oL oW : Nat → Nat} (hO : mn_at g op (.inr (1, [.ref (op + 1), .ref (op + 2), .ref (op + 3), .int (nI td)]))) (hOa : mn_at g (op + 1) (.inl (0, 40, .inl (fun j => nI (oA j))))) (hOl : mn_at g (op + 2) (.inl (0, 40, .inl (fun j => nI (oL j))))) (hOw : mn_at g (op + 3) (.inl (0, 40, .inl (fun j => nI (oW j))))) (htd : td ≤ 40) : mn_R E MVS_found 1 22 0 0 0 [(0, .ref vs), (1, .int 0)] [] g (mn_is (some (.int (nI (m)))) g) := by
  obtain ⟨l1, l2, l3, l4, l5, l6, l7⟩ := hL
  refine mn_iload_n 1 dVS_found_0 rfl rfl ?_
  refine mn_if_lt 9 dVS_found_1 (by decide) (fun c1 => ?_) (fun c1 => ?_)
  · exact absurd c1 (by decide)
  · refine mn_iload_n 1 dVS_found_4 rfl rfl ?_
    refine mn_iconst (v := 5) dVS_found_5 (by decide) ?_
    refine mn_icmp_le 11 dVS_found_6 (by decide) (fun c2 => ?_) (fun c2 => ?_)
    · refine mn_aload_n 0 dVS_found_11 rfl rfl ?_
      refine mn_get okVS 5 lVS_47 (by decide) hV rfl dVS_found_12 ?_
      refine mn_get okRd 3 lVS_160 (by decide) hR rfl dVS_found_15 ?_
      refine mn_if_ne 24 dVS_found_18 (by decide) (fun c3 => ?_) (fun c3 => ?_)
      · refine mn_iload_n 1 dVS_found_24 rfl rfl ?_
        refine mn_tableIn (off := 35) 60 dVS_found_25 (by decide) (by decide) (by decide) (by decide) ?_
        refine mn_aload_n 0 dVS_found_60 rfl rfl ?_
        refine mn_get okVS 5 lVS_47 (by decide) hV rfl dVS_found_61 ?_
        refine mn_get okRd 0 lVS_164 (by decide) hR rfl dVS_found_64 ?_
        refine mn_get okPc 3 lVS_172 (by decide) ha rfl dVS_found_67 ?_
        exact mn_iret rfl dVS_found_70 ⟨rfl, rfl⟩
      · exact absurd c3 (by decide)
    · exact absurd c2 (by decide)
set_option maxRecDepth 100000 in
theorem c_VS_found1 {E : mn_En} {g : mn_H} {vs t s u y z rd op : Nat} (hL : Lay vs t s u y z rd op) (hV : mn_at g vs (.inr (10, [.ref t, .ref s, .ref u, .ref y, .ref z, .ref rd, .ref op]))) {sz rp pr ma m w : Nat} {pb ln sn : Nat → Nat} {pl : Nat → Option Nat} (hR : mn_at g rd (.inr (3, [.ref (rd + 1), .ref (rd + 5), .ref (rd + 6), .int 1, .int (nI sz), .int (nI rp), .int (nI pr), .int (nI ma)]))) (ha : mn_at g (rd + 1) (.inr (2, [.ref (rd + 1 + 3), .ref (rd + 1 + 1), .ref (rd + 1 + 2), .int (nI m), .int (nI w)]))) (hb : mn_at g (rd + 1 + 3) (.inl (0, 4080, .inl (fun j => nI (pb j))))) (hl : mn_at g (rd + 1 + 1) (.inl (0, 60, .inl (fun j => nI (ln j))))) (hs : mn_at g (rd + 1 + 2) (.inl (0, 60, .inl (fun j => nI (sn j))))) (hp : mn_at g (rd + 5) (.inl (0, 63, .inl (fun j => onI (pl j))))) {td : Nat} {oA oL oW : Nat → Nat} (hO : mn_at g op (.inr (1, [.ref (op + 1), .ref (op + 2), .ref (op + 3), .int (nI td)]))) (hOa : mn_at g (op + 1) (.inl (0, 40, .inl (fun j => nI (oA j))))) (hOl : mn_at g (op + 2) (.inl (0, 40, .inl (fun j => nI (oL j))))) (hOw : mn_at g (op + 3) (.inl (0, 40, .inl (fun j => nI (oW j))))) (htd : td ≤ 40) : mn_R E MVS_found 1 22 0 0 0 [(0, .ref vs), (1, .int 1)] [] g (mn_is (some (.int (nI (rp)))) g) := by
  obtain ⟨l1, l2, l3, l4, l5, l6, l7⟩ := hL
  refine mn_iload_n 1 dVS_found_0 rfl rfl ?_
  refine mn_if_lt 9 dVS_found_1 (by decide) (fun c1 => ?_) (fun c1 => ?_)
  · exact absurd c1 (by decide)
  · refine mn_iload_n 1 dVS_found_4 rfl rfl ?_
    refine mn_iconst (v := 5) dVS_found_5 (by decide) ?_
    refine mn_icmp_le 11 dVS_found_6 (by decide) (fun c2 => ?_) (fun c2 => ?_)
    · refine mn_aload_n 0 dVS_found_11 rfl rfl ?_
      refine mn_get okVS 5 lVS_47 (by decide) hV rfl dVS_found_12 ?_
      refine mn_get okRd 3 lVS_160 (by decide) hR rfl dVS_found_15 ?_
      refine mn_if_ne 24 dVS_found_18 (by decide) (fun c3 => ?_) (fun c3 => ?_)
      · refine mn_iload_n 1 dVS_found_24 rfl rfl ?_
        refine mn_tableIn (off := 46) 71 dVS_found_25 (by decide) (by decide) (by decide) (by decide) ?_
        refine mn_aload_n 0 dVS_found_71 rfl rfl ?_
        refine mn_get okVS 5 lVS_47 (by decide) hV rfl dVS_found_72 ?_
        refine mn_get okRd 5 lVS_177 (by decide) hR rfl dVS_found_75 ?_
        exact mn_iret rfl dVS_found_78 ⟨rfl, rfl⟩
      · exact absurd c3 (by decide)
    · exact absurd c2 (by decide)
set_option maxRecDepth 100000 in
theorem c_VS_found2 {E : mn_En} {g : mn_H} {vs t s u y z rd op : Nat} (hL : Lay vs t s u y z rd op) (hV : mn_at g vs (.inr (10, [.ref t, .ref s, .ref u, .ref y, .ref z, .ref rd, .ref op]))) {sz rp pr ma m w : Nat} {pb ln sn : Nat → Nat} {pl : Nat → Option Nat} (hR : mn_at g rd (.inr (3, [.ref (rd + 1), .ref (rd + 5), .ref (rd + 6), .int 1, .int (nI sz), .int (nI rp), .int (nI pr), .int (nI ma)]))) (ha : mn_at g (rd + 1) (.inr (2, [.ref (rd + 1 + 3), .ref (rd + 1 + 1), .ref (rd + 1 + 2), .int (nI m), .int (nI w)]))) (hb : mn_at g (rd + 1 + 3) (.inl (0, 4080, .inl (fun j => nI (pb j))))) (hl : mn_at g (rd + 1 + 1) (.inl (0, 60, .inl (fun j => nI (ln j))))) (hs : mn_at g (rd + 1 + 2) (.inl (0, 60, .inl (fun j => nI (sn j))))) (hp : mn_at g (rd + 5) (.inl (0, 63, .inl (fun j => onI (pl j))))) {td : Nat} {oA oL oW : Nat → Nat} (hO : mn_at g op (.inr (1, [.ref (op + 1), .ref (op + 2), .ref (op + 3), .int (nI td)]))) (hOa : mn_at g (op + 1) (.inl (0, 40, .inl (fun j => nI (oA j))))) (hOl : mn_at g (op + 2) (.inl (0, 40, .inl (fun j => nI (oL j))))) (hOw : mn_at g (op + 3) (.inl (0, 40, .inl (fun j => nI (oW j))))) (htd : td ≤ 40) : mn_R E MVS_found 1 22 0 0 0 [(0, .ref vs), (1, .int 2)] [] g (mn_is (some (.int (nI (sz)))) g) := by
  obtain ⟨l1, l2, l3, l4, l5, l6, l7⟩ := hL
  refine mn_iload_n 1 dVS_found_0 rfl rfl ?_
  refine mn_if_lt 9 dVS_found_1 (by decide) (fun c1 => ?_) (fun c1 => ?_)
  · exact absurd c1 (by decide)
  · refine mn_iload_n 1 dVS_found_4 rfl rfl ?_
    refine mn_iconst (v := 5) dVS_found_5 (by decide) ?_
    refine mn_icmp_le 11 dVS_found_6 (by decide) (fun c2 => ?_) (fun c2 => ?_)
    · refine mn_aload_n 0 dVS_found_11 rfl rfl ?_
      refine mn_get okVS 5 lVS_47 (by decide) hV rfl dVS_found_12 ?_
      refine mn_get okRd 3 lVS_160 (by decide) hR rfl dVS_found_15 ?_
      refine mn_if_ne 24 dVS_found_18 (by decide) (fun c3 => ?_) (fun c3 => ?_)
      · refine mn_iload_n 1 dVS_found_24 rfl rfl ?_
        refine mn_tableIn (off := 54) 79 dVS_found_25 (by decide) (by decide) (by decide) (by decide) ?_
        refine mn_aload_n 0 dVS_found_79 rfl rfl ?_
        refine mn_get okVS 5 lVS_47 (by decide) hV rfl dVS_found_80 ?_
        refine mn_get okRd 4 lVS_178 (by decide) hR rfl dVS_found_83 ?_
        exact mn_iret rfl dVS_found_86 ⟨rfl, rfl⟩
      · exact absurd c3 (by decide)
    · exact absurd c2 (by decide)
set_option maxRecDepth 100000 in
theorem c_VS_found3 {E : mn_En} {g : mn_H} {vs t s u y z rd op : Nat} (hL : Lay vs t s u y z rd op) (hV : mn_at g vs (.inr (10, [.ref t, .ref s, .ref u, .ref y, .ref z, .ref rd, .ref op]))) {sz rp pr ma m w : Nat} {pb ln sn : Nat → Nat} {pl : Nat → Option Nat} (hR : mn_at g rd (.inr (3, [.ref (rd + 1), .ref (rd + 5), .ref (rd + 6), .int 1, .int (nI sz), .int (nI rp), .int (nI pr), .int (nI ma)]))) (ha : mn_at g (rd + 1) (.inr (2, [.ref (rd + 1 + 3), .ref (rd + 1 + 1), .ref (rd + 1 + 2), .int (nI m), .int (nI w)]))) (hb : mn_at g (rd + 1 + 3) (.inl (0, 4080, .inl (fun j => nI (pb j))))) (hl : mn_at g (rd + 1 + 1) (.inl (0, 60, .inl (fun j => nI (ln j))))) (hs : mn_at g (rd + 1 + 2) (.inl (0, 60, .inl (fun j => nI (sn j))))) (hp : mn_at g (rd + 5) (.inl (0, 63, .inl (fun j => onI (pl j))))) {td : Nat} {oA oL oW : Nat → Nat} (hO : mn_at g op (.inr (1, [.ref (op + 1), .ref (op + 2), .ref (op + 3), .int (nI td)]))) (hOa : mn_at g (op + 1) (.inl (0, 40, .inl (fun j => nI (oA j))))) (hOl : mn_at g (op + 2) (.inl (0, 40, .inl (fun j => nI (oL j))))) (hOw : mn_at g (op + 3) (.inl (0, 40, .inl (fun j => nI (oW j))))) (htd : td ≤ 40) : mn_R E MVS_found 1 22 0 0 0 [(0, .ref vs), (1, .int 3)] [] g (mn_is (some (.int (nI (ma)))) g) := by
  obtain ⟨l1, l2, l3, l4, l5, l6, l7⟩ := hL
  refine mn_iload_n 1 dVS_found_0 rfl rfl ?_
  refine mn_if_lt 9 dVS_found_1 (by decide) (fun c1 => ?_) (fun c1 => ?_)
  · exact absurd c1 (by decide)
  · refine mn_iload_n 1 dVS_found_4 rfl rfl ?_
    refine mn_iconst (v := 5) dVS_found_5 (by decide) ?_
    refine mn_icmp_le 11 dVS_found_6 (by decide) (fun c2 => ?_) (fun c2 => ?_)
    · refine mn_aload_n 0 dVS_found_11 rfl rfl ?_
      refine mn_get okVS 5 lVS_47 (by decide) hV rfl dVS_found_12 ?_
      refine mn_get okRd 3 lVS_160 (by decide) hR rfl dVS_found_15 ?_
      refine mn_if_ne 24 dVS_found_18 (by decide) (fun c3 => ?_) (fun c3 => ?_)
      · refine mn_iload_n 1 dVS_found_24 rfl rfl ?_
        refine mn_tableIn (off := 62) 87 dVS_found_25 (by decide) (by decide) (by decide) (by decide) ?_
        refine mn_aload_n 0 dVS_found_87 rfl rfl ?_
        refine mn_get okVS 5 lVS_47 (by decide) hV rfl dVS_found_88 ?_
        refine mn_get okRd 7 lVS_179 (by decide) hR rfl dVS_found_91 ?_
        exact mn_iret rfl dVS_found_94 ⟨rfl, rfl⟩
      · exact absurd c3 (by decide)
    · exact absurd c2 (by decide)
set_option maxRecDepth 100000 in
theorem c_VS_found4 {E : mn_En} {g : mn_H} {vs t s u y z rd op : Nat} (hL : Lay vs t s u y z rd op) (hV : mn_at g vs (.inr (10, [.ref t, .ref s, .ref u, .ref y, .ref z, .ref rd, .ref op]))) {sz rp pr ma m w : Nat} {pb ln sn : Nat → Nat} {pl : Nat → Option Nat} (hR : mn_at g rd (.inr (3, [.ref (rd + 1), .ref (rd + 5), .ref (rd + 6), .int 1, .int (nI sz), .int (nI rp), .int (nI pr), .int (nI ma)]))) (ha : mn_at g (rd + 1) (.inr (2, [.ref (rd + 1 + 3), .ref (rd + 1 + 1), .ref (rd + 1 + 2), .int (nI m), .int (nI w)]))) (hb : mn_at g (rd + 1 + 3) (.inl (0, 4080, .inl (fun j => nI (pb j))))) (hl : mn_at g (rd + 1 + 1) (.inl (0, 60, .inl (fun j => nI (ln j))))) (hs : mn_at g (rd + 1 + 2) (.inl (0, 60, .inl (fun j => nI (sn j))))) (hp : mn_at g (rd + 5) (.inl (0, 63, .inl (fun j => onI (pl j))))) {td : Nat} {oA oL oW : Nat → Nat} (hO : mn_at g op (.inr (1, [.ref (op + 1), .ref (op + 2), .ref (op + 3), .int (nI td)]))) (hOa : mn_at g (op + 1) (.inl (0, 40, .inl (fun j => nI (oA j))))) (hOl : mn_at g (op + 2) (.inl (0, 40, .inl (fun j => nI (oL j))))) (hOw : mn_at g (op + 3) (.inl (0, 40, .inl (fun j => nI (oW j))))) (htd : td ≤ 40) : mn_R E MVS_found 1 22 0 0 0 [(0, .ref vs), (1, .int 4)] [] g (mn_is (some (.int (nI (td)))) g) := by
  obtain ⟨l1, l2, l3, l4, l5, l6, l7⟩ := hL
  refine mn_iload_n 1 dVS_found_0 rfl rfl ?_
  refine mn_if_lt 9 dVS_found_1 (by decide) (fun c1 => ?_) (fun c1 => ?_)
  · exact absurd c1 (by decide)
  · refine mn_iload_n 1 dVS_found_4 rfl rfl ?_
    refine mn_iconst (v := 5) dVS_found_5 (by decide) ?_
    refine mn_icmp_le 11 dVS_found_6 (by decide) (fun c2 => ?_) (fun c2 => ?_)
    · refine mn_aload_n 0 dVS_found_11 rfl rfl ?_
      refine mn_get okVS 5 lVS_47 (by decide) hV rfl dVS_found_12 ?_
      refine mn_get okRd 3 lVS_160 (by decide) hR rfl dVS_found_15 ?_
      refine mn_if_ne 24 dVS_found_18 (by decide) (fun c3 => ?_) (fun c3 => ?_)
      · refine mn_iload_n 1 dVS_found_24 rfl rfl ?_
        refine mn_tableIn (off := 70) 95 dVS_found_25 (by decide) (by decide) (by decide) (by decide) ?_
        refine mn_aload_n 0 dVS_found_95 rfl rfl ?_
        refine mn_get okVS 6 lVS_54 (by decide) hV rfl dVS_found_96 ?_
        refine mn_get okOp 3 lVS_169 (by decide) hO rfl dVS_found_99 ?_
        exact mn_iret rfl dVS_found_102 ⟨rfl, rfl⟩
      · exact absurd c3 (by decide)
    · exact absurd c2 (by decide)
set_option maxRecDepth 100000 in
theorem c_VS_found5 {E : mn_En} {g : mn_H} {vs t s u y z rd op : Nat} (hL : Lay vs t s u y z rd op) (hV : mn_at g vs (.inr (10, [.ref t, .ref s, .ref u, .ref y, .ref z, .ref rd, .ref op]))) {sz rp pr ma m w : Nat} {pb ln sn : Nat → Nat} {pl : Nat → Option Nat} (hR : mn_at g rd (.inr (3, [.ref (rd + 1), .ref (rd + 5), .ref (rd + 6), .int 1, .int (nI sz), .int (nI rp), .int (nI pr), .int (nI ma)]))) (ha : mn_at g (rd + 1) (.inr (2, [.ref (rd + 1 + 3), .ref (rd + 1 + 1), .ref (rd + 1 + 2), .int (nI m), .int (nI w)]))) (hb : mn_at g (rd + 1 + 3) (.inl (0, 4080, .inl (fun j => nI (pb j))))) (hl : mn_at g (rd + 1 + 1) (.inl (0, 60, .inl (fun j => nI (ln j))))) (hs : mn_at g (rd + 1 + 2) (.inl (0, 60, .inl (fun j => nI (sn j))))) (hp : mn_at g (rd + 5) (.inl (0, 63, .inl (fun j => onI (pl j))))) {td : Nat} {oA oL oW : Nat → Nat} (hO : mn_at g op (.inr (1, [.ref (op + 1), .ref (op + 2), .ref (op + 3), .int (nI td)]))) (hOa : mn_at g (op + 1) (.inl (0, 40, .inl (fun j => nI (oA j))))) (hOl : mn_at g (op + 2) (.inl (0, 40, .inl (fun j => nI (oL j))))) (hOw : mn_at g (op + 3) (.inl (0, 40, .inl (fun j => nI (oW j))))) (htd : td ≤ 40) : mn_R E MVS_found 1 22 0 0 0 [(0, .ref vs), (1, .int 5)] [] g (mn_is (some (.int (nI (smW oW td)))) g) := by
  obtain ⟨l1, l2, l3, l4, l5, l6, l7⟩ := hL
  refine mn_iload_n 1 dVS_found_0 rfl rfl ?_
  refine mn_if_lt 9 dVS_found_1 (by decide) (fun c1 => ?_) (fun c1 => ?_)
  · exact absurd c1 (by decide)
  · refine mn_iload_n 1 dVS_found_4 rfl rfl ?_
    refine mn_iconst (v := 5) dVS_found_5 (by decide) ?_
    refine mn_icmp_le 11 dVS_found_6 (by decide) (fun c2 => ?_) (fun c2 => ?_)
    · refine mn_aload_n 0 dVS_found_11 rfl rfl ?_
      refine mn_get okVS 5 lVS_47 (by decide) hV rfl dVS_found_12 ?_
      refine mn_get okRd 3 lVS_160 (by decide) hR rfl dVS_found_15 ?_
      refine mn_if_ne 24 dVS_found_18 (by decide) (fun c3 => ?_) (fun c3 => ?_)
      · refine mn_iload_n 1 dVS_found_24 rfl rfl ?_
        refine mn_tableOut 103 dVS_found_25 (by decide) (by decide) ?_
        refine mn_aload_n 0 dVS_found_103 rfl rfl ?_
        refine mn_get okVS 6 lVS_54 (by decide) hV rfl dVS_found_104 ?_
        refine mn_cV (d' := 0) (w' := 0) (As := []) (stk' := [.int (nI (smW oW td))]) okOp_openedOnes lVS_182 dVS_found_107 hO rfl rfl rfl rfl (Nat.le_of_ble_eq_true rfl) (Nat.le_of_ble_eq_true rfl) (by decide) (c_O_ones hO hOa hOl hOw htd) rfl ?_
        exact mn_iret rfl dVS_found_110 ⟨rfl, rfl⟩
      · exact absurd c3 (by decide)
    · exact absurd c2 (by decide)
set_option maxRecDepth 100000 in
theorem c_VS_where_none {E : mn_En} {g : mn_H} {vs t s u y z rd op : Nat} (hL : Lay vs t s u y z rd op) (hV : mn_at g vs (.inr (10, [.ref t, .ref s, .ref u, .ref y, .ref z, .ref rd, .ref op]))) {sz rp pr ma : Nat} (hR : mn_at g rd (.inr (3, [.ref (rd + 1), .ref (rd + 5), .ref (rd + 6), .int 0, .int (nI sz), .int (nI rp), .int (nI pr), .int (nI ma)]))) {x : Int32} : mn_R E MVS_where 1 21 0 0 0 [(0, .ref vs), (1, .int x)] [] g (mn_is (some (.int (-1))) g) := by
  obtain ⟨l1, l2, l3, l4, l5, l6, l7⟩ := hL
  refine mn_aload_n 0 dVS_where_0 rfl rfl ?_
  refine mn_get okVS 5 lVS_47 (by decide) hV rfl dVS_where_1 ?_
  refine mn_get okRd 3 lVS_160 (by decide) hR rfl dVS_where_4 ?_
  refine mn_if_eq 36 dVS_where_7 (by decide) (fun c1 => ?_) (fun c1 => ?_)
  · refine mn_iconst (v := -1) dVS_where_36 (by decide) ?_
    exact mn_iret rfl dVS_where_37 ⟨rfl, rfl⟩
  · exact absurd c1 (by decide)
set_option maxRecDepth 100000 in
theorem c_VS_where_bad {E : mn_En} {g : mn_H} {vs t s u y z rd op : Nat} (hL : Lay vs t s u y z rd op) (hV : mn_at g vs (.inr (10, [.ref t, .ref s, .ref u, .ref y, .ref z, .ref rd, .ref op]))) {sz rp pr ma m w : Nat} {pb ln sn : Nat → Nat} {pl : Nat → Option Nat} (hR : mn_at g rd (.inr (3, [.ref (rd + 1), .ref (rd + 5), .ref (rd + 6), .int 1, .int (nI sz), .int (nI rp), .int (nI pr), .int (nI ma)]))) (ha : mn_at g (rd + 1) (.inr (2, [.ref (rd + 1 + 3), .ref (rd + 1 + 1), .ref (rd + 1 + 2), .int (nI m), .int (nI w)]))) (hb : mn_at g (rd + 1 + 3) (.inl (0, 4080, .inl (fun j => nI (pb j))))) (hl : mn_at g (rd + 1 + 1) (.inl (0, 60, .inl (fun j => nI (ln j))))) (hs : mn_at g (rd + 1 + 2) (.inl (0, 60, .inl (fun j => nI (sn j))))) (hp : mn_at g (rd + 5) (.inl (0, 63, .inl (fun j => onI (pl j))))) {x : Int32} (hx : x < 0 ∨ nI (m + rp) ≤ x) : mn_R E MVS_where 1 21 0 0 0 [(0, .ref vs), (1, .int x)] [] g (mn_is (some (.int (-1))) g) := by
  obtain ⟨l1, l2, l3, l4, l5, l6, l7⟩ := hL
  refine mn_aload_n 0 dVS_where_0 rfl rfl ?_
  refine mn_get okVS 5 lVS_47 (by decide) hV rfl dVS_where_1 ?_
  refine mn_get okRd 3 lVS_160 (by decide) hR rfl dVS_where_4 ?_
  refine mn_if_eq 36 dVS_where_7 (by decide) (fun c1 => ?_) (fun c1 => ?_)
  · exact absurd c1 (by decide)
  · refine mn_iload_n 1 dVS_where_10 rfl rfl ?_
    refine mn_if_lt 36 dVS_where_11 (by decide) (fun c2 => ?_) (fun c2 => ?_)
    · refine mn_iconst (v := -1) dVS_where_36 (by decide) ?_
      exact mn_iret rfl dVS_where_37 ⟨rfl, rfl⟩
    · refine mn_iload_n 1 dVS_where_14 rfl rfl ?_
      refine mn_aload_n 0 dVS_where_15 rfl rfl ?_
      refine mn_get okVS 5 lVS_47 (by decide) hV rfl dVS_where_16 ?_
      refine mn_get okRd 0 lVS_164 (by decide) hR rfl dVS_where_19 ?_
      refine mn_get okPc 3 lVS_172 (by decide) ha rfl dVS_where_22 ?_
      refine mn_aload_n 0 dVS_where_25 rfl rfl ?_
      refine mn_get okVS 5 lVS_47 (by decide) hV rfl dVS_where_26 ?_
      refine mn_get okRd 5 lVS_177 (by decide) hR rfl dVS_where_29 ?_
      refine mn_iadd (z := nI (m + rp)) dVS_where_32 (nI_add m rp) ?_
      refine mn_icmp_lt 38 dVS_where_33 (by decide) (fun c3 => ?_) (fun c3 => ?_)
      · exact absurd hx (fun q => q.elim c2 (Int32.not_le.mpr c3))
      · refine mn_iconst (v := -1) dVS_where_36 (by decide) ?_
        exact mn_iret rfl dVS_where_37 ⟨rfl, rfl⟩
set_option maxRecDepth 100000 in
theorem c_VS_where {E : mn_En} {g : mn_H} {vs t s u y z rd op : Nat} (hL : Lay vs t s u y z rd op) (hV : mn_at g vs (.inr (10, [.ref t, .ref s, .ref u, .ref y, .ref z, .ref rd, .ref op]))) {sz rp pr ma m w : Nat} {pb ln sn : Nat → Nat} {pl : Nat → Option Nat} (hR : mn_at g rd (.inr (3, [.ref (rd + 1), .ref (rd + 5), .ref (rd + 6), .int 1, .int (nI sz), .int (nI rp), .int (nI pr), .int (nI ma)]))) (ha : mn_at g (rd + 1) (.inr (2, [.ref (rd + 1 + 3), .ref (rd + 1 + 1), .ref (rd + 1 + 2), .int (nI m), .int (nI w)]))) (hb : mn_at g (rd + 1 + 3) (.inl (0, 4080, .inl (fun j => nI (pb j))))) (hl : mn_at g (rd + 1 + 1) (.inl (0, 60, .inl (fun j => nI (ln j))))) (hs : mn_at g (rd + 1 + 2) (.inl (0, 60, .inl (fun j => nI (sn j))))) (hp : mn_at g (rd + 5) (.inl (0, 63, .inl (fun j => onI (pl j))))) {k : Nat} (hm : m ≤ 60) (hrp : rp ≤ 3) (hk : k < m + rp) : mn_R E MVS_where 1 21 0 0 0 [(0, .ref vs), (1, .int (nI k))] [] g (mn_is (some (.int (onI (pl k)))) g) := by
  obtain ⟨l1, l2, l3, l4, l5, l6, l7⟩ := hL
  refine mn_aload_n 0 dVS_where_0 rfl rfl ?_
  refine mn_get okVS 5 lVS_47 (by decide) hV rfl dVS_where_1 ?_
  refine mn_get okRd 3 lVS_160 (by decide) hR rfl dVS_where_4 ?_
  refine mn_if_eq 36 dVS_where_7 (by decide) (fun c1 => ?_) (fun c1 => ?_)
  · exact absurd c1 (by decide)
  · refine mn_iload_n 1 dVS_where_10 rfl rfl ?_
    refine mn_if_lt 36 dVS_where_11 (by decide) (fun c2 => ?_) (fun c2 => ?_)
    · exact absurd c2 (nI_pos (by omega))
    · refine mn_iload_n 1 dVS_where_14 rfl rfl ?_
      refine mn_aload_n 0 dVS_where_15 rfl rfl ?_
      refine mn_get okVS 5 lVS_47 (by decide) hV rfl dVS_where_16 ?_
      refine mn_get okRd 0 lVS_164 (by decide) hR rfl dVS_where_19 ?_
      refine mn_get okPc 3 lVS_172 (by decide) ha rfl dVS_where_22 ?_
      refine mn_aload_n 0 dVS_where_25 rfl rfl ?_
      refine mn_get okVS 5 lVS_47 (by decide) hV rfl dVS_where_26 ?_
      refine mn_get okRd 5 lVS_177 (by decide) hR rfl dVS_where_29 ?_
      refine mn_iadd (z := nI (m + rp)) dVS_where_32 (nI_add m rp) ?_
      refine mn_icmp_lt 38 dVS_where_33 (by decide) (fun c3 => ?_) (fun c3 => ?_)
      · have c3 := (nI_ltI (a := k) (b := (m + rp)) (by omega) (by omega)).mp c3
        refine mn_aload_n 0 dVS_where_38 rfl rfl ?_
        refine mn_get okVS 5 lVS_47 (by decide) hV rfl dVS_where_39 ?_
        refine mn_iload_n 1 dVS_where_42 rfl rfl ?_
        refine mn_cV (d' := 0) (w' := 0) (As := [.int (nI k)]) (stk' := [.int (onI (pl k))]) okRd_placeOf lVS_185 dVS_where_43 hR rfl rfl rfl rfl (Nat.le_of_ble_eq_true rfl) (Nat.le_of_ble_eq_true rfl) (by decide) (c_Rd_placeOf hR hp (j := k) (by omega)) rfl ?_
        exact mn_iret rfl dVS_where_46 ⟨rfl, rfl⟩
      · have c3 := mt (nI_ltI (a := k) (b := (m + rp)) (by omega) (by omega)).mpr c3
        refine mn_iconst (v := -1) dVS_where_36 (by decide) ?_
        exact mn_iret rfl dVS_where_37 (absurd hk (by omega))
set_option maxRecDepth 100000 in
theorem c_VS_got_none {E : mn_En} {g : mn_H} {vs t s u y z rd op : Nat} (hL : Lay vs t s u y z rd op) (hV : mn_at g vs (.inr (10, [.ref t, .ref s, .ref u, .ref y, .ref z, .ref rd, .ref op]))) {sz rp pr ma : Nat} (hR : mn_at g rd (.inr (3, [.ref (rd + 1), .ref (rd + 5), .ref (rd + 6), .int 0, .int (nI sz), .int (nI rp), .int (nI pr), .int (nI ma)]))) {x : Int32} : mn_R E MVS_got 3 66 0 0 0 [(0, .ref vs), (1, .int x)] [] g (mn_is (some (.int (-1))) g) := by
  obtain ⟨l1, l2, l3, l4, l5, l6, l7⟩ := hL
  refine mn_aload_n 0 dVS_got_0 rfl rfl ?_
  refine mn_get okVS 5 lVS_47 (by decide) hV rfl dVS_got_1 ?_
  refine mn_get okRd 3 lVS_160 (by decide) hR rfl dVS_got_4 ?_
  refine mn_if_eq 28 dVS_got_7 (by decide) (fun c1 => ?_) (fun c1 => ?_)
  · refine mn_iconst (v := -1) dVS_got_28 (by decide) ?_
    exact mn_iret rfl dVS_got_29 ⟨rfl, rfl⟩
  · exact absurd c1 (by decide)
set_option maxRecDepth 100000 in
theorem c_VS_got_bad {E : mn_En} {g : mn_H} {vs t s u y z rd op : Nat} (hL : Lay vs t s u y z rd op) (hV : mn_at g vs (.inr (10, [.ref t, .ref s, .ref u, .ref y, .ref z, .ref rd, .ref op]))) {sz rp pr ma m w : Nat} {pb ln sn : Nat → Nat} {pl : Nat → Option Nat} (hR : mn_at g rd (.inr (3, [.ref (rd + 1), .ref (rd + 5), .ref (rd + 6), .int 1, .int (nI sz), .int (nI rp), .int (nI pr), .int (nI ma)]))) (ha : mn_at g (rd + 1) (.inr (2, [.ref (rd + 1 + 3), .ref (rd + 1 + 1), .ref (rd + 1 + 2), .int (nI m), .int (nI w)]))) (hb : mn_at g (rd + 1 + 3) (.inl (0, 4080, .inl (fun j => nI (pb j))))) (hl : mn_at g (rd + 1 + 1) (.inl (0, 60, .inl (fun j => nI (ln j))))) (hs : mn_at g (rd + 1 + 2) (.inl (0, 60, .inl (fun j => nI (sn j))))) (hp : mn_at g (rd + 5) (.inl (0, 63, .inl (fun j => onI (pl j))))) {x : Int32} (hx : x < 0 ∨ nI (m * w) ≤ x) : mn_R E MVS_got 3 66 0 0 0 [(0, .ref vs), (1, .int x)] [] g (mn_is (some (.int (-1))) g) := by
  obtain ⟨l1, l2, l3, l4, l5, l6, l7⟩ := hL
  refine mn_aload_n 0 dVS_got_0 rfl rfl ?_
  refine mn_get okVS 5 lVS_47 (by decide) hV rfl dVS_got_1 ?_
  refine mn_get okRd 3 lVS_160 (by decide) hR rfl dVS_got_4 ?_
  refine mn_if_eq 28 dVS_got_7 (by decide) (fun c1 => ?_) (fun c1 => ?_)
  · exact absurd c1 (by decide)
  · refine mn_iload_n 1 dVS_got_10 rfl rfl ?_
    refine mn_if_lt 28 dVS_got_11 (by decide) (fun c2 => ?_) (fun c2 => ?_)
    · refine mn_iconst (v := -1) dVS_got_28 (by decide) ?_
      exact mn_iret rfl dVS_got_29 ⟨rfl, rfl⟩
    · refine mn_iload_n 1 dVS_got_14 rfl rfl ?_
      refine mn_aload_n 0 dVS_got_15 rfl rfl ?_
      refine mn_get okVS 5 lVS_47 (by decide) hV rfl dVS_got_16 ?_
      refine mn_get okRd 0 lVS_164 (by decide) hR rfl dVS_got_19 ?_
      refine mn_cV (d' := 0) (w' := 0) (As := []) (stk' := [.int (nI (m * w)), .int x]) okPc_room lVS_188 dVS_got_22 ha rfl rfl rfl rfl (Nat.le_of_ble_eq_true rfl) (Nat.le_of_ble_eq_true rfl) (by decide) (c_P_room ha hb hl hs (by omega)) rfl ?_
      refine mn_icmp_lt 30 dVS_got_25 (by decide) (fun c3 => ?_) (fun c3 => ?_)
      · exact absurd hx (fun q => q.elim c2 (Int32.not_le.mpr c3))
      · refine mn_iconst (v := -1) dVS_got_28 (by decide) ?_
        exact mn_iret rfl dVS_got_29 ⟨rfl, rfl⟩
set_option maxRecDepth 100000 in
theorem c_VS_got_y {E : mn_En} {g : mn_H} {vs t s u y z rd op : Nat} (hL : Lay vs t s u y z rd op) (hV : mn_at g vs (.inr (10, [.ref t, .ref s, .ref u, .ref y, .ref z, .ref rd, .ref op]))) {sz rp pr ma m w : Nat} {pb ln sn : Nat → Nat} {pl : Nat → Option Nat} (hR : mn_at g rd (.inr (3, [.ref (rd + 1), .ref (rd + 5), .ref (rd + 6), .int 1, .int (nI sz), .int (nI rp), .int (nI pr), .int (nI ma)]))) (ha : mn_at g (rd + 1) (.inr (2, [.ref (rd + 1 + 3), .ref (rd + 1 + 1), .ref (rd + 1 + 2), .int (nI m), .int (nI w)]))) (hb : mn_at g (rd + 1 + 3) (.inl (0, 4080, .inl (fun j => nI (pb j))))) (hl : mn_at g (rd + 1 + 1) (.inl (0, 60, .inl (fun j => nI (ln j))))) (hs : mn_at g (rd + 1 + 2) (.inl (0, 60, .inl (fun j => nI (sn j))))) (hp : mn_at g (rd + 5) (.inl (0, 63, .inl (fun j => onI (pl j))))) {k : Nat} (hm : m ≤ 60) (hw0 : 0 < w) (hmw : m * w ≤ 4080) (hln : ∀ j, ln j < 256) (hk : k < m * w) (hkn : kN ln m w k) : mn_R E MVS_got 3 66 0 0 0 [(0, .ref vs), (1, .int (nI k))] [] g (mn_is (some (.int (nI (pb k)))) g) := by
  obtain ⟨l1, l2, l3, l4, l5, l6, l7⟩ := hL
  refine mn_aload_n 0 dVS_got_0 rfl rfl ?_
  refine mn_get okVS 5 lVS_47 (by decide) hV rfl dVS_got_1 ?_
  refine mn_get okRd 3 lVS_160 (by decide) hR rfl dVS_got_4 ?_
  refine mn_if_eq 28 dVS_got_7 (by decide) (fun c1 => ?_) (fun c1 => ?_)
  · exact absurd c1 (by decide)
  · refine mn_iload_n 1 dVS_got_10 rfl rfl ?_
    refine mn_if_lt 28 dVS_got_11 (by decide) (fun c2 => ?_) (fun c2 => ?_)
    · exact absurd c2 (nI_pos (by omega))
    · refine mn_iload_n 1 dVS_got_14 rfl rfl ?_
      refine mn_aload_n 0 dVS_got_15 rfl rfl ?_
      refine mn_get okVS 5 lVS_47 (by decide) hV rfl dVS_got_16 ?_
      refine mn_get okRd 0 lVS_164 (by decide) hR rfl dVS_got_19 ?_
      refine mn_cV (d' := 0) (w' := 0) (As := []) (stk' := [.int (nI (m * w)), .int (nI k)]) okPc_room lVS_188 dVS_got_22 ha rfl rfl rfl rfl (Nat.le_of_ble_eq_true rfl) (Nat.le_of_ble_eq_true rfl) (by decide) (c_P_room ha hb hl hs (by omega)) rfl ?_
      refine mn_icmp_lt 30 dVS_got_25 (by decide) (fun c3 => ?_) (fun c3 => ?_)
      · have c3 := (nI_ltI (a := k) (b := (m * w)) (by omega) (by omega)).mp c3
        refine mn_aload_n 0 dVS_got_30 rfl rfl ?_
        refine mn_get okVS 5 lVS_47 (by decide) hV rfl dVS_got_31 ?_
        refine mn_get okRd 0 lVS_164 (by decide) hR rfl dVS_got_34 ?_
        refine mn_iload_n 1 dVS_got_37 rfl rfl ?_
        refine mn_cV (d' := 2) (w' := 44) (As := [.int (nI k)]) (stk' := [.int (kV ln m w k)]) okPc_isKnown lVS_191 dVS_got_38 ha rfl rfl rfl rfl (Nat.le_of_ble_eq_true rfl) (Nat.le_of_ble_eq_true rfl) (by decide) (c_P_isKnown ha hb hl hs (by omega) hw0 hmw hm (p := k) (by omega) hln) rfl ?_
        refine mn_if_eq 58 dVS_got_41 (by decide) (fun c4 => ?_) (fun c4 => ?_)
        · refine mn_bipush (v := (-2)) dVS_got_58 (by decide) ?_
          exact mn_iret rfl dVS_got_60 (absurd hkn (kV_no c4))
        · refine mn_aload_n 0 dVS_got_44 rfl rfl ?_
          refine mn_get okVS 5 lVS_47 (by decide) hV rfl dVS_got_45 ?_
          refine mn_get okRd 0 lVS_164 (by decide) hR rfl dVS_got_48 ?_
          refine mn_iload_n 1 dVS_got_51 rfl rfl ?_
          refine mn_cV (d' := 0) (w' := 0) (As := [.int (nI k)]) (stk' := [.int (nI (pb k))]) okPc_byteAt lVS_195 dVS_got_52 ha rfl rfl rfl rfl (Nat.le_of_ble_eq_true rfl) (Nat.le_of_ble_eq_true rfl) (by decide) (c_P_byteAt ha hb hl hs (by omega) (j := k) (by omega)) rfl ?_
          refine mn_goto 60 dVS_got_55 (by decide) ?_
          exact mn_iret rfl dVS_got_60 ⟨rfl, rfl⟩
      · have c3 := mt (nI_ltI (a := k) (b := (m * w)) (by omega) (by omega)).mpr c3
        refine mn_iconst (v := -1) dVS_got_28 (by decide) ?_
        exact mn_iret rfl dVS_got_29 (absurd hk (by omega))
set_option maxRecDepth 100000 in
theorem c_VS_got_n {E : mn_En} {g : mn_H} {vs t s u y z rd op : Nat} (hL : Lay vs t s u y z rd op) (hV : mn_at g vs (.inr (10, [.ref t, .ref s, .ref u, .ref y, .ref z, .ref rd, .ref op]))) {sz rp pr ma m w : Nat} {pb ln sn : Nat → Nat} {pl : Nat → Option Nat} (hR : mn_at g rd (.inr (3, [.ref (rd + 1), .ref (rd + 5), .ref (rd + 6), .int 1, .int (nI sz), .int (nI rp), .int (nI pr), .int (nI ma)]))) (ha : mn_at g (rd + 1) (.inr (2, [.ref (rd + 1 + 3), .ref (rd + 1 + 1), .ref (rd + 1 + 2), .int (nI m), .int (nI w)]))) (hb : mn_at g (rd + 1 + 3) (.inl (0, 4080, .inl (fun j => nI (pb j))))) (hl : mn_at g (rd + 1 + 1) (.inl (0, 60, .inl (fun j => nI (ln j))))) (hs : mn_at g (rd + 1 + 2) (.inl (0, 60, .inl (fun j => nI (sn j))))) (hp : mn_at g (rd + 5) (.inl (0, 63, .inl (fun j => onI (pl j))))) {k : Nat} (hm : m ≤ 60) (hw0 : 0 < w) (hmw : m * w ≤ 4080) (hln : ∀ j, ln j < 256) (hk : k < m * w) (hkn : ¬ kN ln m w k) : mn_R E MVS_got 3 66 0 0 0 [(0, .ref vs), (1, .int (nI k))] [] g (mn_is (some (.int (-2))) g) := by
  obtain ⟨l1, l2, l3, l4, l5, l6, l7⟩ := hL
  refine mn_aload_n 0 dVS_got_0 rfl rfl ?_
  refine mn_get okVS 5 lVS_47 (by decide) hV rfl dVS_got_1 ?_
  refine mn_get okRd 3 lVS_160 (by decide) hR rfl dVS_got_4 ?_
  refine mn_if_eq 28 dVS_got_7 (by decide) (fun c1 => ?_) (fun c1 => ?_)
  · exact absurd c1 (by decide)
  · refine mn_iload_n 1 dVS_got_10 rfl rfl ?_
    refine mn_if_lt 28 dVS_got_11 (by decide) (fun c2 => ?_) (fun c2 => ?_)
    · exact absurd c2 (nI_pos (by omega))
    · refine mn_iload_n 1 dVS_got_14 rfl rfl ?_
      refine mn_aload_n 0 dVS_got_15 rfl rfl ?_
      refine mn_get okVS 5 lVS_47 (by decide) hV rfl dVS_got_16 ?_
      refine mn_get okRd 0 lVS_164 (by decide) hR rfl dVS_got_19 ?_
      refine mn_cV (d' := 0) (w' := 0) (As := []) (stk' := [.int (nI (m * w)), .int (nI k)]) okPc_room lVS_188 dVS_got_22 ha rfl rfl rfl rfl (Nat.le_of_ble_eq_true rfl) (Nat.le_of_ble_eq_true rfl) (by decide) (c_P_room ha hb hl hs (by omega)) rfl ?_
      refine mn_icmp_lt 30 dVS_got_25 (by decide) (fun c3 => ?_) (fun c3 => ?_)
      · have c3 := (nI_ltI (a := k) (b := (m * w)) (by omega) (by omega)).mp c3
        refine mn_aload_n 0 dVS_got_30 rfl rfl ?_
        refine mn_get okVS 5 lVS_47 (by decide) hV rfl dVS_got_31 ?_
        refine mn_get okRd 0 lVS_164 (by decide) hR rfl dVS_got_34 ?_
        refine mn_iload_n 1 dVS_got_37 rfl rfl ?_
        refine mn_cV (d' := 2) (w' := 44) (As := [.int (nI k)]) (stk' := [.int (kV ln m w k)]) okPc_isKnown lVS_191 dVS_got_38 ha rfl rfl rfl rfl (Nat.le_of_ble_eq_true rfl) (Nat.le_of_ble_eq_true rfl) (by decide) (c_P_isKnown ha hb hl hs (by omega) hw0 hmw hm (p := k) (by omega) hln) rfl ?_
        refine mn_if_eq 58 dVS_got_41 (by decide) (fun c4 => ?_) (fun c4 => ?_)
        · refine mn_bipush (v := (-2)) dVS_got_58 (by decide) ?_
          exact mn_iret rfl dVS_got_60 ⟨rfl, rfl⟩
        · refine mn_aload_n 0 dVS_got_44 rfl rfl ?_
          refine mn_get okVS 5 lVS_47 (by decide) hV rfl dVS_got_45 ?_
          refine mn_get okRd 0 lVS_164 (by decide) hR rfl dVS_got_48 ?_
          refine mn_iload_n 1 dVS_got_51 rfl rfl ?_
          refine mn_cV (d' := 0) (w' := 0) (As := [.int (nI k)]) (stk' := [.int (nI (pb k))]) okPc_byteAt lVS_195 dVS_got_52 ha rfl rfl rfl rfl (Nat.le_of_ble_eq_true rfl) (Nat.le_of_ble_eq_true rfl) (by decide) (c_P_byteAt ha hb hl hs (by omega) (j := k) (by omega)) rfl ?_
          refine mn_goto 60 dVS_got_55 (by decide) ?_
          exact mn_iret rfl dVS_got_60 (absurd (kV_of c4) hkn)
      · have c3 := mt (nI_ltI (a := k) (b := (m * w)) (by omega) (by omega)).mpr c3
        refine mn_iconst (v := -1) dVS_got_28 (by decide) ?_
        exact mn_iret rfl dVS_got_29 (absurd hk (by omega))
set_option maxRecDepth 100000 in
theorem c_VS_opened_bad {E : mn_En} {g : mn_H} {vs t s u y z rd op : Nat} (hL : Lay vs t s u y z rd op) (hV : mn_at g vs (.inr (10, [.ref t, .ref s, .ref u, .ref y, .ref z, .ref rd, .ref op]))) {td : Nat} {oA oL oW : Nat → Nat} (hO : mn_at g op (.inr (1, [.ref (op + 1), .ref (op + 2), .ref (op + 3), .int (nI td)]))) (hOa : mn_at g (op + 1) (.inl (0, 40, .inl (fun j => nI (oA j))))) (hOl : mn_at g (op + 2) (.inl (0, 40, .inl (fun j => nI (oL j))))) (hOw : mn_at g (op + 3) (.inl (0, 40, .inl (fun j => nI (oW j))))) (htd : td ≤ 40) {x x2 : Int32} (hx : x < 0 ∨ nI td ≤ x) : mn_R E MVS_opened 1 22 0 0 0 [(0, .ref vs), (1, .int x), (2, .int x2)] [] g (mn_is (some (.int (-1))) g) := by
  obtain ⟨l1, l2, l3, l4, l5, l6, l7⟩ := hL
  refine mn_aload_n 0 dVS_opened_0 rfl rfl ?_
  refine mn_get okVS 6 lVS_54 (by decide) hV rfl dVS_opened_1 ?_
  refine mn_iload_n 1 dVS_opened_4 rfl rfl ?_
  refine mn_iload_n 2 dVS_opened_5 rfl rfl ?_
  refine mn_cV (d' := 0) (w' := 0) (As := [.int x, .int x2]) (stk' := [.int (-1)]) okOp_tellOf lVS_196 dVS_opened_6 hO rfl rfl rfl rfl (Nat.le_of_ble_eq_true rfl) (Nat.le_of_ble_eq_true rfl) (by decide) (c_O_tell_bad hO hOa hOl hOw htd hx) rfl ?_
  exact mn_iret rfl dVS_opened_9 ⟨rfl, rfl⟩
set_option maxRecDepth 100000 in
theorem c_VS_opened_what {E : mn_En} {g : mn_H} {vs t s u y z rd op : Nat} (hL : Lay vs t s u y z rd op) (hV : mn_at g vs (.inr (10, [.ref t, .ref s, .ref u, .ref y, .ref z, .ref rd, .ref op]))) {td : Nat} {oA oL oW : Nat → Nat} (hO : mn_at g op (.inr (1, [.ref (op + 1), .ref (op + 2), .ref (op + 3), .int (nI td)]))) (hOa : mn_at g (op + 1) (.inl (0, 40, .inl (fun j => nI (oA j))))) (hOl : mn_at g (op + 2) (.inl (0, 40, .inl (fun j => nI (oL j))))) (hOw : mn_at g (op + 3) (.inl (0, 40, .inl (fun j => nI (oW j))))) (htd : td ≤ 40) {k : Nat} (hk : k < td) {x2 : Int32} (hx : x2.toInt < 0 ∨ 2 < x2.toInt) : mn_R E MVS_opened 1 22 0 0 0 [(0, .ref vs), (1, .int (nI k)), (2, .int x2)] [] g (mn_is (some (.int (-1))) g) := by
  obtain ⟨l1, l2, l3, l4, l5, l6, l7⟩ := hL
  refine mn_aload_n 0 dVS_opened_0 rfl rfl ?_
  refine mn_get okVS 6 lVS_54 (by decide) hV rfl dVS_opened_1 ?_
  refine mn_iload_n 1 dVS_opened_4 rfl rfl ?_
  refine mn_iload_n 2 dVS_opened_5 rfl rfl ?_
  refine mn_cV (d' := 0) (w' := 0) (As := [.int (nI k), .int x2]) (stk' := [.int (-1)]) okOp_tellOf lVS_196 dVS_opened_6 hO rfl rfl rfl rfl (Nat.le_of_ble_eq_true rfl) (Nat.le_of_ble_eq_true rfl) (by decide) (c_O_tell_what hO hOa hOl hOw htd hk hx) rfl ?_
  exact mn_iret rfl dVS_opened_9 ⟨rfl, rfl⟩
set_option maxRecDepth 100000 in
theorem c_VS_opened0 {E : mn_En} {g : mn_H} {vs t s u y z rd op : Nat} (hL : Lay vs t s u y z rd op) (hV : mn_at g vs (.inr (10, [.ref t, .ref s, .ref u, .ref y, .ref z, .ref rd, .ref op]))) {td : Nat} {oA oL oW : Nat → Nat} (hO : mn_at g op (.inr (1, [.ref (op + 1), .ref (op + 2), .ref (op + 3), .int (nI td)]))) (hOa : mn_at g (op + 1) (.inl (0, 40, .inl (fun j => nI (oA j))))) (hOl : mn_at g (op + 2) (.inl (0, 40, .inl (fun j => nI (oL j))))) (hOw : mn_at g (op + 3) (.inl (0, 40, .inl (fun j => nI (oW j))))) (htd : td ≤ 40) {k : Nat} (hk : k < td) : mn_R E MVS_opened 1 22 0 0 0 [(0, .ref vs), (1, .int (nI k)), (2, .int 0)] [] g (mn_is (some (.int (nI (oA k)))) g) := by
  obtain ⟨l1, l2, l3, l4, l5, l6, l7⟩ := hL
  refine mn_aload_n 0 dVS_opened_0 rfl rfl ?_
  refine mn_get okVS 6 lVS_54 (by decide) hV rfl dVS_opened_1 ?_
  refine mn_iload_n 1 dVS_opened_4 rfl rfl ?_
  refine mn_iload_n 2 dVS_opened_5 rfl rfl ?_
  refine mn_cV (d' := 0) (w' := 0) (As := [.int (nI k), .int 0]) (stk' := [.int (nI (oA k))]) okOp_tellOf lVS_196 dVS_opened_6 hO rfl rfl rfl rfl (Nat.le_of_ble_eq_true rfl) (Nat.le_of_ble_eq_true rfl) (by decide) (c_O_tell0 hO hOa hOl hOw htd hk) rfl ?_
  exact mn_iret rfl dVS_opened_9 ⟨rfl, rfl⟩
set_option maxRecDepth 100000 in
theorem c_VS_opened1 {E : mn_En} {g : mn_H} {vs t s u y z rd op : Nat} (hL : Lay vs t s u y z rd op) (hV : mn_at g vs (.inr (10, [.ref t, .ref s, .ref u, .ref y, .ref z, .ref rd, .ref op]))) {td : Nat} {oA oL oW : Nat → Nat} (hO : mn_at g op (.inr (1, [.ref (op + 1), .ref (op + 2), .ref (op + 3), .int (nI td)]))) (hOa : mn_at g (op + 1) (.inl (0, 40, .inl (fun j => nI (oA j))))) (hOl : mn_at g (op + 2) (.inl (0, 40, .inl (fun j => nI (oL j))))) (hOw : mn_at g (op + 3) (.inl (0, 40, .inl (fun j => nI (oW j))))) (htd : td ≤ 40) {k : Nat} (hk : k < td) : mn_R E MVS_opened 1 22 0 0 0 [(0, .ref vs), (1, .int (nI k)), (2, .int 1)] [] g (mn_is (some (.int (nI (oL k)))) g) := by
  obtain ⟨l1, l2, l3, l4, l5, l6, l7⟩ := hL
  refine mn_aload_n 0 dVS_opened_0 rfl rfl ?_
  refine mn_get okVS 6 lVS_54 (by decide) hV rfl dVS_opened_1 ?_
  refine mn_iload_n 1 dVS_opened_4 rfl rfl ?_
  refine mn_iload_n 2 dVS_opened_5 rfl rfl ?_
  refine mn_cV (d' := 0) (w' := 0) (As := [.int (nI k), .int 1]) (stk' := [.int (nI (oL k))]) okOp_tellOf lVS_196 dVS_opened_6 hO rfl rfl rfl rfl (Nat.le_of_ble_eq_true rfl) (Nat.le_of_ble_eq_true rfl) (by decide) (c_O_tell1 hO hOa hOl hOw htd hk) rfl ?_
  exact mn_iret rfl dVS_opened_9 ⟨rfl, rfl⟩
set_option maxRecDepth 100000 in
theorem c_VS_opened2 {E : mn_En} {g : mn_H} {vs t s u y z rd op : Nat} (hL : Lay vs t s u y z rd op) (hV : mn_at g vs (.inr (10, [.ref t, .ref s, .ref u, .ref y, .ref z, .ref rd, .ref op]))) {td : Nat} {oA oL oW : Nat → Nat} (hO : mn_at g op (.inr (1, [.ref (op + 1), .ref (op + 2), .ref (op + 3), .int (nI td)]))) (hOa : mn_at g (op + 1) (.inl (0, 40, .inl (fun j => nI (oA j))))) (hOl : mn_at g (op + 2) (.inl (0, 40, .inl (fun j => nI (oL j))))) (hOw : mn_at g (op + 3) (.inl (0, 40, .inl (fun j => nI (oW j))))) (htd : td ≤ 40) {k : Nat} (hk : k < td) : mn_R E MVS_opened 1 22 0 0 0 [(0, .ref vs), (1, .int (nI k)), (2, .int 2)] [] g (mn_is (some (.int (nI (oW k)))) g) := by
  obtain ⟨l1, l2, l3, l4, l5, l6, l7⟩ := hL
  refine mn_aload_n 0 dVS_opened_0 rfl rfl ?_
  refine mn_get okVS 6 lVS_54 (by decide) hV rfl dVS_opened_1 ?_
  refine mn_iload_n 1 dVS_opened_4 rfl rfl ?_
  refine mn_iload_n 2 dVS_opened_5 rfl rfl ?_
  refine mn_cV (d' := 0) (w' := 0) (As := [.int (nI k), .int 2]) (stk' := [.int (nI (oW k))]) okOp_tellOf lVS_196 dVS_opened_6 hO rfl rfl rfl rfl (Nat.le_of_ble_eq_true rfl) (Nat.le_of_ble_eq_true rfl) (by decide) (c_O_tell2 hO hOa hOl hOw htd hk) rfl ?_
  exact mn_iret rfl dVS_opened_9 ⟨rfl, rfl⟩
set_option maxRecDepth 100000 in
theorem c_VS_count0 {E : mn_En} {g : mn_H} {vs t s u y z rd op : Nat} (hL : Lay vs t s u y z rd op) (hV : mn_at g vs (.inr (10, [.ref t, .ref s, .ref u, .ref y, .ref z, .ref rd, .ref op]))) {e len m w : Nat} {pb ln sn bg : Nat → Nat} (hS : mn_at g s (.inr (6, [.ref (s + 1), .ref (s + 5), .int (nI e), .int (nI len)]))) (ha : mn_at g (s + 1) (.inr (2, [.ref (s + 1 + 3), .ref (s + 1 + 1), .ref (s + 1 + 2), .int (nI m), .int (nI w)]))) (hb : mn_at g (s + 1 + 3) (.inl (0, 1340, .inl (fun j => nI (pb j))))) (hl : mn_at g (s + 1 + 1) (.inl (0, 60, .inl (fun j => nI (ln j))))) (hs : mn_at g (s + 1 + 2) (.inl (0, 60, .inl (fun j => nI (sn j))))) (hg : mn_at g (s + 5) (.inl (0, 20, .inl (fun j => nI (bg j))))) : mn_R E MVS_count 5 111 0 0 0 [(0, .ref vs), (1, .int 0)] [] g (mn_is (some (.int (nI (e)))) g) := by
  obtain ⟨l1, l2, l3, l4, l5, l6, l7⟩ := hL
  refine mn_iload_n 1 dVS_count_0 rfl rfl ?_
  refine mn_tableIn (off := 51) 52 dVS_count_1 (by decide) (by decide) (by decide) (by decide) ?_
  refine mn_aload_n 0 dVS_count_52 rfl rfl ?_
  refine mn_get okVS 1 lVS_19 (by decide) hV rfl dVS_count_53 ?_
  refine mn_get okSt 2 lVS_66 (by decide) hS rfl dVS_count_56 ?_
  exact mn_iret rfl dVS_count_59 ⟨rfl, rfl⟩
set_option maxRecDepth 100000 in
theorem c_VS_count1 {E : mn_En} {g : mn_H} {vs t s u y z rd op : Nat} (hL : Lay vs t s u y z rd op) (hV : mn_at g vs (.inr (10, [.ref t, .ref s, .ref u, .ref y, .ref z, .ref rd, .ref op]))) {e len m w : Nat} {pb ln sn bg : Nat → Nat} (hS : mn_at g s (.inr (6, [.ref (s + 1), .ref (s + 5), .int (nI e), .int (nI len)]))) (ha : mn_at g (s + 1) (.inr (2, [.ref (s + 1 + 3), .ref (s + 1 + 1), .ref (s + 1 + 2), .int (nI m), .int (nI w)]))) (hb : mn_at g (s + 1 + 3) (.inl (0, 1340, .inl (fun j => nI (pb j))))) (hl : mn_at g (s + 1 + 1) (.inl (0, 60, .inl (fun j => nI (ln j))))) (hs : mn_at g (s + 1 + 2) (.inl (0, 60, .inl (fun j => nI (sn j))))) (hg : mn_at g (s + 5) (.inl (0, 20, .inl (fun j => nI (bg j))))) : mn_R E MVS_count 5 111 0 0 0 [(0, .ref vs), (1, .int 1)] [] g (mn_is (some (.int (nI (len)))) g) := by
  obtain ⟨l1, l2, l3, l4, l5, l6, l7⟩ := hL
  refine mn_iload_n 1 dVS_count_0 rfl rfl ?_
  refine mn_tableIn (off := 59) 60 dVS_count_1 (by decide) (by decide) (by decide) (by decide) ?_
  refine mn_aload_n 0 dVS_count_60 rfl rfl ?_
  refine mn_get okVS 1 lVS_19 (by decide) hV rfl dVS_count_61 ?_
  refine mn_get okSt 3 lVS_199 (by decide) hS rfl dVS_count_64 ?_
  exact mn_iret rfl dVS_count_67 ⟨rfl, rfl⟩
set_option maxRecDepth 100000 in
theorem c_VS_count2 {E : mn_En} {g : mn_H} {vs t s u y z rd op : Nat} (hL : Lay vs t s u y z rd op) (hV : mn_at g vs (.inr (10, [.ref t, .ref s, .ref u, .ref y, .ref z, .ref rd, .ref op]))) {tl : Nat} {tb : Nat → Nat} (ht : mn_at g t (.inr (7, [.ref (t + 1), .int (nI tl)]))) (htb : mn_at g (t + 1) (.inl (0, 60, .inl (fun j => nI (tb j))))) : mn_R E MVS_count 5 111 0 0 0 [(0, .ref vs), (1, .int 2)] [] g (mn_is (some (.int (nI (tl)))) g) := by
  obtain ⟨l1, l2, l3, l4, l5, l6, l7⟩ := hL
  refine mn_iload_n 1 dVS_count_0 rfl rfl ?_
  refine mn_tableIn (off := 67) 68 dVS_count_1 (by decide) (by decide) (by decide) (by decide) ?_
  refine mn_aload_n 0 dVS_count_68 rfl rfl ?_
  refine mn_get okVS 0 lVS_10 (by decide) hV rfl dVS_count_69 ?_
  refine mn_get okTa 1 lVS_58 (by decide) ht rfl dVS_count_72 ?_
  exact mn_iret rfl dVS_count_75 ⟨rfl, rfl⟩
set_option maxRecDepth 100000 in
theorem c_VS_count3 {E : mn_En} {g : mn_H} {vs t s u y z rd op : Nat} (hL : Lay vs t s u y z rd op) (hV : mn_at g vs (.inr (10, [.ref t, .ref s, .ref u, .ref y, .ref z, .ref rd, .ref op]))) {pi ss : Nat → Nat} {sb : Nat → Nat → Nat} (hSl : SlP g z pi ss sb) : mn_R E MVS_count 5 111 0 0 0 [(0, .ref vs), (1, .int 3)] [] g (mn_is (some (.int (nI (cnt (fun k => ss k ≠ 0) 60)))) g) := by
  obtain ⟨l1, l2, l3, l4, l5, l6, l7⟩ := hL
  have hz := hSl.1
  refine mn_iload_n 1 dVS_count_0 rfl rfl ?_
  refine mn_tableIn (off := 75) 76 dVS_count_1 (by decide) (by decide) (by decide) (by decide) ?_
  refine mn_aload_n 0 dVS_count_76 rfl rfl ?_
  refine mn_get okVS 4 lVS_40 (by decide) hV rfl dVS_count_77 ?_
  refine mn_cV (d' := 0) (w' := 0) (As := []) (stk' := [.int (nI (cnt (fun k => ss k ≠ 0) 60))]) okSl_filled lVS_126 dVS_count_80 hz rfl rfl rfl rfl (Nat.le_of_ble_eq_true rfl) (Nat.le_of_ble_eq_true rfl) (by decide) (c_Sl_filled hSl) rfl ?_
  exact mn_iret rfl dVS_count_83 ⟨rfl, rfl⟩
set_option maxRecDepth 100000 in
theorem c_VS_count4 {E : mn_En} {g : mn_H} {vs t s u y z rd op : Nat} (hL : Lay vs t s u y z rd op) (hV : mn_at g vs (.inr (10, [.ref t, .ref s, .ref u, .ref y, .ref z, .ref rd, .ref op]))) {pi ss : Nat → Nat} {sb : Nat → Nat → Nat} (hSl : SlP g z pi ss sb) : mn_R E MVS_count 5 111 0 0 0 [(0, .ref vs), (1, .int 4)] [] g (mn_is (some (.int (nI (cnt (fun k => stN (sb k) (ss k) = 1) 60)))) g) := by
  obtain ⟨l1, l2, l3, l4, l5, l6, l7⟩ := hL
  have hz := hSl.1
  refine mn_iload_n 1 dVS_count_0 rfl rfl ?_
  refine mn_tableIn (off := 83) 84 dVS_count_1 (by decide) (by decide) (by decide) (by decide) ?_
  refine mn_aload_n 0 dVS_count_84 rfl rfl ?_
  refine mn_get okVS 4 lVS_40 (by decide) hV rfl dVS_count_85 ?_
  refine mn_iconst (v := 1) dVS_count_88 (by decide) ?_
  refine mn_cV (d' := 4) (w' := 88) (As := [.int 1]) (stk' := [.int (nI (cnt (fun k => stN (sb k) (ss k) = 1) 60))]) okSl_inState lVS_200 dVS_count_89 hz rfl rfl rfl rfl (Nat.le_of_ble_eq_true rfl) (Nat.le_of_ble_eq_true rfl) (by decide) (c_Sl_inState hSl (x := 1) (by omega)) rfl ?_
  exact mn_iret rfl dVS_count_92 ⟨rfl, rfl⟩
set_option maxRecDepth 100000 in
theorem c_VS_count5 {E : mn_En} {g : mn_H} {vs t s u y z rd op : Nat} (hL : Lay vs t s u y z rd op) (hV : mn_at g vs (.inr (10, [.ref t, .ref s, .ref u, .ref y, .ref z, .ref rd, .ref op]))) {pi ss : Nat → Nat} {sb : Nat → Nat → Nat} (hSl : SlP g z pi ss sb) : mn_R E MVS_count 5 111 0 0 0 [(0, .ref vs), (1, .int 5)] [] g (mn_is (some (.int (nI (cnt (fun k => stN (sb k) (ss k) = 2) 60)))) g) := by
  obtain ⟨l1, l2, l3, l4, l5, l6, l7⟩ := hL
  have hz := hSl.1
  refine mn_iload_n 1 dVS_count_0 rfl rfl ?_
  refine mn_tableIn (off := 92) 93 dVS_count_1 (by decide) (by decide) (by decide) (by decide) ?_
  refine mn_aload_n 0 dVS_count_93 rfl rfl ?_
  refine mn_get okVS 4 lVS_40 (by decide) hV rfl dVS_count_94 ?_
  refine mn_iconst (v := 2) dVS_count_97 (by decide) ?_
  refine mn_cV (d' := 4) (w' := 88) (As := [.int 2]) (stk' := [.int (nI (cnt (fun k => stN (sb k) (ss k) = 2) 60))]) okSl_inState lVS_200 dVS_count_98 hz rfl rfl rfl rfl (Nat.le_of_ble_eq_true rfl) (Nat.le_of_ble_eq_true rfl) (by decide) (c_Sl_inState hSl (x := 2) (by omega)) rfl ?_
  exact mn_iret rfl dVS_count_101 ⟨rfl, rfl⟩
set_option maxRecDepth 100000 in
theorem c_VS_count6 {E : mn_En} {g : mn_H} {vs t s u y z rd op : Nat} (hL : Lay vs t s u y z rd op) (hV : mn_at g vs (.inr (10, [.ref t, .ref s, .ref u, .ref y, .ref z, .ref rd, .ref op]))) {sz rp st : Nat} (hu : mn_at g u (.inr (4, [.int (nI sz), .int (nI rp), .int (nI st)]))) : mn_R E MVS_count 5 111 0 0 0 [(0, .ref vs), (1, .int 6)] [] g (mn_is (some (.int (nI (sz)))) g) := by
  obtain ⟨l1, l2, l3, l4, l5, l6, l7⟩ := hL
  refine mn_iload_n 1 dVS_count_0 rfl rfl ?_
  refine mn_tableIn (off := 101) 102 dVS_count_1 (by decide) (by decide) (by decide) (by decide) ?_
  refine mn_aload_n 0 dVS_count_102 rfl rfl ?_
  refine mn_get okVS 2 lVS_26 (by decide) hV rfl dVS_count_103 ?_
  refine mn_get okRu 0 lVS_94 (by decide) hu rfl dVS_count_106 ?_
  exact mn_iret rfl dVS_count_109 ⟨rfl, rfl⟩
set_option maxRecDepth 100000 in
theorem c_VS_count7 {E : mn_En} {g : mn_H} {vs t s u y z rd op : Nat} (hL : Lay vs t s u y z rd op) (hV : mn_at g vs (.inr (10, [.ref t, .ref s, .ref u, .ref y, .ref z, .ref rd, .ref op]))) {sz rp st : Nat} (hu : mn_at g u (.inr (4, [.int (nI sz), .int (nI rp), .int (nI st)]))) : mn_R E MVS_count 5 111 0 0 0 [(0, .ref vs), (1, .int 7)] [] g (mn_is (some (.int (nI (rp)))) g) := by
  obtain ⟨l1, l2, l3, l4, l5, l6, l7⟩ := hL
  refine mn_iload_n 1 dVS_count_0 rfl rfl ?_
  refine mn_tableIn (off := 109) 110 dVS_count_1 (by decide) (by decide) (by decide) (by decide) ?_
  refine mn_aload_n 0 dVS_count_110 rfl rfl ?_
  refine mn_get okVS 2 lVS_26 (by decide) hV rfl dVS_count_111 ?_
  refine mn_get okRu 1 lVS_88 (by decide) hu rfl dVS_count_114 ?_
  exact mn_iret rfl dVS_count_117 ⟨rfl, rfl⟩
set_option maxRecDepth 100000 in
theorem c_VS_count8 {E : mn_En} {g : mn_H} {vs t s u y z rd op : Nat} (hL : Lay vs t s u y z rd op) (hV : mn_at g vs (.inr (10, [.ref t, .ref s, .ref u, .ref y, .ref z, .ref rd, .ref op]))) {sz rp st : Nat} (hu : mn_at g u (.inr (4, [.int (nI sz), .int (nI rp), .int (nI st)]))) : mn_R E MVS_count 5 111 0 0 0 [(0, .ref vs), (1, .int 8)] [] g (mn_is (some (.int (nI (st)))) g) := by
  obtain ⟨l1, l2, l3, l4, l5, l6, l7⟩ := hL
  refine mn_iload_n 1 dVS_count_0 rfl rfl ?_
  refine mn_tableIn (off := 117) 118 dVS_count_1 (by decide) (by decide) (by decide) (by decide) ?_
  refine mn_aload_n 0 dVS_count_118 rfl rfl ?_
  refine mn_get okVS 2 lVS_26 (by decide) hV rfl dVS_count_119 ?_
  refine mn_get okRu 2 lVS_203 (by decide) hu rfl dVS_count_122 ?_
  exact mn_iret rfl dVS_count_125 ⟨rfl, rfl⟩
set_option maxRecDepth 100000 in
theorem c_VS_count_bad {E : mn_En} {g : mn_H} {vs t s u y z rd op : Nat} (hL : Lay vs t s u y z rd op) (hV : mn_at g vs (.inr (10, [.ref t, .ref s, .ref u, .ref y, .ref z, .ref rd, .ref op]))) {x : Int32} (hx : x.toInt < 0 ∨ 8 < x.toInt) : mn_R E MVS_count 5 111 0 0 0 [(0, .ref vs), (1, .int x)] [] g (mn_is (some (.int (-1))) g) := by
  obtain ⟨l1, l2, l3, l4, l5, l6, l7⟩ := hL
  refine mn_iload_n 1 dVS_count_0 rfl rfl ?_
  refine mn_tableOut 126 dVS_count_1 hx (by decide) ?_
  refine mn_iconst (v := -1) dVS_count_126 (by decide) ?_
  exact mn_iret rfl dVS_count_127 ⟨rfl, rfl⟩
