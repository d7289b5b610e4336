/-- where the class's objects lie -/
def Lay (vs t s u y z rd op : Nat) : Prop := vs < t ∧ t + 1 < s ∧ s + 5 < u ∧ u < y ∧ y + 2 < z ∧ z + 121 < rd ∧ rd + 11 < op
set_option maxRecDepth 100000 in
theorem c_VS_feed_full {E : mn_En} {g : mn_H} {vs t s u y z rd op : Nat} (hL : Lay vs t s u y z rd op) (hV : mn_at g vs (.inr (10, [.ref t, .ref s, .ref u, .ref y, .ref z, .ref rd, .ref op]))) {tl : Nat} {tb : Nat → Nat} (ht : mn_at g t (.inr (7, [.ref (t + 1), .int (nI tl)]))) (htb : mn_at g (t + 1) (.inl (0, 60, .inl (fun j => nI (tb j))))) {a1 a2 a3 a4 a5 : Int32} (hl : 40 < tl) (hl2 : tl ≤ 60) : mn_R E MVS_feed 2 44 0 0 0 [(0, .ref vs), (1, .int a1), (2, .int a2), (3, .int a3), (4, .int a4), (5, .int a5)] [] g (mn_is (some (.int (-3))) g) := by
  obtain ⟨l1, l2, l3, l4, l5, l6, l7⟩ := hL
  refine mn_aload_n 0 dVS_feed_0 rfl rfl ?_
  refine mn_get okVS 0 lVS_10 (by decide) hV rfl dVS_feed_1 ?_
  refine mn_get okTa 1 lVS_58 (by decide) ht rfl dVS_feed_4 ?_
  refine mn_bipush (v := 20) dVS_feed_7 (by decide) ?_
  refine mn_iadd (z := nI (tl + 20)) dVS_feed_9 (nI_add tl 20) ?_
  refine mn_bipush (v := 60) dVS_feed_10 (by decide) ?_
  refine mn_icmp_le 18 dVS_feed_12 (by decide) (fun c1 => ?_) (fun c1 => ?_)
  · have c1 := (nI_leI (a := (tl + 20)) (b := 60) (by omega) (by omega)).mp c1
    exact absurd hl (by omega)
  · have c1 := mt (nI_leI (a := (tl + 20)) (b := 60) (by omega) (by omega)).mpr c1
    refine mn_bipush (v := (-3)) dVS_feed_15 (by decide) ?_
    exact mn_iret rfl dVS_feed_17 ⟨rfl, rfl⟩
set_option maxRecDepth 100000 in
theorem c_VS_feed {E : mn_En} {g : mn_H} {vs t s u y z rd op : Nat} (hL : Lay vs t s u y z rd op) (hV : mn_at g vs (.inr (10, [.ref t, .ref s, .ref u, .ref y, .ref z, .ref rd, .ref op]))) {tl : Nat} {tb : Nat → Nat} (ht : mn_at g t (.inr (7, [.ref (t + 1), .int (nI tl)]))) (htb : mn_at g (t + 1) (.inl (0, 60, .inl (fun j => nI (tb j))))) {a1 a2 a3 a4 a5 : Int32} (hl : tl ≤ 40) : mn_R E MVS_feed 2 44 0 0 0 [(0, .ref vs), (1, .int a1), (2, .int a2), (3, .int a3), (4, .int a4), (5, .int a5)] [] g (fun x g' => x = some (.int (nI (tl + 20))) ∧ mn_fr (fun q => q = t ∨ q = t + 1) g g' ∧ mn_at g' t (.inr (7, [.ref (t + 1), .int (nI (tl + 20))])) ∧ mn_at g' (t + 1) (.inl (0, 60, .inl (up4 (up4 (up4 (up4 (up4 (fun j => nI (tb j)) tl a1) (tl + 4) a2) (tl + 8) a3) (tl + 12) a4) (tl + 16) a5)))) := by
  obtain ⟨l1, l2, l3, l4, l5, l6, l7⟩ := hL
  refine mn_aload_n 0 dVS_feed_0 rfl rfl ?_
  refine mn_get okVS 0 lVS_10 (by decide) hV rfl dVS_feed_1 ?_
  refine mn_get okTa 1 lVS_58 (by decide) ht rfl dVS_feed_4 ?_
  refine mn_bipush (v := 20) dVS_feed_7 (by decide) ?_
  refine mn_iadd (z := nI (tl + 20)) dVS_feed_9 (nI_add tl 20) ?_
  refine mn_bipush (v := 60) dVS_feed_10 (by decide) ?_
  refine mn_icmp_le 18 dVS_feed_12 (by decide) (fun c1 => ?_) (fun c1 => ?_)
  · have c1 := (nI_leI (a := (tl + 20)) (b := 60) (by omega) (by omega)).mp c1
    refine mn_aload_n 0 dVS_feed_18 rfl rfl ?_
    refine mn_get okVS 0 lVS_10 (by decide) hV rfl dVS_feed_19 ?_
    refine mn_iload_n 1 dVS_feed_22 rfl rfl ?_
    refine mn_callV (d' := 1) (w' := 22) (nc' := 0) (ns' := 0) (As := [.int a1]) (st := []) okTa_addNumber lVS_62 dVS_feed_23 ht rfl rfl rfl rfl (Nat.le_of_ble_eq_true rfl) (Nat.le_of_ble_eq_true rfl) (by decide) (c_T_addN ht htb (by omega)) (fun v g2 hq => ?_)
    obtain ⟨rfl, fg2, ht_g2, htb_g2⟩ := hq
    have ht_g2 : mn_at g2 t (.inr (7, [.ref (t + 1), .int (nI (tl + 4))])) := ht_g2
    have htb_g2 : mn_at g2 (t + 1) (.inl (0, 60, .inl (up4 (fun j => nI (tb j)) tl a1))) := htb_g2
    show mn_R E MVS_feed 2 44 _ _ 26 [(0, .ref vs), (1, .int a1), (2, .int a2), (3, .int a3), (4, .int a4), (5, .int a5)] [] g2 _
    have hV_g2 := hV.fr fg2 (fun h => by have h9 : vs = t ∨ vs = t + 1 := h; omega)
    refine mn_aload_n 0 dVS_feed_26 rfl rfl ?_
    refine mn_get okVS 0 lVS_10 (by decide) hV_g2 rfl dVS_feed_27 ?_
    refine mn_iload_n 2 dVS_feed_30 rfl rfl ?_
    refine mn_callV (d' := 1) (w' := 22) (nc' := 0) (ns' := 0) (As := [.int a2]) (st := []) okTa_addNumber lVS_62 dVS_feed_31 ht_g2 rfl rfl rfl rfl (Nat.le_of_ble_eq_true rfl) (Nat.le_of_ble_eq_true rfl) (by decide) (c_T_addN ht_g2 htb_g2 (by omega)) (fun v g3 hq => ?_)
    obtain ⟨rfl, fg3, ht_g3, htb_g3⟩ := hq
    have ht_g3 : mn_at g3 t (.inr (7, [.ref (t + 1), .int (nI (tl + 8))])) := ht_g3
    have htb_g3 : mn_at g3 (t + 1) (.inl (0, 60, .inl (up4 (up4 (fun j => nI (tb j)) tl a1) (tl + 4) a2))) := htb_g3
    show mn_R E MVS_feed 2 44 _ _ 34 [(0, .ref vs), (1, .int a1), (2, .int a2), (3, .int a3), (4, .int a4), (5, .int a5)] [] g3 _
    have hV_g3 := hV_g2.fr fg3 (fun h => by have h9 : vs = t ∨ vs = t + 1 := h; omega)
    refine mn_aload_n 0 dVS_feed_34 rfl rfl ?_
    refine mn_get okVS 0 lVS_10 (by decide) hV_g3 rfl dVS_feed_35 ?_
    refine mn_iload_n 3 dVS_feed_38 rfl rfl ?_
    refine mn_callV (d' := 1) (w' := 22) (nc' := 0) (ns' := 0) (As := [.int a3]) (st := []) okTa_addNumber lVS_62 dVS_feed_39 ht_g3 rfl rfl rfl rfl (Nat.le_of_ble_eq_true rfl) (Nat.le_of_ble_eq_true rfl) (by decide) (c_T_addN ht_g3 htb_g3 (by omega)) (fun v g4 hq => ?_)
    obtain ⟨rfl, fg4, ht_g4, htb_g4⟩ := hq
    have ht_g4 : mn_at g4 t (.inr (7, [.ref (t + 1), .int (nI (tl + 12))])) := ht_g4
    have htb_g4 : mn_at g4 (t + 1) (.inl (0, 60, .inl (up4 (up4 (up4 (fun j => nI (tb j)) tl a1) (tl + 4) a2) (tl + 8) a3))) := htb_g4
    show mn_R E MVS_feed 2 44 _ _ 42 [(0, .ref vs), (1, .int a1), (2, .int a2), (3, .int a3), (4, .int a4), (5, .int a5)] [] g4 _
    have hV_g4 := hV_g3.fr fg4 (fun h => by have h9 : vs = t ∨ vs = t + 1 := h; omega)
    refine mn_aload_n 0 dVS_feed_42 rfl rfl ?_
    refine mn_get okVS 0 lVS_10 (by decide) hV_g4 rfl dVS_feed_43 ?_
    refine mn_iload 4 dVS_feed_46 rfl ?_
    refine mn_callV (d' := 1) (w' := 22) (nc' := 0) (ns' := 0) (As := [.int a4]) (st := []) okTa_addNumber lVS_62 dVS_feed_48 ht_g4 rfl rfl rfl rfl (Nat.le_of_ble_eq_true rfl) (Nat.le_of_ble_eq_true rfl) (by decide) (c_T_addN ht_g4 htb_g4 (by omega)) (fun v g5 hq => ?_)
    obtain ⟨rfl, fg5, ht_g5, htb_g5⟩ := hq
    have ht_g5 : mn_at g5 t (.inr (7, [.ref (t + 1), .int (nI (tl + 16))])) := ht_g5
    have htb_g5 : mn_at g5 (t + 1) (.inl (0, 60, .inl (up4 (up4 (up4 (up4 (fun j => nI (tb j)) tl a1) (tl + 4) a2) (tl + 8) a3) (tl + 12) a4))) := htb_g5
    show mn_R E MVS_feed 2 44 _ _ 51 [(0, .ref vs), (1, .int a1), (2, .int a2), (3, .int a3), (4, .int a4), (5, .int a5)] [] g5 _
    have hV_g5 := hV_g4.fr fg5 (fun h => by have h9 : vs = t ∨ vs = t + 1 := h; omega)
    refine mn_aload_n 0 dVS_feed_51 rfl rfl ?_
    refine mn_get okVS 0 lVS_10 (by decide) hV_g5 rfl dVS_feed_52 ?_
    refine mn_iload 5 dVS_feed_55 rfl ?_
    refine mn_callV (d' := 1) (w' := 22) (nc' := 0) (ns' := 0) (As := [.int a5]) (st := []) okTa_addNumber lVS_62 dVS_feed_57 ht_g5 rfl rfl rfl rfl (Nat.le_of_ble_eq_true rfl) (Nat.le_of_ble_eq_true rfl) (by decide) (c_T_addN ht_g5 htb_g5 (by omega)) (fun v g6 hq => ?_)
    obtain ⟨rfl, fg6, ht_g6, htb_g6⟩ := hq
    have ht_g6 : mn_at g6 t (.inr (7, [.ref (t + 1), .int (nI (tl + 20))])) := ht_g6
    have htb_g6 : mn_at g6 (t + 1) (.inl (0, 60, .inl (up4 (up4 (up4 (up4 (up4 (fun j => nI (tb j)) tl a1) (tl + 4) a2) (tl + 8) a3) (tl + 12) a4) (tl + 16) a5))) := htb_g6
    show mn_R E MVS_feed 2 44 _ _ 60 [(0, .ref vs), (1, .int a1), (2, .int a2), (3, .int a3), (4, .int a4), (5, .int a5)] [] g6 _
    have hV_g6 := hV_g5.fr fg6 (fun h => by have h9 : vs = t ∨ vs = t + 1 := h; omega)
    refine mn_aload_n 0 dVS_feed_60 rfl rfl ?_
    refine mn_get okVS 0 lVS_10 (by decide) hV_g6 rfl dVS_feed_61 ?_
    refine mn_get okTa 1 lVS_58 (by decide) ht_g6 rfl dVS_feed_64 ?_
    exact mn_iret rfl dVS_feed_67 ⟨rfl, (((((mn_fr.rf.tr (fg2.mo (fun q h => by have h9 : q = t ∨ q = t + 1 := h; show q = t ∨ q = t + 1; omega))).tr (fg3.mo (fun q h => by have h9 : q = t ∨ q = t + 1 := h; show q = t ∨ q = t + 1; omega))).tr (fg4.mo (fun q h => by have h9 : q = t ∨ q = t + 1 := h; show q = t ∨ q = t + 1; omega))).tr (fg5.mo (fun q h => by have h9 : q = t ∨ q = t + 1 := h; show q = t ∨ q = t + 1; omega))).tr (fg6.mo (fun q h => by have h9 : q = t ∨ q = t + 1 := h; show q = t ∨ q = t + 1; omega))), ht_g6, htb_g6⟩
  · have c1 := mt (nI_leI (a := (tl + 20)) (b := 60) (by omega) (by omega)).mpr c1
    refine mn_bipush (v := (-3)) dVS_feed_15 (by decide) ?_
    exact mn_iret rfl dVS_feed_17 (absurd hl (by omega))
set_option maxRecDepth 100000 in
theorem c_VS_end_bad {E : mn_En} {g : mn_H} {vs t s u y z rd op : Nat} (hL : Lay vs t s u y z rd op) (hV : mn_at g vs (.inr (10, [.ref t, .ref s, .ref u, .ref y, .ref z, .ref rd, .ref op]))) {tl : Nat} {tb : Nat → Nat} (ht : mn_at g t (.inr (7, [.ref (t + 1), .int (nI tl)]))) (htb : mn_at g (t + 1) (.inl (0, 60, .inl (fun j => nI (tb j))))) {x : Int32} (hl2 : tl ≤ 60) (hx : x < 0 ∨ 20 < x ∨ tl < 20) : mn_R E MVS_end 0 0 0 0 0 [(0, .ref vs), (1, .int x)] [] g (mn_is (some (.int (-1))) g) := by
  obtain ⟨l1, l2, l3, l4, l5, l6, l7⟩ := hL
  refine mn_iload_n 1 dVS_end_0 rfl rfl ?_
  refine mn_if_lt 22 dVS_end_1 (by decide) (fun c1 => ?_) (fun c1 => ?_)
  · refine mn_iconst (v := -1) dVS_end_22 (by decide) ?_
    exact mn_iret rfl dVS_end_23 ⟨rfl, rfl⟩
  · refine mn_iload_n 1 dVS_end_4 rfl rfl ?_
    refine mn_bipush (v := 20) dVS_end_5 (by decide) ?_
    refine mn_icmp_gt 22 dVS_end_7 (by decide) (fun c2 => ?_) (fun c2 => ?_)
    · refine mn_iconst (v := -1) dVS_end_22 (by decide) ?_
      exact mn_iret rfl dVS_end_23 ⟨rfl, rfl⟩
    · refine mn_aload_n 0 dVS_end_10 rfl rfl ?_
      refine mn_get okVS 0 lVS_10 (by decide) hV rfl dVS_end_11 ?_
      refine mn_get okTa 1 lVS_58 (by decide) ht rfl dVS_end_14 ?_
      refine mn_bipush (v := 20) dVS_end_17 (by decide) ?_
      refine mn_icmp_ge 24 dVS_end_19 (by decide) (fun c3 => ?_) (fun c3 => ?_)
      · have c3 := (nI_leI (a := 20) (b := tl) (by omega) (by omega)).mp c3
        exact absurd hx (fun q => q.elim c1 (fun q => q.elim c2 (fun q => by omega)))
      · have c3 := mt (nI_leI (a := 20) (b := tl) (by omega) (by omega)).mpr c3
        refine mn_iconst (v := -1) dVS_end_22 (by decide) ?_
        exact mn_iret rfl dVS_end_23 ⟨rfl, rfl⟩
set_option maxRecDepth 100000 in
theorem c_VS_end {E : mn_En} {g : mn_H} {vs t s u y z rd op : Nat} (hL : Lay vs t s u y z rd op) (hV : mn_at g vs (.inr (10, [.ref t, .ref s, .ref u, .ref y, .ref z, .ref rd, .ref op]))) {tl : Nat} {tb : Nat → Nat} (ht : mn_at g t (.inr (7, [.ref (t + 1), .int (nI tl)]))) (htb : mn_at g (t + 1) (.inl (0, 60, .inl (fun j => nI (tb j))))) {n : Nat} (hl2 : tl ≤ 60) (hn : n ≤ 20) (hl : 20 ≤ tl) : mn_R E MVS_end 0 0 0 0 0 [(0, .ref vs), (1, .int (nI n))] [] g (fun x g' => x = some (.int (nI (tl - 20 + n))) ∧ mn_fr (fun q => q = t) g g' ∧ mn_at g' t (.inr (7, [.ref (t + 1), .int (nI (tl - 20 + n))]))) := by
  obtain ⟨l1, l2, l3, l4, l5, l6, l7⟩ := hL
  refine mn_iload_n 1 dVS_end_0 rfl rfl ?_
  refine mn_if_lt 22 dVS_end_1 (by decide) (fun c1 => ?_) (fun c1 => ?_)
  · exact absurd c1 (nI_pos (by omega))
  · refine mn_iload_n 1 dVS_end_4 rfl rfl ?_
    refine mn_bipush (v := 20) dVS_end_5 (by decide) ?_
    refine mn_icmp_gt 22 dVS_end_7 (by decide) (fun c2 => ?_) (fun c2 => ?_)
    · have c2 := (nI_ltI (a := 20) (b := n) (by omega) (by omega)).mp c2
      refine mn_iconst (v := -1) dVS_end_22 (by decide) ?_
      exact mn_iret rfl dVS_end_23 (absurd hl (by omega))
    · have c2 := mt (nI_ltI (a := 20) (b := n) (by omega) (by omega)).mpr c2
      refine mn_aload_n 0 dVS_end_10 rfl rfl ?_
      refine mn_get okVS 0 lVS_10 (by decide) hV rfl dVS_end_11 ?_
      refine mn_get okTa 1 lVS_58 (by decide) ht rfl dVS_end_14 ?_
      refine mn_bipush (v := 20) dVS_end_17 (by decide) ?_
      refine mn_icmp_ge 24 dVS_end_19 (by decide) (fun c3 => ?_) (fun c3 => ?_)
      · have c3 := (nI_leI (a := 20) (b := tl) (by omega) (by omega)).mp c3
        refine mn_aload_n 0 dVS_end_24 rfl rfl ?_
        refine mn_get okVS 0 lVS_10 (by decide) hV rfl dVS_end_25 ?_
        refine mn_aload_n 0 dVS_end_28 rfl rfl ?_
        refine mn_get okVS 0 lVS_10 (by decide) hV rfl dVS_end_29 ?_
        refine mn_get okTa 1 lVS_58 (by decide) ht rfl dVS_end_32 ?_
        refine mn_bipush (v := 20) dVS_end_35 (by decide) ?_
        refine mn_isub (z := nI (tl - 20)) dVS_end_37 (pk_sub (a := tl) (b := 20) (by omega)) ?_
        refine mn_iload_n 1 dVS_end_38 rfl rfl ?_
        refine mn_iadd (z := nI (tl - 20 + n)) dVS_end_39 (nI_add (tl - 20) n) ?_
        refine mn_putf okTa 1 lVS_58 (by decide) rfl ht rfl rfl (Nat.le_of_ble_eq_true rfl) dVS_end_40 ?_
        obtain ⟨g4, eg4⟩ : ∃ gg_, gg_ = mn_set g t (.inr (7, [.ref (t + 1), .int (nI (tl - 20 + n))])) := ⟨_, rfl⟩
        refine mn_R.toG eg4 ?_
        have hV_g4 : mn_at g4 vs (.inr (10, [.ref t, .ref s, .ref u, .ref y, .ref z, .ref rd, .ref op])) := by rw [eg4]; exact hV.off (by omega)
        have ht_g4 : mn_at g4 t (.inr (7, [.ref (t + 1), .int (nI (tl - 20 + n))])) := by rw [eg4]; exact ht.same
        have htb_g4 : mn_at g4 (t + 1) (.inl (0, 60, .inl (fun j => nI (tb j)))) := by rw [eg4]; exact htb.off (by omega)
        refine mn_aload_n 0 dVS_end_43 rfl rfl ?_
        refine mn_get okVS 0 lVS_10 (by decide) hV_g4 rfl dVS_end_44 ?_
        refine mn_get okTa 1 lVS_58 (by decide) ht_g4 rfl dVS_end_47 ?_
        exact mn_iret rfl dVS_end_50 ⟨rfl, (mn_fr.rf.set eg4 (by show t = t; omega)), ht_g4⟩
      · have c3 := mt (nI_leI (a := 20) (b := tl) (by omega) (by omega)).mpr c3
        refine mn_iconst (v := -1) dVS_end_22 (by decide) ?_
        exact mn_iret rfl dVS_end_23 (absurd hl (by omega))
set_option maxRecDepth 100000 in
theorem c_VS_entry_full {E : mn_En} {g : mn_H} {vs t s u y z rd op : Nat} (hL : Lay vs t s u y z rd op) (hV : mn_at g vs (.inr (10, [.ref t, .ref s, .ref u, .ref y, .ref z, .ref rd, .ref op]))) {e len m w : Nat} {pb ln sn bg : Nat → Nat} (hS : mn_at g s (.inr (6, [.ref (s + 1), .ref (s + 5), .int (nI e), .int (nI len)]))) (ha : mn_at g (s + 1) (.inr (2, [.ref (s + 1 + 3), .ref (s + 1 + 1), .ref (s + 1 + 2), .int (nI m), .int (nI w)]))) (hb : mn_at g (s + 1 + 3) (.inl (0, 1340, .inl (fun j => nI (pb j))))) (hl : mn_at g (s + 1 + 1) (.inl (0, 60, .inl (fun j => nI (ln j))))) (hs : mn_at g (s + 1 + 2) (.inl (0, 60, .inl (fun j => nI (sn j))))) (hg : mn_at g (s + 5) (.inl (0, 20, .inl (fun j => nI (bg j))))) (he : e = 20) : mn_R E MVS_entry 4 88 0 0 0 [(0, .ref vs)] [] g (mn_is (some (.int (-3))) g) := by
  obtain ⟨l1, l2, l3, l4, l5, l6, l7⟩ := hL
  refine mn_aload_n 0 dVS_entry_0 rfl rfl ?_
  refine mn_get okVS 1 lVS_19 (by decide) hV rfl dVS_entry_1 ?_
  refine mn_get okSt 2 lVS_66 (by decide) hS rfl dVS_entry_4 ?_
  refine mn_bipush (v := 20) dVS_entry_7 (by decide) ?_
  refine mn_icmp_lt 15 dVS_entry_9 (by decide) (fun c1 => ?_) (fun c1 => ?_)
  · have c1 := (nI_ltI (a := e) (b := 20) (by omega) (by omega)).mp c1
    exact absurd he (by omega)
  · have c1 := mt (nI_ltI (a := e) (b := 20) (by omega) (by omega)).mpr c1
    refine mn_bipush (v := (-3)) dVS_entry_12 (by decide) ?_
    exact mn_iret rfl dVS_entry_14 ⟨rfl, rfl⟩
set_option maxRecDepth 100000 in
theorem c_VS_entry {E : mn_En} {g : mn_H} {vs t s u y z rd op : Nat} (hL : Lay vs t s u y z rd op) (hV : mn_at g vs (.inr (10, [.ref t, .ref s, .ref u, .ref y, .ref z, .ref rd, .ref op]))) {e len m w : Nat} {pb ln sn bg : Nat → Nat} (hS : mn_at g s (.inr (6, [.ref (s + 1), .ref (s + 5), .int (nI e), .int (nI len)]))) (ha : mn_at g (s + 1) (.inr (2, [.ref (s + 1 + 3), .ref (s + 1 + 1), .ref (s + 1 + 2), .int (nI m), .int (nI w)]))) (hb : mn_at g (s + 1 + 3) (.inl (0, 1340, .inl (fun j => nI (pb j))))) (hl : mn_at g (s + 1 + 1) (.inl (0, 60, .inl (fun j => nI (ln j))))) (hs : mn_at g (s + 1 + 2) (.inl (0, 60, .inl (fun j => nI (sn j))))) (hg : mn_at g (s + 5) (.inl (0, 20, .inl (fun j => nI (bg j))))) {tl : Nat} {tb : Nat → Nat} (ht : mn_at g t (.inr (7, [.ref (t + 1), .int (nI tl)]))) (htb : mn_at g (t + 1) (.inl (0, 60, .inl (fun j => nI (tb j))))) (he : e < 20) (hlen : len + 3 + tl < 1340) (hl2 : tl ≤ 60) : mn_R E MVS_entry 4 88 0 0 0 [(0, .ref vs)] [] g (fun x g' => x = some (.int (nI e)) ∧ mn_fr (fun q => q = t ∨ q = s ∨ q = s + 1 + 3 ∨ q = s + 5) g g' ∧ mn_at g' t (.inr (7, [.ref (t + 1), .int 0])) ∧ mn_at g' s (.inr (6, [.ref (s + 1), .ref (s + 5), .int (nI (e + 1)), .int (nI (len + 3 + tl))])) ∧ mn_at g' (s + 1 + 3) (.inl (0, 1340, .inl (fun j => nI (apL pb len tl (suN tb 0 tl) tb tl j)))) ∧ mn_at g' (s + 5) (.inl (0, 20, .inl (fun j => nI (va_up bg e len j))))) := by
  obtain ⟨l1, l2, l3, l4, l5, l6, l7⟩ := hL
  refine mn_aload_n 0 dVS_entry_0 rfl rfl ?_
  refine mn_get okVS 1 lVS_19 (by decide) hV rfl dVS_entry_1 ?_
  refine mn_get okSt 2 lVS_66 (by decide) hS rfl dVS_entry_4 ?_
  refine mn_bipush (v := 20) dVS_entry_7 (by decide) ?_
  refine mn_icmp_lt 15 dVS_entry_9 (by decide) (fun c1 => ?_) (fun c1 => ?_)
  · have c1 := (nI_ltI (a := e) (b := 20) (by omega) (by omega)).mp c1
    refine mn_aload_n 0 dVS_entry_15 rfl rfl ?_
    refine mn_get okVS 1 lVS_19 (by decide) hV rfl dVS_entry_16 ?_
    refine mn_aload_n 0 dVS_entry_19 rfl rfl ?_
    refine mn_get okVS 0 lVS_10 (by decide) hV rfl dVS_entry_20 ?_
    refine mn_callV (d' := 3) (w' := 65) (nc' := 0) (ns' := 0) (As := [.ref t]) (st := []) okSt_append lVS_69 dVS_entry_23 hS rfl rfl rfl rfl (Nat.le_of_ble_eq_true rfl) (Nat.le_of_ble_eq_true rfl) (by decide) (c_S_append hS ha hb hl hs hg ht htb (by omega) he hlen (by omega)) (fun v g2 hq => ?_)
    obtain ⟨rfl, fg2, hS_g2, hb_g2, hg_g2⟩ := hq
    have hS_g2 : mn_at g2 s (.inr (6, [.ref (s + 1), .ref (s + 5), .int (nI (e + 1)), .int (nI (len + 3 + tl))])) := hS_g2
    have hb_g2 : mn_at g2 (s + 1 + 3) (.inl (0, 1340, .inl (fun j => nI ((apL pb len tl (suN tb 0 tl) tb tl) j)))) := hb_g2
    have hg_g2 : mn_at g2 (s + 5) (.inl (0, 20, .inl (fun j => nI ((va_up bg e len) j)))) := hg_g2
    show mn_R E MVS_entry 4 88 _ _ 26 [(0, .ref vs)] [] g2 _
    have hV_g2 := hV.fr fg2 (fun h => by have h9 : vs = s ∨ vs = s + 1 + 3 ∨ vs = s + 5 := h; omega)
    have ha_g2 := ha.fr fg2 (fun h => by have h9 : (s + 1) = s ∨ (s + 1) = s + 1 + 3 ∨ (s + 1) = s + 5 := h; omega)
    have hl_g2 := hl.fr fg2 (fun h => by have h9 : (s + 1 + 1) = s ∨ (s + 1 + 1) = s + 1 + 3 ∨ (s + 1 + 1) = s + 5 := h; omega)
    have hs_g2 := hs.fr fg2 (fun h => by have h9 : (s + 1 + 2) = s ∨ (s + 1 + 2) = s + 1 + 3 ∨ (s + 1 + 2) = s + 5 := h; omega)
    have ht_g2 := ht.fr fg2 (fun h => by have h9 : t = s ∨ t = s + 1 + 3 ∨ t = s + 5 := h; omega)
    have htb_g2 := htb.fr fg2 (fun h => by have h9 : (t + 1) = s ∨ (t + 1) = s + 1 + 3 ∨ (t + 1) = s + 5 := h; omega)
    refine mn_aload_n 0 dVS_entry_26 rfl rfl ?_
    refine mn_get okVS 0 lVS_10 (by decide) hV_g2 rfl dVS_entry_27 ?_
    refine mn_iconst (v := 0) dVS_entry_30 (by decide) ?_
    refine mn_putf okTa 1 lVS_58 (by decide) rfl ht_g2 rfl rfl (Nat.le_of_ble_eq_true rfl) dVS_entry_31 ?_
    obtain ⟨g3, eg3⟩ : ∃ gg_, gg_ = mn_set g2 t (.inr (7, [.ref (t + 1), .int 0])) := ⟨_, rfl⟩
    refine mn_R.toG eg3 ?_
    have hV_g3 : mn_at g3 vs (.inr (10, [.ref t, .ref s, .ref u, .ref y, .ref z, .ref rd, .ref op])) := by rw [eg3]; exact hV_g2.off (by omega)
    have hS_g3 : mn_at g3 s (.inr (6, [.ref (s + 1), .ref (s + 5), .int (nI (e + 1)), .int (nI (len + 3 + tl))])) := by rw [eg3]; exact hS_g2.off (by omega)
    have ha_g3 : mn_at g3 (s + 1) (.inr (2, [.ref (s + 1 + 3), .ref (s + 1 + 1), .ref (s + 1 + 2), .int (nI m), .int (nI w)])) := by rw [eg3]; exact ha_g2.off (by omega)
    have hb_g3 : mn_at g3 (s + 1 + 3) (.inl (0, 1340, .inl (fun j => nI ((apL pb len tl (suN tb 0 tl) tb tl) j)))) := by rw [eg3]; exact hb_g2.off (by omega)
    have hl_g3 : mn_at g3 (s + 1 + 1) (.inl (0, 60, .inl (fun j => nI (ln j)))) := by rw [eg3]; exact hl_g2.off (by omega)
    have hs_g3 : mn_at g3 (s + 1 + 2) (.inl (0, 60, .inl (fun j => nI (sn j)))) := by rw [eg3]; exact hs_g2.off (by omega)
    have hg_g3 : mn_at g3 (s + 5) (.inl (0, 20, .inl (fun j => nI ((va_up bg e len) j)))) := by rw [eg3]; exact hg_g2.off (by omega)
    have ht_g3 : mn_at g3 t (.inr (7, [.ref (t + 1), .int 0])) := by rw [eg3]; exact ht_g2.same
    have htb_g3 : mn_at g3 (t + 1) (.inl (0, 60, .inl (fun j => nI (tb j)))) := by rw [eg3]; exact htb_g2.off (by omega)
    refine mn_aload_n 0 dVS_entry_34 rfl rfl ?_
    refine mn_get okVS 1 lVS_19 (by decide) hV_g3 rfl dVS_entry_35 ?_
    refine mn_get okSt 2 lVS_66 (by decide) hS_g3 rfl dVS_entry_38 ?_
    refine mn_iconst (v := 1) dVS_entry_41 (by decide) ?_
    refine mn_isub (z := nI e) dVS_entry_42 (pk_sub (a := e + 1) (b := 1) (by omega)) ?_
    exact mn_iret rfl dVS_entry_43 ⟨rfl, ((mn_fr.rf.tr (fg2.mo (fun q h => by have h9 : q = s ∨ q = s + 1 + 3 ∨ q = s + 5 := h; show q = t ∨ q = s ∨ q = s + 1 + 3 ∨ q = s + 5; omega))).set eg3 (by show t = t ∨ t = s ∨ t = s + 1 + 3 ∨ t = s + 5; omega)), ht_g3, hS_g3, hb_g3, hg_g3⟩
  · have c1 := mt (nI_ltI (a := e) (b := 20) (by omega) (by omega)).mpr c1
    refine mn_bipush (v := (-3)) dVS_entry_12 (by decide) ?_
    exact mn_iret rfl dVS_entry_14 (absurd he (by omega))
set_option maxRecDepth 100000 in
theorem c_VS_clear {E : mn_En} {g : mn_H} {vs t s u y z rd op : Nat} (hL : Lay vs t s u y z rd op) (hV : mn_at g vs (.inr (10, [.ref t, .ref s, .ref u, .ref y, .ref z, .ref rd, .ref op]))) {e len m w : Nat} {pb ln sn bg : Nat → Nat} (hS : mn_at g s (.inr (6, [.ref (s + 1), .ref (s + 5), .int (nI e), .int (nI len)]))) (ha : mn_at g (s + 1) (.inr (2, [.ref (s + 1 + 3), .ref (s + 1 + 1), .ref (s + 1 + 2), .int (nI m), .int (nI w)]))) (hb : mn_at g (s + 1 + 3) (.inl (0, 1340, .inl (fun j => nI (pb j))))) (hl : mn_at g (s + 1 + 1) (.inl (0, 60, .inl (fun j => nI (ln j))))) (hs : mn_at g (s + 1 + 2) (.inl (0, 60, .inl (fun j => nI (sn j))))) (hg : mn_at g (s + 5) (.inl (0, 20, .inl (fun j => nI (bg j))))) : mn_R E MVS_clear 3 63 0 0 0 [(0, .ref vs)] [] g (fun x g' => x = some (.int (nI e)) ∧ mn_fr (fun q => q = s ∨ q = s + 1 + 1 ∨ q = s + 1 + 2 ∨ q = s + 1 + 3) g g' ∧ mn_at g' s (.inr (6, [.ref (s + 1), .ref (s + 5), .int 0, .int 0])) ∧ mn_at g' (s + 1 + 3) (.inl (0, 1340, .inl (fun j => nI (blN pb 1340 j)))) ∧ mn_at g' (s + 1 + 1) (.inl (0, 60, .inl (fun j => nI (blN ln 60 j)))) ∧ mn_at g' (s + 1 + 2) (.inl (0, 60, .inl (fun j => nI (blN sn 60 j))))) := by
  obtain ⟨l1, l2, l3, l4, l5, l6, l7⟩ := hL
  refine mn_aload_n 0 dVS_clear_0 rfl rfl ?_
  refine mn_get okVS 1 lVS_19 (by decide) hV rfl dVS_clear_1 ?_
  refine mn_get okSt 2 lVS_66 (by decide) hS rfl dVS_clear_4 ?_
  refine mn_istore_n (ls' := [(0, .ref vs), (1, .int (nI e))]) dVS_clear_7 rfl (by decide) rfl ?_
  refine mn_aload_n 0 dVS_clear_8 rfl rfl ?_
  refine mn_get okVS 1 lVS_19 (by decide) hV rfl dVS_clear_9 ?_
  refine mn_callV (d' := 2) (w' := 43) (nc' := 0) (ns' := 0) (As := []) (st := []) okSt_forgetAll lVS_73 dVS_clear_12 hS rfl rfl rfl rfl (Nat.le_of_ble_eq_true rfl) (Nat.le_of_ble_eq_true rfl) (by decide) (c_S_forget hS ha hb hl hs hg) (fun v g1 hq => ?_)
  obtain ⟨rfl, fg1, hS_g1, hb_g1, hl_g1, hs_g1⟩ := hq
  have hS_g1 : mn_at g1 s (.inr (6, [.ref (s + 1), .ref (s + 5), .int 0, .int 0])) := hS_g1
  have hb_g1 : mn_at g1 (s + 1 + 3) (.inl (0, 1340, .inl (fun j => nI ((blN pb 1340) j)))) := hb_g1
  have hl_g1 : mn_at g1 (s + 1 + 1) (.inl (0, 60, .inl (fun j => nI ((blN ln 60) j)))) := hl_g1
  have hs_g1 : mn_at g1 (s + 1 + 2) (.inl (0, 60, .inl (fun j => nI ((blN sn 60) j)))) := hs_g1
  show mn_R E MVS_clear 3 63 _ _ 15 [(0, .ref vs), (1, .int (nI e))] [] g1 _
  have hV_g1 := hV.fr fg1 (fun h => by have h9 : vs = s ∨ vs = s + 1 + 1 ∨ vs = s + 1 + 2 ∨ vs = s + 1 + 3 := h; omega)
  have ha_g1 := ha.fr fg1 (fun h => by have h9 : (s + 1) = s ∨ (s + 1) = s + 1 + 1 ∨ (s + 1) = s + 1 + 2 ∨ (s + 1) = s + 1 + 3 := h; omega)
  have hg_g1 := hg.fr fg1 (fun h => by have h9 : (s + 5) = s ∨ (s + 5) = s + 1 + 1 ∨ (s + 5) = s + 1 + 2 ∨ (s + 5) = s + 1 + 3 := h; omega)
  refine mn_iload_n 1 dVS_clear_15 rfl rfl ?_
  exact mn_iret rfl dVS_clear_16 ⟨rfl, (mn_fr.rf.tr (fg1.mo (fun q h => by have h9 : q = s ∨ q = s + 1 + 1 ∨ q = s + 1 + 2 ∨ q = s + 1 + 3 := h; show q = s ∨ q = s + 1 + 1 ∨ q = s + 1 + 2 ∨ q = s + 1 + 3; omega))), hS_g1, hb_g1, hl_g1, hs_g1⟩
set_option maxRecDepth 100000 in
theorem c_VS_rule0 {E : mn_En} {g : mn_H} {vs t s u y z rd op : Nat} (hL : Lay vs t s u y z rd op) (hV : mn_at g vs (.inr (10, [.ref t, .ref s, .ref u, .ref y, .ref z, .ref rd, .ref op]))) {sz rp st : Nat} (hu : mn_at g u (.inr (4, [.int (nI sz), .int (nI rp), .int (nI st)]))) {k : Nat} (hk : 20 ≤ k) (hk2 : k ≤ 80) : mn_R E MVS_rule 2 44 0 0 0 [(0, .ref vs), (1, .int 0), (2, .int (nI k))] [] g (fun x g' => x = some (.int (nI sz)) ∧ mn_fr (fun q => q = u) g g' ∧ mn_at g' u (.inr (4, [.int (nI k), .int (nI rp), .int (nI st)]))) := by
  obtain ⟨l1, l2, l3, l4, l5, l6, l7⟩ := hL
  refine mn_aload_n 0 dVS_rule_0 rfl rfl ?_
  refine mn_get okVS 2 lVS_26 (by decide) hV rfl dVS_rule_1 ?_
  refine mn_iload_n 1 dVS_rule_4 rfl rfl ?_
  refine mn_iload_n 2 dVS_rule_5 rfl rfl ?_
  refine mn_callV (d' := 1) (w' := 22) (nc' := 0) (ns' := 0) (As := [.int 0, .int (nI k)]) (st := []) okRu_change lVS_76 dVS_rule_6 hu rfl rfl rfl rfl (Nat.le_of_ble_eq_true rfl) (Nat.le_of_ble_eq_true rfl) (by decide) (c_R_change0 hu hk hk2) (fun v g1 hq => ?_)
  obtain ⟨rfl, fg1, hu_g1⟩ := hq
  have hu_g1 : mn_at g1 u (.inr (4, [.int (nI k), .int (nI rp), .int (nI st)])) := hu_g1
  show mn_R E MVS_rule 2 44 _ _ 9 [(0, .ref vs), (1, .int 0), (2, .int (nI k))] [.int (nI sz)] g1 _
  have hV_g1 := hV.fr fg1 (fun h => by have h9 : vs = u := h; omega)
  exact mn_iret rfl dVS_rule_9 ⟨rfl, (mn_fr.rf.tr (fg1.mo (fun q h => by have h9 : q = u := h; show q = u; omega))), hu_g1⟩
set_option maxRecDepth 100000 in
theorem c_VS_rule0_bad {E : mn_En} {g : mn_H} {vs t s u y z rd op : Nat} (hL : Lay vs t s u y z rd op) (hV : mn_at g vs (.inr (10, [.ref t, .ref s, .ref u, .ref y, .ref z, .ref rd, .ref op]))) {sz rp st : Nat} (hu : mn_at g u (.inr (4, [.int (nI sz), .int (nI rp), .int (nI st)]))) {x : Int32} (hx : x < 20 ∨ 80 < x) : mn_R E MVS_rule 2 44 0 0 0 [(0, .ref vs), (1, .int 0), (2, .int x)] [] g (mn_is (some (.int (-1))) g) := by
  obtain ⟨l1, l2, l3, l4, l5, l6, l7⟩ := hL
  refine mn_aload_n 0 dVS_rule_0 rfl rfl ?_
  refine mn_get okVS 2 lVS_26 (by decide) hV rfl dVS_rule_1 ?_
  refine mn_iload_n 1 dVS_rule_4 rfl rfl ?_
  refine mn_iload_n 2 dVS_rule_5 rfl rfl ?_
  refine mn_cV (d' := 1) (w' := 22) (As := [.int 0, .int x]) (stk' := [.int (-1)]) okRu_change lVS_76 dVS_rule_6 hu rfl rfl rfl rfl (Nat.le_of_ble_eq_true rfl) (Nat.le_of_ble_eq_true rfl) (by decide) (c_R_change0_bad hu hx) rfl ?_
  exact mn_iret rfl dVS_rule_9 ⟨rfl, rfl⟩
set_option maxRecDepth 100000 in
theorem c_VS_rule1 {E : mn_En} {g : mn_H} {vs t s u y z rd op : Nat} (hL : Lay vs t s u y z rd op) (hV : mn_at g vs (.inr (10, [.ref t, .ref s, .ref u, .ref y, .ref z, .ref rd, .ref op]))) {sz rp st : Nat} (hu : mn_at g u (.inr (4, [.int (nI sz), .int (nI rp), .int (nI st)]))) {k : Nat} (hk : 0 ≤ k) (hk2 : k ≤ 3) : mn_R E MVS_rule 2 44 0 0 0 [(0, .ref vs), (1, .int 1), (2, .int (nI k))] [] g (fun x g' => x = some (.int (nI rp)) ∧ mn_fr (fun q => q = u) g g' ∧ mn_at g' u (.inr (4, [.int (nI sz), .int (nI k), .int (nI st)]))) := by
  obtain ⟨l1, l2, l3, l4, l5, l6, l7⟩ := hL
  refine mn_aload_n 0 dVS_rule_0 rfl rfl ?_
  refine mn_get okVS 2 lVS_26 (by decide) hV rfl dVS_rule_1 ?_
  refine mn_iload_n 1 dVS_rule_4 rfl rfl ?_
  refine mn_iload_n 2 dVS_rule_5 rfl rfl ?_
  refine mn_callV (d' := 1) (w' := 22) (nc' := 0) (ns' := 0) (As := [.int 1, .int (nI k)]) (st := []) okRu_change lVS_76 dVS_rule_6 hu rfl rfl rfl rfl (Nat.le_of_ble_eq_true rfl) (Nat.le_of_ble_eq_true rfl) (by decide) (c_R_change1 hu hk hk2) (fun v g1 hq => ?_)
  obtain ⟨rfl, fg1, hu_g1⟩ := hq
  have hu_g1 : mn_at g1 u (.inr (4, [.int (nI sz), .int (nI k), .int (nI st)])) := hu_g1
  show mn_R E MVS_rule 2 44 _ _ 9 [(0, .ref vs), (1, .int 1), (2, .int (nI k))] [.int (nI rp)] g1 _
  have hV_g1 := hV.fr fg1 (fun h => by have h9 : vs = u := h; omega)
  exact mn_iret rfl dVS_rule_9 ⟨rfl, (mn_fr.rf.tr (fg1.mo (fun q h => by have h9 : q = u := h; show q = u; omega))), hu_g1⟩
set_option maxRecDepth 100000 in
theorem c_VS_rule1_bad {E : mn_En} {g : mn_H} {vs t s u y z rd op : Nat} (hL : Lay vs t s u y z rd op) (hV : mn_at g vs (.inr (10, [.ref t, .ref s, .ref u, .ref y, .ref z, .ref rd, .ref op]))) {sz rp st : Nat} (hu : mn_at g u (.inr (4, [.int (nI sz), .int (nI rp), .int (nI st)]))) {x : Int32} (hx : x < 0 ∨ 3 < x) : mn_R E MVS_rule 2 44 0 0 0 [(0, .ref vs), (1, .int 1), (2, .int x)] [] g (mn_is (some (.int (-1))) g) := by
  obtain ⟨l1, l2, l3, l4, l5, l6, l7⟩ := hL
  refine mn_aload_n 0 dVS_rule_0 rfl rfl ?_
  refine mn_get okVS 2 lVS_26 (by decide) hV rfl dVS_rule_1 ?_
  refine mn_iload_n 1 dVS_rule_4 rfl rfl ?_
  refine mn_iload_n 2 dVS_rule_5 rfl rfl ?_
  refine mn_cV (d' := 1) (w' := 22) (As := [.int 1, .int x]) (stk' := [.int (-1)]) okRu_change lVS_76 dVS_rule_6 hu rfl rfl rfl rfl (Nat.le_of_ble_eq_true rfl) (Nat.le_of_ble_eq_true rfl) (by decide) (c_R_change1_bad hu hx) rfl ?_
  exact mn_iret rfl dVS_rule_9 ⟨rfl, rfl⟩
set_option maxRecDepth 100000 in
theorem c_VS_rule2 {E : mn_En} {g : mn_H} {vs t s u y z rd op : Nat} (hL : Lay vs t s u y z rd op) (hV : mn_at g vs (.inr (10, [.ref t, .ref s, .ref u, .ref y, .ref z, .ref rd, .ref op]))) {sz rp st : Nat} (hu : mn_at g u (.inr (4, [.int (nI sz), .int (nI rp), .int (nI st)]))) {k : Nat} (hk : 0 ≤ k) (hk2 : k ≤ 255) : mn_R E MVS_rule 2 44 0 0 0 [(0, .ref vs), (1, .int 2), (2, .int (nI k))] [] g (fun x g' => x = some (.int (nI st)) ∧ mn_fr (fun q => q = u) g g' ∧ mn_at g' u (.inr (4, [.int (nI sz), .int (nI rp), .int (nI k)]))) := by
  obtain ⟨l1, l2, l3, l4, l5, l6, l7⟩ := hL
  refine mn_aload_n 0 dVS_rule_0 rfl rfl ?_
  refine mn_get okVS 2 lVS_26 (by decide) hV rfl dVS_rule_1 ?_
  refine mn_iload_n 1 dVS_rule_4 rfl rfl ?_
  refine mn_iload_n 2 dVS_rule_5 rfl rfl ?_
  refine mn_callV (d' := 1) (w' := 22) (nc' := 0) (ns' := 0) (As := [.int 2, .int (nI k)]) (st := []) okRu_change lVS_76 dVS_rule_6 hu rfl rfl rfl rfl (Nat.le_of_ble_eq_true rfl) (Nat.le_of_ble_eq_true rfl) (by decide) (c_R_change2 hu hk hk2) (fun v g1 hq => ?_)
  obtain ⟨rfl, fg1, hu_g1⟩ := hq
  have hu_g1 : mn_at g1 u (.inr (4, [.int (nI sz), .int (nI rp), .int (nI k)])) := hu_g1
  show mn_R E MVS_rule 2 44 _ _ 9 [(0, .ref vs), (1, .int 2), (2, .int (nI k))] [.int (nI st)] g1 _
  have hV_g1 := hV.fr fg1 (fun h => by have h9 : vs = u := h; omega)
  exact mn_iret rfl dVS_rule_9 ⟨rfl, (mn_fr.rf.tr (fg1.mo (fun q h => by have h9 : q = u := h; show q = u; omega))), hu_g1⟩
set_option maxRecDepth 100000 in
theorem c_VS_rule2_bad {E : mn_En} {g : mn_H} {vs t s u y z rd op : Nat} (hL : Lay vs t s u y z rd op) (hV : mn_at g vs (.inr (10, [.ref t, .ref s, .ref u, .ref y, .ref z, .ref rd, .ref op]))) {sz rp st : Nat} (hu : mn_at g u (.inr (4, [.int (nI sz), .int (nI rp), .int (nI st)]))) {x : Int32} (hx : x < 0 ∨ 255 < x) : mn_R E MVS_rule 2 44 0 0 0 [(0, .ref vs), (1, .int 2), (2, .int x)] [] g (mn_is (some (.int (-1))) g) := by
  obtain ⟨l1, l2, l3, l4, l5, l6, l7⟩ := hL
  refine mn_aload_n 0 dVS_rule_0 rfl rfl ?_
  refine mn_get okVS 2 lVS_26 (by decide) hV rfl dVS_rule_1 ?_
  refine mn_iload_n 1 dVS_rule_4 rfl rfl ?_
  refine mn_iload_n 2 dVS_rule_5 rfl rfl ?_
  refine mn_cV (d' := 1) (w' := 22) (As := [.int 2, .int x]) (stk' := [.int (-1)]) okRu_change lVS_76 dVS_rule_6 hu rfl rfl rfl rfl (Nat.le_of_ble_eq_true rfl) (Nat.le_of_ble_eq_true rfl) (by decide) (c_R_change2_bad hu hx) rfl ?_
  exact mn_iret rfl dVS_rule_9 ⟨rfl, rfl⟩
set_option maxRecDepth 100000 in
theorem c_VS_rule_bad {E : mn_En} {g : mn_H} {vs t s u y z rd op : Nat} (hL : Lay vs t s u y z rd op) (hV : mn_at g vs (.inr (10, [.ref t, .ref s, .ref u, .ref y, .ref z, .ref rd, .ref op]))) {sz rp st : Nat} (hu : mn_at g u (.inr (4, [.int (nI sz), .int (nI rp), .int (nI st)]))) {x y9 : Int32} (hw : y9.toInt < 0 ∨ 2 < y9.toInt) : mn_R E MVS_rule 2 44 0 0 0 [(0, .ref vs), (1, .int y9), (2, .int x)] [] g (mn_is (some (.int (-1))) g) := by
  obtain ⟨l1, l2, l3, l4, l5, l6, l7⟩ := hL
  refine mn_aload_n 0 dVS_rule_0 rfl rfl ?_
  refine mn_get okVS 2 lVS_26 (by decide) hV rfl dVS_rule_1 ?_
  refine mn_iload_n 1 dVS_rule_4 rfl rfl ?_
  refine mn_iload_n 2 dVS_rule_5 rfl rfl ?_
  refine mn_cV (d' := 1) (w' := 22) (As := [.int y9, .int x]) (stk' := [.int (-1)]) okRu_change lVS_76 dVS_rule_6 hu rfl rfl rfl rfl (Nat.le_of_ble_eq_true rfl) (Nat.le_of_ble_eq_true rfl) (by decide) (c_R_change_bad hu hw) rfl ?_
  exact mn_iret rfl dVS_rule_9 ⟨rfl, rfl⟩
set_option maxRecDepth 100000 in
theorem c_VS_volumes_full {E : mn_En} {g : mn_H} {vs t s u y z rd op : Nat} (hL : Lay vs t s u y z rd op) (hV : mn_at g vs (.inr (10, [.ref t, .ref s, .ref u, .ref y, .ref z, .ref rd, .ref op]))) {e len m w : Nat} {pb ln sn bg : Nat → Nat} (hS : mn_at g s (.inr (6, [.ref (s + 1), .ref (s + 5), .int (nI e), .int (nI len)]))) (ha : mn_at g (s + 1) (.inr (2, [.ref (s + 1 + 3), .ref (s + 1 + 1), .ref (s + 1 + 2), .int (nI m), .int (nI w)]))) (hb : mn_at g (s + 1 + 3) (.inl (0, 1340, .inl (fun j => nI (pb j))))) (hl : mn_at g (s + 1 + 1) (.inl (0, 60, .inl (fun j => nI (ln j))))) (hs : mn_at g (s + 1 + 2) (.inl (0, 60, .inl (fun j => nI (sn j))))) (hg : mn_at g (s + 5) (.inl (0, 20, .inl (fun j => nI (bg j))))) {sz rp st : Nat} (hu : mn_at g u (.inr (4, [.int (nI sz), .int (nI rp), .int (nI st)]))) (hsz : 20 ≤ sz) (hsz2 : sz ≤ 80) (hrp : rp ≤ 3) (hlen : len < 1340) (hf : 60 < pcN len (sz - 12) + rp) : mn_R E MVS_volumes 2 42 0 0 0 [(0, .ref vs)] [] g (mn_is (some (.int (-3))) g) := by
  obtain ⟨l1, l2, l3, l4, l5, l6, l7⟩ := hL
  have hpc : pcN len (sz - 12) < 100000 := by unfold pcN; have := Nat.div_le_self (len + (sz - 12) - 1) (sz - 12); rw [Nat.max_def]; split <;> omega
  refine mn_aload_n 0 dVS_volumes_0 rfl rfl ?_
  refine mn_get okVS 1 lVS_19 (by decide) hV rfl dVS_volumes_1 ?_
  refine mn_aload_n 0 dVS_volumes_4 rfl rfl ?_
  refine mn_get okVS 2 lVS_26 (by decide) hV rfl dVS_volumes_5 ?_
  refine mn_cV (d' := 0) (w' := 0) (As := []) (stk' := [.int (nI (sz - 12)), .ref s]) okRu_width lVS_80 dVS_volumes_8 hu rfl rfl rfl rfl (Nat.le_of_ble_eq_true rfl) (Nat.le_of_ble_eq_true rfl) (by decide) (c_R_width hu (by omega)) rfl ?_
  refine mn_cV (d' := 1) (w' := 21) (As := [.int (nI (sz - 12))]) (stk' := [.int (nI (pcN len (sz - 12)))]) okSt_pieceCount lVS_84 dVS_volumes_11 hS rfl rfl rfl rfl (Nat.le_of_ble_eq_true rfl) (Nat.le_of_ble_eq_true rfl) (by decide) (c_S_pieceCount hS ha hb hl hs hg (u := sz - 12) (by omega) (by omega) hlen) rfl ?_
  refine mn_aload_n 0 dVS_volumes_14 rfl rfl ?_
  refine mn_get okVS 2 lVS_26 (by decide) hV rfl dVS_volumes_15 ?_
  refine mn_get okRu 1 lVS_88 (by decide) hu rfl dVS_volumes_18 ?_
  refine mn_iadd (z := nI (pcN len (sz - 12) + rp)) dVS_volumes_21 (nI_add (pcN len (sz - 12)) rp) ?_
  refine mn_istore_n (ls' := [(0, .ref vs), (1, .int (nI (pcN len (sz - 12) + rp)))]) dVS_volumes_22 rfl (by decide) rfl ?_
  refine mn_iload_n 1 dVS_volumes_23 rfl rfl ?_
  refine mn_bipush (v := 60) dVS_volumes_24 (by decide) ?_
  refine mn_icmp_le 34 dVS_volumes_26 (by decide) (fun c1 => ?_) (fun c1 => ?_)
  · have c1 := (nI_leI (a := (pcN len (sz - 12) + rp)) (b := 60) (by omega) (by omega)).mp c1
    refine mn_iload_n 1 dVS_volumes_34 rfl rfl ?_
    exact mn_iret rfl dVS_volumes_35 (absurd hf (by omega))
  · have c1 := mt (nI_leI (a := (pcN len (sz - 12) + rp)) (b := 60) (by omega) (by omega)).mpr c1
    refine mn_bipush (v := (-3)) dVS_volumes_29 (by decide) ?_
    refine mn_goto 35 dVS_volumes_31 (by decide) ?_
    exact mn_iret rfl dVS_volumes_35 ⟨rfl, rfl⟩
set_option maxRecDepth 100000 in
theorem c_VS_volumes {E : mn_En} {g : mn_H} {vs t s u y z rd op : Nat} (hL : Lay vs t s u y z rd op) (hV : mn_at g vs (.inr (10, [.ref t, .ref s, .ref u, .ref y, .ref z, .ref rd, .ref op]))) {e len m w : Nat} {pb ln sn bg : Nat → Nat} (hS : mn_at g s (.inr (6, [.ref (s + 1), .ref (s + 5), .int (nI e), .int (nI len)]))) (ha : mn_at g (s + 1) (.inr (2, [.ref (s + 1 + 3), .ref (s + 1 + 1), .ref (s + 1 + 2), .int (nI m), .int (nI w)]))) (hb : mn_at g (s + 1 + 3) (.inl (0, 1340, .inl (fun j => nI (pb j))))) (hl : mn_at g (s + 1 + 1) (.inl (0, 60, .inl (fun j => nI (ln j))))) (hs : mn_at g (s + 1 + 2) (.inl (0, 60, .inl (fun j => nI (sn j))))) (hg : mn_at g (s + 5) (.inl (0, 20, .inl (fun j => nI (bg j))))) {sz rp st : Nat} (hu : mn_at g u (.inr (4, [.int (nI sz), .int (nI rp), .int (nI st)]))) (hsz : 20 ≤ sz) (hsz2 : sz ≤ 80) (hrp : rp ≤ 3) (hlen : len < 1340) (hf : pcN len (sz - 12) + rp ≤ 60) : mn_R E MVS_volumes 2 42 0 0 0 [(0, .ref vs)] [] g (mn_is (some (.int (nI (pcN len (sz - 12) + rp)))) g) := by
  obtain ⟨l1, l2, l3, l4, l5, l6, l7⟩ := hL
  have hpc : pcN len (sz - 12) < 100000 := by unfold pcN; have := Nat.div_le_self (len + (sz - 12) - 1) (sz - 12); rw [Nat.max_def]; split <;> omega
  refine mn_aload_n 0 dVS_volumes_0 rfl rfl ?_
  refine mn_get okVS 1 lVS_19 (by decide) hV rfl dVS_volumes_1 ?_
  refine mn_aload_n 0 dVS_volumes_4 rfl rfl ?_
  refine mn_get okVS 2 lVS_26 (by decide) hV rfl dVS_volumes_5 ?_
  refine mn_cV (d' := 0) (w' := 0) (As := []) (stk' := [.int (nI (sz - 12)), .ref s]) okRu_width lVS_80 dVS_volumes_8 hu rfl rfl rfl rfl (Nat.le_of_ble_eq_true rfl) (Nat.le_of_ble_eq_true rfl) (by decide) (c_R_width hu (by omega)) rfl ?_
  refine mn_cV (d' := 1) (w' := 21) (As := [.int (nI (sz - 12))]) (stk' := [.int (nI (pcN len (sz - 12)))]) okSt_pieceCount lVS_84 dVS_volumes_11 hS rfl rfl rfl rfl (Nat.le_of_ble_eq_true rfl) (Nat.le_of_ble_eq_true rfl) (by decide) (c_S_pieceCount hS ha hb hl hs hg (u := sz - 12) (by omega) (by omega) hlen) rfl ?_
  refine mn_aload_n 0 dVS_volumes_14 rfl rfl ?_
  refine mn_get okVS 2 lVS_26 (by decide) hV rfl dVS_volumes_15 ?_
  refine mn_get okRu 1 lVS_88 (by decide) hu rfl dVS_volumes_18 ?_
  refine mn_iadd (z := nI (pcN len (sz - 12) + rp)) dVS_volumes_21 (nI_add (pcN len (sz - 12)) rp) ?_
  refine mn_istore_n (ls' := [(0, .ref vs), (1, .int (nI (pcN len (sz - 12) + rp)))]) dVS_volumes_22 rfl (by decide) rfl ?_
  refine mn_iload_n 1 dVS_volumes_23 rfl rfl ?_
  refine mn_bipush (v := 60) dVS_volumes_24 (by decide) ?_
  refine mn_icmp_le 34 dVS_volumes_26 (by decide) (fun c1 => ?_) (fun c1 => ?_)
  · have c1 := (nI_leI (a := (pcN len (sz - 12) + rp)) (b := 60) (by omega) (by omega)).mp c1
    refine mn_iload_n 1 dVS_volumes_34 rfl rfl ?_
    exact mn_iret rfl dVS_volumes_35 ⟨rfl, rfl⟩
  · have c1 := mt (nI_leI (a := (pcN len (sz - 12) + rp)) (b := 60) (by omega) (by omega)).mpr c1
    refine mn_bipush (v := (-3)) dVS_volumes_29 (by decide) ?_
    refine mn_goto 35 dVS_volumes_31 (by decide) ?_
    exact mn_iret rfl dVS_volumes_35 (absurd hf (by omega))
set_option maxRecDepth 100000 in
theorem c_VS_byteOf_full {E : mn_En} {g : mn_H} {vs t s u y z rd op : Nat} (hL : Lay vs t s u y z rd op) (hV : mn_at g vs (.inr (10, [.ref t, .ref s, .ref u, .ref y, .ref z, .ref rd, .ref op]))) {e len m w : Nat} {pb ln sn bg : Nat → Nat} (hS : mn_at g s (.inr (6, [.ref (s + 1), .ref (s + 5), .int (nI e), .int (nI len)]))) (ha : mn_at g (s + 1) (.inr (2, [.ref (s + 1 + 3), .ref (s + 1 + 1), .ref (s + 1 + 2), .int (nI m), .int (nI w)]))) (hb : mn_at g (s + 1 + 3) (.inl (0, 1340, .inl (fun j => nI (pb j))))) (hl : mn_at g (s + 1 + 1) (.inl (0, 60, .inl (fun j => nI (ln j))))) (hs : mn_at g (s + 1 + 2) (.inl (0, 60, .inl (fun j => nI (sn j))))) (hg : mn_at g (s + 5) (.inl (0, 20, .inl (fun j => nI (bg j))))) {sz rp st : Nat} (hu : mn_at g u (.inr (4, [.int (nI sz), .int (nI rp), .int (nI st)]))) (hsz : 20 ≤ sz) (hsz2 : sz ≤ 80) (hrp : rp ≤ 3) (hlen : len < 1340) (hf : 60 < pcN len (sz - 12) + rp) {x1 x2 : Int32} : mn_R E MVS_byteOf 4 94 0 0 0 [(0, .ref vs), (1, .int x1), (2, .int x2)] [] g (mn_is (some (.int (-3))) g) := by
  have hL0 := hL
  obtain ⟨l1, l2, l3, l4, l5, l6, l7⟩ := id hL
  have hpc : pcN len (sz - 12) < 100000 := by unfold pcN; have := Nat.div_le_self (len + (sz - 12) - 1) (sz - 12); rw [Nat.max_def]; split <;> omega
  refine mn_aload_n 0 dVS_byteOf_0 rfl rfl ?_
  refine mn_cV (d' := 2) (w' := 42) (As := []) (stk' := [.int (-3)]) okVS_volumes lVS_91 dVS_byteOf_1 hV rfl rfl rfl rfl (Nat.le_of_ble_eq_true rfl) (Nat.le_of_ble_eq_true rfl) (by decide) (c_VS_volumes_full hL hV hS ha hb hl hs hg hu hsz hsz2 hrp hlen hf) rfl ?_
  refine mn_istore_n (ls' := [(0, .ref vs), (1, .int x1), (2, .int x2), (3, .int (-3))]) dVS_byteOf_4 rfl (by decide) rfl ?_
  refine mn_iload_n 3 dVS_byteOf_5 rfl rfl ?_
  refine mn_bipush (v := (-3)) dVS_byteOf_6 (by decide) ?_
  refine mn_icmp_ne 14 dVS_byteOf_8 (by decide) (fun c1 => ?_) (fun c1 => ?_)
  · exact absurd c1 (by decide)
  · refine mn_bipush (v := (-3)) dVS_byteOf_11 (by decide) ?_
    exact mn_iret rfl dVS_byteOf_13 ⟨rfl, rfl⟩
theorem nI_nm3 {n : Nat} (h : n < 2 ^ 31) : ¬ nI n = -3 := fun e => by
  have h0 : ¬ nI n < 0 := nI_pos h
  rw [e] at h0
  exact h0 (by decide)
theorem nI_nlm1 {n : Nat} (h : n < 2 ^ 31) : ¬ nI n < -1 := fun e => nI_pos h (Int32.lt_trans e (by decide))
theorem i32_rng (x : Int32) (N : Nat) (hN : N < 2 ^ 31) : (∃ k, k < N ∧ x = nI k) ∨ x < 0 ∨ nI N ≤ x := by
  by_cases h : x < 0
  · exact Or.inr (Or.inl h)
  · by_cases h2 : nI N ≤ x
    · exact Or.inr (Or.inr h2)
    · refine Or.inl ?_
      have e : nI x.toNatClampNeg = x := by
        apply Int32.toInt_inj.mp
        have h0 : ¬ x.toInt < 0 := fun q => h (Int32.lt_iff_toInt_lt.mpr q)
        have h1 : x.toNatClampNeg = x.toInt.toNat := rfl
        have h3 := Int32.toInt_lt x
        rw [nI_toInt (by omega)]
        omega
      refine ⟨x.toNatClampNeg, ?_, e.symm⟩
      have h3 : x.toNatClampNeg < 2 ^ 31 := by have h4 := Int32.toInt_lt x; have h5 : x.toNatClampNeg = x.toInt.toNat := rfl; omega
      rw [← e, nI_leI (by omega) h3] at h2
      omega
set_option maxRecDepth 100000 in
theorem c_VS_byteOf_bad {E : mn_En} {g : mn_H} {vs t s u y z rd op : Nat} (hL : Lay vs t s u y z rd op) (hV : mn_at g vs (.inr (10, [.ref t, .ref s, .ref u, .ref y, .ref z, .ref rd, .ref op]))) {e len m w : Nat} {pb ln sn bg : Nat → Nat} (hS : mn_at g s (.inr (6, [.ref (s + 1), .ref (s + 5), .int (nI e), .int (nI len)]))) (ha : mn_at g (s + 1) (.inr (2, [.ref (s + 1 + 3), .ref (s + 1 + 1), .ref (s + 1 + 2), .int (nI m), .int (nI w)]))) (hb : mn_at g (s + 1 + 3) (.inl (0, 1340, .inl (fun j => nI (pb j))))) (hl : mn_at g (s + 1 + 1) (.inl (0, 60, .inl (fun j => nI (ln j))))) (hs : mn_at g (s + 1 + 2) (.inl (0, 60, .inl (fun j => nI (sn j))))) (hg : mn_at g (s + 5) (.inl (0, 20, .inl (fun j => nI (bg j))))) {sz rp st : Nat} (hu : mn_at g u (.inr (4, [.int (nI sz), .int (nI rp), .int (nI st)]))) (hsz : 20 ≤ sz) (hsz2 : sz ≤ 80) (hrp : rp ≤ 3) (hlen : len < 1340) (hf : pcN len (sz - 12) + rp ≤ 60) {x1 x2 : Int32} (hx : x1 < 0 ∨ nI (pcN len (sz - 12) + rp) ≤ x1 ∨ x2 < 0 ∨ nI sz ≤ x2) : mn_R E MVS_byteOf 4 94 0 0 0 [(0, .ref vs), (1, .int x1), (2, .int x2)] [] g (mn_is (some (.int (-1))) g) := by
  have hL0 := hL
  obtain ⟨l1, l2, l3, l4, l5, l6, l7⟩ := id hL
  have hpc : pcN len (sz - 12) < 100000 := by unfold pcN; have := Nat.div_le_self (len + (sz - 12) - 1) (sz - 12); rw [Nat.max_def]; split <;> omega
  refine mn_aload_n 0 dVS_byteOf_0 rfl rfl ?_
  refine mn_cV (d' := 2) (w' := 42) (As := []) (stk' := [.int (nI (pcN len (sz - 12) + rp))]) okVS_volumes lVS_91 dVS_byteOf_1 hV rfl rfl rfl rfl (Nat.le_of_ble_eq_true rfl) (Nat.le_of_ble_eq_true rfl) (by decide) (c_VS_volumes hL hV hS ha hb hl hs hg hu hsz hsz2 hrp hlen hf) rfl ?_
  refine mn_istore_n (ls' := [(0, .ref vs), (1, .int x1), (2, .int x2), (3, .int (nI (pcN len (sz - 12) + rp)))]) dVS_byteOf_4 rfl (by decide) rfl ?_
  refine mn_iload_n 3 dVS_byteOf_5 rfl rfl ?_
  refine mn_bipush (v := (-3)) dVS_byteOf_6 (by decide) ?_
  refine mn_icmp_ne 14 dVS_byteOf_8 (by decide) (fun c1 => ?_) (fun c1 => ?_)
  · refine mn_iload_n 1 dVS_byteOf_14 rfl rfl ?_
    refine mn_if_lt 38 dVS_byteOf_15 (by decide) (fun c2 => ?_) (fun c2 => ?_)
    · refine mn_iconst (v := -1) dVS_byteOf_38 (by decide) ?_
      exact mn_iret rfl dVS_byteOf_39 ⟨rfl, rfl⟩
    · refine mn_iload_n 1 dVS_byteOf_18 rfl rfl ?_
      refine mn_iload_n 3 dVS_byteOf_19 rfl rfl ?_
      refine mn_icmp_ge 38 dVS_byteOf_20 (by decide) (fun c3 => ?_) (fun c3 => ?_)
      · refine mn_iconst (v := -1) dVS_byteOf_38 (by decide) ?_
        exact mn_iret rfl dVS_byteOf_39 ⟨rfl, rfl⟩
      · refine mn_iload_n 2 dVS_byteOf_23 rfl rfl ?_
        refine mn_if_lt 38 dVS_byteOf_24 (by decide) (fun c4 => ?_) (fun c4 => ?_)
        · refine mn_iconst (v := -1) dVS_byteOf_38 (by decide) ?_
          exact mn_iret rfl dVS_byteOf_39 ⟨rfl, rfl⟩
        · refine mn_iload_n 2 dVS_byteOf_27 rfl rfl ?_
          refine mn_aload_n 0 dVS_byteOf_28 rfl rfl ?_
          refine mn_get okVS 2 lVS_26 (by decide) hV rfl dVS_byteOf_29 ?_
          refine mn_get okRu 0 lVS_94 (by decide) hu rfl dVS_byteOf_32 ?_
          refine mn_icmp_lt 40 dVS_byteOf_35 (by decide) (fun c5 => ?_) (fun c5 => ?_)
          · exact absurd hx (fun q => q.elim c2 (fun q => q.elim c3 (fun q => q.elim c4 (Int32.not_le.mpr c5))))
          · refine mn_iconst (v := -1) dVS_byteOf_38 (by decide) ?_
            exact mn_iret rfl dVS_byteOf_39 ⟨rfl, rfl⟩
  · exact absurd c1 (nI_nm3 (by omega))
theorem dvL_lt {ln : Nat → Nat} (h : ∀ j, ln j < 256) {len w i : Nat} (hw : w ≤ 68) : ∀ j, dvL ln len w i j < 256 := by
  intro j
  unfold dvL
  split
  · rw [Nat.min_def]; split <;> omega
  · exact h j
theorem dvS_lt {sn bg : Nat → Nat} (h : ∀ j, sn j < 256) {e w i : Nat} (hw : w ≤ 68) : ∀ j, dvS sn bg e w i j < 256 := by
  intro j
  unfold dvS
  split
  · exact siK_lt hw e
  · exact h j
theorem pcN_mul {len u : Nat} (hu : 0 < u) (hu2 : u ≤ 68) (hl : len ≤ 1260) : pcN len u * u ≤ 1340 := by
  unfold pcN
  rw [Nat.max_def]
  split
  · have := Nat.div_mul_le_self (len + u - 1) u
    omega
  · omega
set_option maxRecDepth 100000 in
theorem c_VS_byteOf {E : mn_En} {g : mn_H} {vs t s u y z rd op : Nat} (hL : Lay vs t s u y z rd op) (hV : mn_at g vs (.inr (10, [.ref t, .ref s, .ref u, .ref y, .ref z, .ref rd, .ref op]))) {e len m w : Nat} {pb ln sn bg : Nat → Nat} (hS : mn_at g s (.inr (6, [.ref (s + 1), .ref (s + 5), .int (nI e), .int (nI len)]))) (ha : mn_at g (s + 1) (.inr (2, [.ref (s + 1 + 3), .ref (s + 1 + 1), .ref (s + 1 + 2), .int (nI m), .int (nI w)]))) (hb : mn_at g (s + 1 + 3) (.inl (0, 1340, .inl (fun j => nI (pb j))))) (hl : mn_at g (s + 1 + 1) (.inl (0, 60, .inl (fun j => nI (ln j))))) (hs : mn_at g (s + 1 + 2) (.inl (0, 60, .inl (fun j => nI (sn j))))) (hg : mn_at g (s + 5) (.inl (0, 20, .inl (fun j => nI (bg j))))) {sz rp st : Nat} (hu : mn_at g u (.inr (4, [.int (nI sz), .int (nI rp), .int (nI st)]))) {s0 : Nat} {c : Nat → Nat} (hy : mn_at g y (.inr (9, [.ref (y + 1)]))) (hy1 : mn_at g (y + 1) (.inr (8, [.ref (y + 2), .int (nI s0)]))) (hy2 : mn_at g (y + 2) (.inl (0, 80, .inl (fun j => nI (c j))))) (hsz : 20 ≤ sz) (hsz2 : sz ≤ 80) (hrp : rp ≤ 3) (hlen : len ≤ 1260) (he : e ≤ 20) (hbg : ∀ k, bg k < 100000) (hpb : ∀ j, pb j < 256) (hln : ∀ j, ln j < 256) (hsn : ∀ j, sn j < 256) (hst : st < 256) (hc : ∀ j, c j < 256) (hf : pcN len (sz - 12) + rp ≤ 60) {n i : Nat} (hn : n < pcN len (sz - 12) + rp) (hi : i < sz) : mn_R E MVS_byteOf 4 94 0 0 0 [(0, .ref vs), (1, .int (nI n)), (2, .int (nI i))] [] g (fun x g' => x = some (.int (nI (vlN c pb (dvL ln len (sz - 12) (pcN len (sz - 12))) (dvS sn bg e (sz - 12) (pcN len (sz - 12))) (sz - 12) (pcN len (sz - 12)) n st rp sz i))) ∧ mn_fr (fun q => q = s + 1 ∨ q = s + 1 + 1 ∨ q = s + 1 + 2 ∨ q = s + 1 + 3 ∨ q = y + 1 ∨ q = y + 2) g g' ∧ mn_at g' (s + 1) (.inr (2, [.ref (s + 1 + 3), .ref (s + 1 + 1), .ref (s + 1 + 2), .int (nI (pcN len (sz - 12))), .int (nI (sz - 12))])) ∧ mn_at g' (s + 1 + 3) (.inl (0, 1340, .inl (fun j => nI (pb j)))) ∧ mn_at g' (s + 1 + 1) (.inl (0, 60, .inl (fun j => nI ((dvL ln len (sz - 12) (pcN len (sz - 12))) j)))) ∧ mn_at g' (s + 1 + 2) (.inl (0, 60, .inl (fun j => nI ((dvS sn bg e (sz - 12) (pcN len (sz - 12))) j)))) ∧ mn_at g' (y + 1) (.inr (8, [.ref (y + 2), .int (nI sz)])) ∧ mn_at g' (y + 2) (.inl (0, 80, .inl (fun j => nI (vlN c pb (dvL ln len (sz - 12) (pcN len (sz - 12))) (dvS sn bg e (sz - 12) (pcN len (sz - 12))) (sz - 12) (pcN len (sz - 12)) n st rp sz j))))) := by
  have hlen2 := hlen
  have hlen : len < 1340 := by omega
  have hL0 := hL
  obtain ⟨l1, l2, l3, l4, l5, l6, l7⟩ := id hL
  have hpc : pcN len (sz - 12) < 100000 := by unfold pcN; have := Nat.div_le_self (len + (sz - 12) - 1) (sz - 12); rw [Nat.max_def]; split <;> omega
  have hdl : ∀ j, dvL ln len (sz - 12) (pcN len (sz - 12)) j < 256 := dvL_lt hln (by omega)
  have hds : ∀ j, dvS sn bg e (sz - 12) (pcN len (sz - 12)) j < 256 := dvS_lt hsn (by omega)
  have hm1 := pcN_pos len (sz - 12)
  have hmu : (pcN len (sz - 12)) * (sz - 12) ≤ 1340 := pcN_mul (by omega) (by omega) (by omega)
  refine mn_aload_n 0 dVS_byteOf_0 rfl rfl ?_
  refine mn_cV (d' := 2) (w' := 42) (As := []) (stk' := [.int (nI (pcN len (sz - 12) + rp))]) okVS_volumes lVS_91 dVS_byteOf_1 hV rfl rfl rfl rfl (Nat.le_of_ble_eq_true rfl) (Nat.le_of_ble_eq_true rfl) (by decide) (c_VS_volumes hL hV hS ha hb hl hs hg hu hsz hsz2 hrp hlen hf) rfl ?_
  refine mn_istore_n (ls' := [(0, .ref vs), (1, .int (nI n)), (2, .int (nI i)), (3, .int (nI (pcN len (sz - 12) + rp)))]) dVS_byteOf_4 rfl (by decide) rfl ?_
  refine mn_iload_n 3 dVS_byteOf_5 rfl rfl ?_
  refine mn_bipush (v := (-3)) dVS_byteOf_6 (by decide) ?_
  refine mn_icmp_ne 14 dVS_byteOf_8 (by decide) (fun c1 => ?_) (fun c1 => ?_)
  · refine mn_iload_n 1 dVS_byteOf_14 rfl rfl ?_
    refine mn_if_lt 38 dVS_byteOf_15 (by decide) (fun c2 => ?_) (fun c2 => ?_)
    · exact absurd c2 (nI_pos (by omega))
    · refine mn_iload_n 1 dVS_byteOf_18 rfl rfl ?_
      refine mn_iload_n 3 dVS_byteOf_19 rfl rfl ?_
      refine mn_icmp_ge 38 dVS_byteOf_20 (by decide) (fun c3 => ?_) (fun c3 => ?_)
      · have c3 := (nI_leI (a := (pcN len (sz - 12) + rp)) (b := n) (by omega) (by omega)).mp c3
        refine mn_iconst (v := -1) dVS_byteOf_38 (by decide) ?_
        exact mn_iret rfl dVS_byteOf_39 (absurd hn (by omega))
      · have c3 := mt (nI_leI (a := (pcN len (sz - 12) + rp)) (b := n) (by omega) (by omega)).mpr c3
        refine mn_iload_n 2 dVS_byteOf_23 rfl rfl ?_
        refine mn_if_lt 38 dVS_byteOf_24 (by decide) (fun c4 => ?_) (fun c4 => ?_)
        · exact absurd c4 (nI_pos (by omega))
        · refine mn_iload_n 2 dVS_byteOf_27 rfl rfl ?_
          refine mn_aload_n 0 dVS_byteOf_28 rfl rfl ?_
          refine mn_get okVS 2 lVS_26 (by decide) hV rfl dVS_byteOf_29 ?_
          refine mn_get okRu 0 lVS_94 (by decide) hu rfl dVS_byteOf_32 ?_
          refine mn_icmp_lt 40 dVS_byteOf_35 (by decide) (fun c5 => ?_) (fun c5 => ?_)
          · have c5 := (nI_ltI (a := i) (b := sz) (by omega) (by omega)).mp c5
            refine mn_aload_n 0 dVS_byteOf_40 rfl rfl ?_
            refine mn_get okVS 1 lVS_19 (by decide) hV rfl dVS_byteOf_41 ?_
            refine mn_aload_n 0 dVS_byteOf_44 rfl rfl ?_
            refine mn_get okVS 2 lVS_26 (by decide) hV rfl dVS_byteOf_45 ?_
            refine mn_cV (d' := 0) (w' := 0) (As := []) (stk' := [.int (nI (sz - 12)), .ref s]) okRu_width lVS_80 dVS_byteOf_48 hu rfl rfl rfl rfl (Nat.le_of_ble_eq_true rfl) (Nat.le_of_ble_eq_true rfl) (by decide) (c_R_width hu (by omega)) rfl ?_
            refine mn_callV (d' := 2) (w' := 45) (nc' := 0) (ns' := 0) (As := [.int (nI (sz - 12))]) (st := []) okSt_divide lVS_97 dVS_byteOf_51 hS rfl rfl rfl rfl (Nat.le_of_ble_eq_true rfl) (Nat.le_of_ble_eq_true rfl) (by decide) (c_S_divide hS ha hb hl hs hg (u := sz - 12) he hbg (by omega) (by omega) hlen (by omega)) (fun v g6 hq => ?_)
            obtain ⟨rfl, fg6, ha_g6, hb_g6, hl_g6, hs_g6⟩ := hq
            have ha_g6 : mn_at g6 (s + 1) (.inr (2, [.ref (s + 1 + 3), .ref (s + 1 + 1), .ref (s + 1 + 2), .int (nI (pcN len (sz - 12))), .int (nI (sz - 12))])) := ha_g6
            have hb_g6 : mn_at g6 (s + 1 + 3) (.inl (0, 1340, .inl (fun j => nI (pb j)))) := hb_g6
            have hl_g6 : mn_at g6 (s + 1 + 1) (.inl (0, 60, .inl (fun j => nI ((dvL ln len (sz - 12) (pcN len (sz - 12))) j)))) := hl_g6
            have hs_g6 : mn_at g6 (s + 1 + 2) (.inl (0, 60, .inl (fun j => nI ((dvS sn bg e (sz - 12) (pcN len (sz - 12))) j)))) := hs_g6
            show mn_R E MVS_byteOf 4 94 _ _ 54 [(0, .ref vs), (1, .int (nI n)), (2, .int (nI i)), (3, .int (nI (pcN len (sz - 12) + rp)))] [] g6 _
            have hV_g6 := hV.fr fg6 (fun h => by have h9 : vs = s + 1 ∨ vs = s + 1 + 1 ∨ vs = s + 1 + 2 ∨ vs = s + 1 + 3 := h; omega)
            have hS_g6 := hS.fr fg6 (fun h => by have h9 : s = s + 1 ∨ s = s + 1 + 1 ∨ s = s + 1 + 2 ∨ s = s + 1 + 3 := h; omega)
            have hg_g6 := hg.fr fg6 (fun h => by have h9 : (s + 5) = s + 1 ∨ (s + 5) = s + 1 + 1 ∨ (s + 5) = s + 1 + 2 ∨ (s + 5) = s + 1 + 3 := h; omega)
            have hu_g6 := hu.fr fg6 (fun h => by have h9 : u = s + 1 ∨ u = s + 1 + 1 ∨ u = s + 1 + 2 ∨ u = s + 1 + 3 := h; omega)
            have hy_g6 := hy.fr fg6 (fun h => by have h9 : y = s + 1 ∨ y = s + 1 + 1 ∨ y = s + 1 + 2 ∨ y = s + 1 + 3 := h; omega)
            have hy1_g6 := hy1.fr fg6 (fun h => by have h9 : (y + 1) = s + 1 ∨ (y + 1) = s + 1 + 1 ∨ (y + 1) = s + 1 + 2 ∨ (y + 1) = s + 1 + 3 := h; omega)
            have hy2_g6 := hy2.fr fg6 (fun h => by have h9 : (y + 2) = s + 1 ∨ (y + 2) = s + 1 + 1 ∨ (y + 2) = s + 1 + 2 ∨ (y + 2) = s + 1 + 3 := h; omega)
            refine mn_aload_n 0 dVS_byteOf_54 rfl rfl ?_
            refine mn_get okVS 3 lVS_33 (by decide) hV_g6 rfl dVS_byteOf_55 ?_
            refine mn_iload_n 1 dVS_byteOf_58 rfl rfl ?_
            refine mn_aload_n 0 dVS_byteOf_59 rfl rfl ?_
            refine mn_get okVS 1 lVS_19 (by decide) hV_g6 rfl dVS_byteOf_60 ?_
            refine mn_get okSt 0 lVS_100 (by decide) hS_g6 rfl dVS_byteOf_63 ?_
            refine mn_aload_n 0 dVS_byteOf_66 rfl rfl ?_
            refine mn_get okVS 2 lVS_26 (by decide) hV_g6 rfl dVS_byteOf_67 ?_
            refine mn_callV (d' := 3) (w' := 70) (nc' := 0) (ns' := 0) (As := [.int (nI n), .ref (s + 1), .ref u]) (st := []) okWr_make lVS_104 dVS_byteOf_70 hy_g6 rfl rfl rfl rfl (Nat.le_of_ble_eq_true rfl) (Nat.le_of_ble_eq_true rfl) (by decide) (c_W_make hy_g6 hy1_g6 hy2_g6 ha_g6 hb_g6 hl_g6 hs_g6 hu_g6 (by omega) (by omega) (by omega) hsz hsz2 rfl hm1 (by omega) hmu hrp hst (n := n) (by omega) hpb hdl hds hc) (fun v g7 hq => ?_)
            obtain ⟨rfl, fg7, hy1_g7, hy2_g7⟩ := hq
            have hy1_g7 : mn_at g7 (y + 1) (.inr (8, [.ref (y + 2), .int (nI sz)])) := hy1_g7
            have hy2_g7 : mn_at g7 (y + 2) (.inl (0, 80, .inl (fun j => nI ((vlN c pb (dvL ln len (sz - 12) (pcN len (sz - 12))) (dvS sn bg e (sz - 12) (pcN len (sz - 12))) (sz - 12) (pcN len (sz - 12)) n st rp sz) j)))) := hy2_g7
            show mn_R E MVS_byteOf 4 94 _ _ 73 [(0, .ref vs), (1, .int (nI n)), (2, .int (nI i)), (3, .int (nI (pcN len (sz - 12) + rp)))] [] g7 _
            have hV_g7 := hV_g6.fr fg7 (fun h => by have h9 : vs = y + 1 ∨ vs = y + 2 := h; omega)
            have hS_g7 := hS_g6.fr fg7 (fun h => by have h9 : s = y + 1 ∨ s = y + 2 := h; omega)
            have ha_g7 := ha_g6.fr fg7 (fun h => by have h9 : (s + 1) = y + 1 ∨ (s + 1) = y + 2 := h; omega)
            have hb_g7 := hb_g6.fr fg7 (fun h => by have h9 : (s + 1 + 3) = y + 1 ∨ (s + 1 + 3) = y + 2 := h; omega)
            have hl_g7 := hl_g6.fr fg7 (fun h => by have h9 : (s + 1 + 1) = y + 1 ∨ (s + 1 + 1) = y + 2 := h; omega)
            have hs_g7 := hs_g6.fr fg7 (fun h => by have h9 : (s + 1 + 2) = y + 1 ∨ (s + 1 + 2) = y + 2 := h; omega)
            have hg_g7 := hg_g6.fr fg7 (fun h => by have h9 : (s + 5) = y + 1 ∨ (s + 5) = y + 2 := h; omega)
            have hu_g7 := hu_g6.fr fg7 (fun h => by have h9 : u = y + 1 ∨ u = y + 2 := h; omega)
            have hy_g7 := hy_g6.fr fg7 (fun h => by have h9 : y = y + 1 ∨ y = y + 2 := h; omega)
            refine mn_aload_n 0 dVS_byteOf_73 rfl rfl ?_
            refine mn_get okVS 3 lVS_33 (by decide) hV_g7 rfl dVS_byteOf_74 ?_
            refine mn_get okWr 0 lVS_108 (by decide) hy_g7 rfl dVS_byteOf_77 ?_
            refine mn_iload_n 2 dVS_byteOf_80 rfl rfl ?_
            refine mn_cV (d' := 0) (w' := 0) (As := [.int (nI i)]) (stk' := [.int (nI (vlN c pb (dvL ln len (sz - 12) (pcN len (sz - 12))) (dvS sn bg e (sz - 12) (pcN len (sz - 12))) (sz - 12) (pcN len (sz - 12)) n st rp sz i))]) okVo_byteAt lVS_112 dVS_byteOf_81 hy1_g7 rfl rfl rfl rfl (Nat.le_of_ble_eq_true rfl) (Nat.le_of_ble_eq_true rfl) (by decide) (c_V_byteAt hy1_g7 hy2_g7 (j := i) (by omega)) rfl ?_
            exact mn_iret rfl dVS_byteOf_84 ⟨rfl, ((mn_fr.rf.tr (fg6.mo (fun q h => by have h9 : q = s + 1 ∨ q = s + 1 + 1 ∨ q = s + 1 + 2 ∨ q = s + 1 + 3 := h; show q = s + 1 ∨ q = s + 1 + 1 ∨ q = s + 1 + 2 ∨ q = s + 1 + 3 ∨ q = y + 1 ∨ q = y + 2; omega))).tr (fg7.mo (fun q h => by have h9 : q = y + 1 ∨ q = y + 2 := h; show q = s + 1 ∨ q = s + 1 + 1 ∨ q = s + 1 + 2 ∨ q = s + 1 + 3 ∨ q = y + 1 ∨ q = y + 2; omega))), ha_g7, hb_g7, hl_g7, hs_g7, hy1_g7, hy2_g7⟩
          · have c5 := mt (nI_ltI (a := i) (b := sz) (by omega) (by omega)).mpr c5
            refine mn_iconst (v := -1) dVS_byteOf_38 (by decide) ?_
            exact mn_iret rfl dVS_byteOf_39 (absurd hn (by omega))
  · exact absurd c1 (nI_nm3 (by omega))
set_option maxRecDepth 100000 in
theorem c_VS_write_bad {E : mn_En} {g : mn_H} {vs t s u y z rd op : Nat} (hL : Lay vs t s u y z rd op) (hV : mn_at g vs (.inr (10, [.ref t, .ref s, .ref u, .ref y, .ref z, .ref rd, .ref op]))) {x : Int32} (hx : x < -1 ∨ 60 < x) : mn_R E MVS_write 5 120 0 0 0 [(0, .ref vs), (1, .int x)] [] g (mn_is (some (.int (-1))) g) := by
  obtain ⟨l1, l2, l3, l4, l5, l6, l7⟩ := hL
  refine mn_iload_n 1 dVS_write_0 rfl rfl ?_
  refine mn_iconst (v := -1) dVS_write_1 (by decide) ?_
  refine mn_icmp_lt 11 dVS_write_2 (by decide) (fun c1 => ?_) (fun c1 => ?_)
  · refine mn_iconst (v := -1) dVS_write_11 (by decide) ?_
    exact mn_iret rfl dVS_write_12 ⟨rfl, rfl⟩
  · refine mn_iload_n 1 dVS_write_5 rfl rfl ?_
    refine mn_bipush (v := 60) dVS_write_6 (by decide) ?_
    refine mn_icmp_le 13 dVS_write_8 (by decide) (fun c2 => ?_) (fun c2 => ?_)
    · exact absurd hx (fun q => q.elim c1 (Int32.not_lt.mpr c2))
    · refine mn_iconst (v := -1) dVS_write_11 (by decide) ?_
      exact mn_iret rfl dVS_write_12 ⟨rfl, rfl⟩
set_option maxRecDepth 100000 in
theorem c_VS_write_full {E : mn_En} {g : mn_H} {vs t s u y z rd op : Nat} (hL : Lay vs t s u y z rd op) (hV : mn_at g vs (.inr (10, [.ref t, .ref s, .ref u, .ref y, .ref z, .ref rd, .ref op]))) {e len m w : Nat} {pb ln sn bg : Nat → Nat} (hS : mn_at g s (.inr (6, [.ref (s + 1), .ref (s + 5), .int (nI e), .int (nI len)]))) (ha : mn_at g (s + 1) (.inr (2, [.ref (s + 1 + 3), .ref (s + 1 + 1), .ref (s + 1 + 2), .int (nI m), .int (nI w)]))) (hb : mn_at g (s + 1 + 3) (.inl (0, 1340, .inl (fun j => nI (pb j))))) (hl : mn_at g (s + 1 + 1) (.inl (0, 60, .inl (fun j => nI (ln j))))) (hs : mn_at g (s + 1 + 2) (.inl (0, 60, .inl (fun j => nI (sn j))))) (hg : mn_at g (s + 5) (.inl (0, 20, .inl (fun j => nI (bg j))))) {sz rp st : Nat} (hu : mn_at g u (.inr (4, [.int (nI sz), .int (nI rp), .int (nI st)]))) (hsz : 20 ≤ sz) (hsz2 : sz ≤ 80) (hrp : rp ≤ 3) (hlen : len < 1340) (hf : 60 < pcN len (sz - 12) + rp) {x : Int32} (h1 : ¬ x < -1) (h2 : ¬ 60 < x) : mn_R E MVS_write 5 120 0 0 0 [(0, .ref vs), (1, .int x)] [] g (mn_is (some (.int (-3))) g) := by
  have hL0 := hL
  obtain ⟨l1, l2, l3, l4, l5, l6, l7⟩ := id hL
  have hpc : pcN len (sz - 12) < 100000 := by unfold pcN; have := Nat.div_le_self (len + (sz - 12) - 1) (sz - 12); rw [Nat.max_def]; split <;> omega
  refine mn_iload_n 1 dVS_write_0 rfl rfl ?_
  refine mn_iconst (v := -1) dVS_write_1 (by decide) ?_
  refine mn_icmp_lt 11 dVS_write_2 (by decide) (fun c1 => ?_) (fun c1 => ?_)
  · exact absurd c1 h1
  · refine mn_iload_n 1 dVS_write_5 rfl rfl ?_
    refine mn_bipush (v := 60) dVS_write_6 (by decide) ?_
    refine mn_icmp_le 13 dVS_write_8 (by decide) (fun c2 => ?_) (fun c2 => ?_)
    · refine mn_aload_n 0 dVS_write_13 rfl rfl ?_
      refine mn_cV (d' := 2) (w' := 42) (As := []) (stk' := [.int (-3)]) okVS_volumes lVS_91 dVS_write_14 hV rfl rfl rfl rfl (Nat.le_of_ble_eq_true rfl) (Nat.le_of_ble_eq_true rfl) (by decide) (c_VS_volumes_full hL hV hS ha hb hl hs hg hu hsz hsz2 hrp hlen hf) rfl ?_
      refine mn_bipush (v := (-3)) dVS_write_17 (by decide) ?_
      refine mn_icmp_ne 25 dVS_write_19 (by decide) (fun c3 => ?_) (fun c3 => ?_)
      · exact absurd c3 (by decide)
      · refine mn_bipush (v := (-3)) dVS_write_22 (by decide) ?_
        exact mn_iret rfl dVS_write_24 ⟨rfl, rfl⟩
    · exact absurd (Int32.not_le.mp c2) h2
set_option maxRecDepth 100000 in
theorem c_VS_write_non {E : mn_En} {g : mn_H} {vs t s u y z rd op : Nat} (hL : Lay vs t s u y z rd op) (hV : mn_at g vs (.inr (10, [.ref t, .ref s, .ref u, .ref y, .ref z, .ref rd, .ref op]))) {e len m w : Nat} {pb ln sn bg : Nat → Nat} (hS : mn_at g s (.inr (6, [.ref (s + 1), .ref (s + 5), .int (nI e), .int (nI len)]))) (ha : mn_at g (s + 1) (.inr (2, [.ref (s + 1 + 3), .ref (s + 1 + 1), .ref (s + 1 + 2), .int (nI m), .int (nI w)]))) (hb : mn_at g (s + 1 + 3) (.inl (0, 1340, .inl (fun j => nI (pb j))))) (hl : mn_at g (s + 1 + 1) (.inl (0, 60, .inl (fun j => nI (ln j))))) (hs : mn_at g (s + 1 + 2) (.inl (0, 60, .inl (fun j => nI (sn j))))) (hg : mn_at g (s + 5) (.inl (0, 20, .inl (fun j => nI (bg j))))) {sz rp st : Nat} (hu : mn_at g u (.inr (4, [.int (nI sz), .int (nI rp), .int (nI st)]))) {s0 : Nat} {c : Nat → Nat} (hy : mn_at g y (.inr (9, [.ref (y + 1)]))) (hy1 : mn_at g (y + 1) (.inr (8, [.ref (y + 2), .int (nI s0)]))) (hy2 : mn_at g (y + 2) (.inl (0, 80, .inl (fun j => nI (c j))))) {pi ss : Nat → Nat} {sb sb0 : Nat → Nat → Nat} (hSl : SlP g z pi ss sb) (hag : Agr ss sb sb0) (hsz : 20 ≤ sz) (hsz2 : sz ≤ 80) (hrp : rp ≤ 3) (hlen : len ≤ 1260) (he : e ≤ 20) (hbg : ∀ k, bg k < 100000) (hpb : ∀ j, pb j < 256) (hln : ∀ j, ln j < 256) (hsn : ∀ j, sn j < 256) (hst : st < 256) (hc : ∀ j, c j < 256) (hf : pcN len (sz - 12) + rp ≤ 60) {pw : Nat} (hpw : pw ≤ 60) (hno : 60 - cnt (fun k => ss k ≠ 0) 60 < min (cnt (fun n => ¬ hld ss sb0 sz ((fun n => vlN (fun _ => 0) pb (dvL ln len (sz - 12) (pcN len (sz - 12))) (dvS sn bg e (sz - 12) (pcN len (sz - 12))) (sz - 12) (pcN len (sz - 12)) n st rp sz) n)) ((pcN len (sz - 12)) + rp)) (pw + 1)) : mn_R E MVS_write 5 120 0 0 0 [(0, .ref vs), (1, .int (nI pw))] [] g (fun x g' => x = some (.int (-3)) ∧ mn_fr (fun q => q = s + 1 ∨ q = s + 1 + 1 ∨ q = s + 1 + 2 ∨ q = s + 1 + 3 ∨ q = y + 1 ∨ q = y + 2) g g' ∧ mn_at g' (s + 1) (.inr (2, [.ref (s + 1 + 3), .ref (s + 1 + 1), .ref (s + 1 + 2), .int (nI (pcN len (sz - 12))), .int (nI (sz - 12))])) ∧ mn_at g' (s + 1 + 3) (.inl (0, 1340, .inl (fun j => nI (pb j)))) ∧ mn_at g' (s + 1 + 1) (.inl (0, 60, .inl (fun j => nI ((dvL ln len (sz - 12) (pcN len (sz - 12))) j)))) ∧ mn_at g' (s + 1 + 2) (.inl (0, 60, .inl (fun j => nI ((dvS sn bg e (sz - 12) (pcN len (sz - 12))) j)))) ∧ ∃ (s2 : Nat) (bw : Nat → Nat), mn_at g' (y + 1) (.inr (8, [.ref (y + 2), .int (nI s2)])) ∧ mn_at g' (y + 2) (.inl (0, 80, .inl (fun j => nI (bw j)))) ∧ ∀ j, bw j < 256) := by
  have hlen2 := hlen
  have hlen : len < 1340 := by omega
  have hL0 := hL
  obtain ⟨l1, l2, l3, l4, l5, l6, l7⟩ := id hL
  have hpc : pcN len (sz - 12) < 100000 := by unfold pcN; have := Nat.div_le_self (len + (sz - 12) - 1) (sz - 12); rw [Nat.max_def]; split <;> omega
  have hdl : ∀ j, dvL ln len (sz - 12) (pcN len (sz - 12)) j < 256 := dvL_lt hln (by omega)
  have hds : ∀ j, dvS sn bg e (sz - 12) (pcN len (sz - 12)) j < 256 := dvS_lt hsn (by omega)
  have hm1 := pcN_pos len (sz - 12)
  have hmu : (pcN len (sz - 12)) * (sz - 12) ≤ 1340 := pcN_mul (by omega) (by omega) (by omega)
  have hz := hSl.1
  have hfil := cnt_le (fun k => ss k ≠ 0) 60
  refine mn_iload_n 1 dVS_write_0 rfl rfl ?_
  refine mn_iconst (v := -1) dVS_write_1 (by decide) ?_
  refine mn_icmp_lt 11 dVS_write_2 (by decide) (fun c1 => ?_) (fun c1 => ?_)
  · exact absurd c1 (nI_nlm1 (by omega))
  · refine mn_iload_n 1 dVS_write_5 rfl rfl ?_
    refine mn_bipush (v := 60) dVS_write_6 (by decide) ?_
    refine mn_icmp_le 13 dVS_write_8 (by decide) (fun c2 => ?_) (fun c2 => ?_)
    · have c2 := (nI_leI (a := pw) (b := 60) (by omega) (by omega)).mp c2
      refine mn_aload_n 0 dVS_write_13 rfl rfl ?_
      refine mn_cV (d' := 2) (w' := 42) (As := []) (stk' := [.int (nI (pcN len (sz - 12) + rp))]) okVS_volumes lVS_91 dVS_write_14 hV rfl rfl rfl rfl (Nat.le_of_ble_eq_true rfl) (Nat.le_of_ble_eq_true rfl) (by decide) (c_VS_volumes hL hV hS ha hb hl hs hg hu hsz hsz2 hrp hlen hf) rfl ?_
      refine mn_bipush (v := (-3)) dVS_write_17 (by decide) ?_
      refine mn_icmp_ne 25 dVS_write_19 (by decide) (fun c3 => ?_) (fun c3 => ?_)
      · refine mn_iload_n 1 dVS_write_25 rfl rfl ?_
        refine mn_if_ge 34 dVS_write_26 (by decide) (fun c4 => ?_) (fun c4 => ?_)
        · refine mn_iload_n 1 dVS_write_34 rfl rfl ?_
          refine mn_istore_n (ls' := [(0, .ref vs), (1, .int (nI pw)), (2, .int (nI pw))]) dVS_write_35 rfl (by decide) rfl ?_
          refine mn_aload_n 0 dVS_write_36 rfl rfl ?_
          refine mn_get okVS 1 lVS_19 (by decide) hV rfl dVS_write_37 ?_
          refine mn_aload_n 0 dVS_write_40 rfl rfl ?_
          refine mn_get okVS 2 lVS_26 (by decide) hV rfl dVS_write_41 ?_
          refine mn_cV (d' := 0) (w' := 0) (As := []) (stk' := [.int (nI (sz - 12)), .ref s]) okRu_width lVS_80 dVS_write_44 hu rfl rfl rfl rfl (Nat.le_of_ble_eq_true rfl) (Nat.le_of_ble_eq_true rfl) (by decide) (c_R_width hu (by omega)) rfl ?_
          refine mn_callV (d' := 2) (w' := 45) (nc' := 0) (ns' := 0) (As := [.int (nI (sz - 12))]) (st := []) okSt_divide lVS_97 dVS_write_47 hS rfl rfl rfl rfl (Nat.le_of_ble_eq_true rfl) (Nat.le_of_ble_eq_true rfl) (by decide) (c_S_divide hS ha hb hl hs hg (u := sz - 12) he hbg (by omega) (by omega) hlen (by omega)) (fun v g5 hq => ?_)
          obtain ⟨rfl, fg5, ha_g5, hb_g5, hl_g5, hs_g5⟩ := hq
          have ha_g5 : mn_at g5 (s + 1) (.inr (2, [.ref (s + 1 + 3), .ref (s + 1 + 1), .ref (s + 1 + 2), .int (nI (pcN len (sz - 12))), .int (nI (sz - 12))])) := ha_g5
          have hb_g5 : mn_at g5 (s + 1 + 3) (.inl (0, 1340, .inl (fun j => nI (pb j)))) := hb_g5
          have hl_g5 : mn_at g5 (s + 1 + 1) (.inl (0, 60, .inl (fun j => nI ((dvL ln len (sz - 12) (pcN len (sz - 12))) j)))) := hl_g5
          have hs_g5 : mn_at g5 (s + 1 + 2) (.inl (0, 60, .inl (fun j => nI ((dvS sn bg e (sz - 12) (pcN len (sz - 12))) j)))) := hs_g5
          show mn_R E MVS_write 5 120 _ _ 50 [(0, .ref vs), (1, .int (nI pw)), (2, .int (nI pw))] [] g5 _
          have hV_g5 := hV.fr fg5 (fun h => by have h9 : vs = s + 1 ∨ vs = s + 1 + 1 ∨ vs = s + 1 + 2 ∨ vs = s + 1 + 3 := h; omega)
          have hS_g5 := hS.fr fg5 (fun h => by have h9 : s = s + 1 ∨ s = s + 1 + 1 ∨ s = s + 1 + 2 ∨ s = s + 1 + 3 := h; omega)
          have hg_g5 := hg.fr fg5 (fun h => by have h9 : (s + 5) = s + 1 ∨ (s + 5) = s + 1 + 1 ∨ (s + 5) = s + 1 + 2 ∨ (s + 5) = s + 1 + 3 := h; omega)
          have hu_g5 := hu.fr fg5 (fun h => by have h9 : u = s + 1 ∨ u = s + 1 + 1 ∨ u = s + 1 + 2 ∨ u = s + 1 + 3 := h; omega)
          have hy_g5 := hy.fr fg5 (fun h => by have h9 : y = s + 1 ∨ y = s + 1 + 1 ∨ y = s + 1 + 2 ∨ y = s + 1 + 3 := h; omega)
          have hy1_g5 := hy1.fr fg5 (fun h => by have h9 : (y + 1) = s + 1 ∨ (y + 1) = s + 1 + 1 ∨ (y + 1) = s + 1 + 2 ∨ (y + 1) = s + 1 + 3 := h; omega)
          have hy2_g5 := hy2.fr fg5 (fun h => by have h9 : (y + 2) = s + 1 ∨ (y + 2) = s + 1 + 1 ∨ (y + 2) = s + 1 + 2 ∨ (y + 2) = s + 1 + 3 := h; omega)
          have hz_g5 := hz.fr fg5 (fun h => by have h9 : z = s + 1 ∨ z = s + 1 + 1 ∨ z = s + 1 + 2 ∨ z = s + 1 + 3 := h; omega)
          have hSl_g5 : SlP g5 z pi ss sb := hSl.fr fg5 (fun q q1 q2 h => by have h9 : q = s + 1 ∨ q = s + 1 + 1 ∨ q = s + 1 + 2 ∨ q = s + 1 + 3 := h; omega)
          refine mn_aload_n 0 dVS_write_50 rfl rfl ?_
          refine mn_get okVS 3 lVS_33 (by decide) hV_g5 rfl dVS_write_51 ?_
          refine mn_aload_n 0 dVS_write_54 rfl rfl ?_
          refine mn_get okVS 4 lVS_40 (by decide) hV_g5 rfl dVS_write_55 ?_
          refine mn_aload_n 0 dVS_write_58 rfl rfl ?_
          refine mn_get okVS 1 lVS_19 (by decide) hV_g5 rfl dVS_write_59 ?_
          refine mn_get okSt 0 lVS_100 (by decide) hS_g5 rfl dVS_write_62 ?_
          refine mn_aload_n 0 dVS_write_65 rfl rfl ?_
          refine mn_get okVS 2 lVS_26 (by decide) hV_g5 rfl dVS_write_66 ?_
          refine mn_callV (d' := 4) (w' := 94) (nc' := 0) (ns' := 0) (As := [.ref z, .ref (s + 1), .ref u]) (st := []) okWr_missingIn lVS_117 dVS_write_69 hy_g5 rfl rfl rfl rfl (Nat.le_of_ble_eq_true rfl) (Nat.le_of_ble_eq_true rfl) (by decide) (c_W_missing hy_g5 hy1_g5 hy2_g5 ha_g5 hb_g5 hl_g5 hs_g5 hu_g5 hSl_g5 hc (by omega) (by omega) (by omega) (by omega) (by omega) (by omega) hsz hsz2 rfl hm1 (by omega) hmu hrp hst hpb hdl hds hag) (fun v g6 hq => ?_)
          obtain ⟨rfl, fg6, s2, bw, hy1_g6, hy2_g6, hbw⟩ := hq
          show mn_R E MVS_write 5 120 _ _ 72 [(0, .ref vs), (1, .int (nI pw)), (2, .int (nI pw))] [.int (nI (cnt (fun n => ¬ hld ss sb0 sz ((fun n => vlN (fun _ => 0) pb (dvL ln len (sz - 12) (pcN len (sz - 12))) (dvS sn bg e (sz - 12) (pcN len (sz - 12))) (sz - 12) (pcN len (sz - 12)) n st rp sz) n)) ((pcN len (sz - 12)) + rp)))] g6 _
          have hV_g6 := hV_g5.fr fg6 (fun h => by have h9 : vs = y + 1 ∨ vs = y + 2 := h; omega)
          have hS_g6 := hS_g5.fr fg6 (fun h => by have h9 : s = y + 1 ∨ s = y + 2 := h; omega)
          have ha_g6 := ha_g5.fr fg6 (fun h => by have h9 : (s + 1) = y + 1 ∨ (s + 1) = y + 2 := h; omega)
          have hb_g6 := hb_g5.fr fg6 (fun h => by have h9 : (s + 1 + 3) = y + 1 ∨ (s + 1 + 3) = y + 2 := h; omega)
          have hl_g6 := hl_g5.fr fg6 (fun h => by have h9 : (s + 1 + 1) = y + 1 ∨ (s + 1 + 1) = y + 2 := h; omega)
          have hs_g6 := hs_g5.fr fg6 (fun h => by have h9 : (s + 1 + 2) = y + 1 ∨ (s + 1 + 2) = y + 2 := h; omega)
          have hg_g6 := hg_g5.fr fg6 (fun h => by have h9 : (s + 5) = y + 1 ∨ (s + 5) = y + 2 := h; omega)
          have hu_g6 := hu_g5.fr fg6 (fun h => by have h9 : u = y + 1 ∨ u = y + 2 := h; omega)
          have hy_g6 := hy_g5.fr fg6 (fun h => by have h9 : y = y + 1 ∨ y = y + 2 := h; omega)
          have hz_g6 := hz_g5.fr fg6 (fun h => by have h9 : z = y + 1 ∨ z = y + 2 := h; omega)
          have hSl_g6 : SlP g6 z pi ss sb := hSl_g5.fr fg6 (fun q q1 q2 h => by have h9 : q = y + 1 ∨ q = y + 2 := h; omega)
          have hcle := cnt_le (fun n => ¬ hld ss sb0 sz ((fun n => vlN (fun _ => 0) pb (dvL ln len (sz - 12) (pcN len (sz - 12))) (dvS sn bg e (sz - 12) (pcN len (sz - 12))) (sz - 12) (pcN len (sz - 12)) n st rp sz) n)) ((pcN len (sz - 12)) + rp)
          refine mn_iload_n 2 dVS_write_72 rfl rfl ?_
          refine mn_iconst (v := 1) dVS_write_73 (by decide) ?_
          refine mn_iadd (z := nI (pw + 1)) dVS_write_74 (nI_add pw 1) ?_
          refine mn_min (z := nI (min (cnt (fun n => ¬ hld ss sb0 sz ((fun n => vlN (fun _ => 0) pb (dvL ln len (sz - 12) (pcN len (sz - 12))) (dvS sn bg e (sz - 12) (pcN len (sz - 12))) (sz - 12) (pcN len (sz - 12)) n st rp sz) n)) ((pcN len (sz - 12)) + rp)) (pw + 1))) (mn_minN (by omega) (by omega)) lVS_121 min_st math_ini min_code (Nat.le_of_ble_eq_true rfl) (by decide) (by decide) dVS_write_75 ?_
          refine mn_istore_n (ls' := [(0, .ref vs), (1, .int (nI pw)), (2, .int (nI pw)), (3, .int (nI (min (cnt (fun n => ¬ hld ss sb0 sz ((fun n => vlN (fun _ => 0) pb (dvL ln len (sz - 12) (pcN len (sz - 12))) (dvS sn bg e (sz - 12) (pcN len (sz - 12))) (sz - 12) (pcN len (sz - 12)) n st rp sz) n)) ((pcN len (sz - 12)) + rp)) (pw + 1))))]) dVS_write_78 rfl (by decide) rfl ?_
          refine mn_iload_n 3 dVS_write_79 rfl rfl ?_
          refine mn_bipush (v := 60) dVS_write_80 (by decide) ?_
          refine mn_aload_n 0 dVS_write_82 rfl rfl ?_
          refine mn_get okVS 4 lVS_40 (by decide) hV_g6 rfl dVS_write_83 ?_
          refine mn_cV (d' := 0) (w' := 0) (As := []) (stk' := [.int (nI (cnt (fun k => ss k ≠ 0) 60)), .int 60, .int (nI (min (cnt (fun n => ¬ hld ss sb0 sz ((fun n => vlN (fun _ => 0) pb (dvL ln len (sz - 12) (pcN len (sz - 12))) (dvS sn bg e (sz - 12) (pcN len (sz - 12))) (sz - 12) (pcN len (sz - 12)) n st rp sz) n)) ((pcN len (sz - 12)) + rp)) (pw + 1)))]) okSl_filled lVS_126 dVS_write_86 hz_g6 rfl rfl rfl rfl (Nat.le_of_ble_eq_true rfl) (Nat.le_of_ble_eq_true rfl) (by decide) (c_Sl_filled hSl_g6) rfl ?_
          refine mn_isub (z := nI (60 - (cnt (fun k => ss k ≠ 0) 60))) dVS_write_89 (pk_sub (a := 60) (b := cnt (fun k => ss k ≠ 0) 60) (by omega)) ?_
          refine mn_icmp_le 96 dVS_write_90 (by decide) (fun c7 => ?_) (fun c7 => ?_)
          · have c7 := (nI_leI (a := (min (cnt (fun n => ¬ hld ss sb0 sz ((fun n => vlN (fun _ => 0) pb (dvL ln len (sz - 12) (pcN len (sz - 12))) (dvS sn bg e (sz - 12) (pcN len (sz - 12))) (sz - 12) (pcN len (sz - 12)) n st rp sz) n)) ((pcN len (sz - 12)) + rp)) (pw + 1))) (b := (60 - (cnt (fun k => ss k ≠ 0) 60))) (by omega) (by omega)).mp c7
            refine mn_aload_n 0 dVS_write_96 rfl rfl ?_
            refine mn_get okVS 3 lVS_33 (by decide) hV_g6 rfl dVS_write_97 ?_
            refine mn_aload_n 0 dVS_write_100 rfl rfl ?_
            refine mn_get okVS 4 lVS_40 (by decide) hV_g6 rfl dVS_write_101 ?_
            refine mn_aload_n 0 dVS_write_104 rfl rfl ?_
            refine mn_get okVS 1 lVS_19 (by decide) hV_g6 rfl dVS_write_105 ?_
            refine mn_get okSt 0 lVS_100 (by decide) hS_g6 rfl dVS_write_108 ?_
            refine mn_aload_n 0 dVS_write_111 rfl rfl ?_
            refine mn_get okVS 2 lVS_26 (by decide) hV_g6 rfl dVS_write_112 ?_
            refine mn_iload_n 2 dVS_write_115 rfl rfl ?_
            refine mn_callV (d' := 4) (w' := 94) (nc' := 0) (ns' := 0) (As := [.ref z, .ref (s + 1), .ref u, .int (nI pw)]) (st := []) okWr_fill lVS_129 dVS_write_116 hy_g6 rfl rfl rfl rfl (Nat.le_of_ble_eq_true rfl) (Nat.le_of_ble_eq_true rfl) (by decide) (c_W_fill (pw := pw) (by omega) hy_g6 hy1_g6 hy2_g6 ha_g6 hb_g6 hl_g6 hs_g6 hu_g6 hSl_g6 hbw (by omega) (by omega) (by omega) (by omega) (by omega) (by omega) hsz hsz2 rfl hm1 (by omega) hmu hrp hst hpb hdl hds hag) (fun v g8 hq => ?_)
            obtain ⟨rfl, fg8, hsl9, hyy9⟩ := hq
            show mn_R E MVS_write 5 120 _ _ 119 [(0, .ref vs), (1, .int (nI pw)), (2, .int (nI pw)), (3, .int (nI (min (cnt (fun n => ¬ hld ss sb0 sz ((fun n => vlN (fun _ => 0) pb (dvL ln len (sz - 12) (pcN len (sz - 12))) (dvS sn bg e (sz - 12) (pcN len (sz - 12))) (sz - 12) (pcN len (sz - 12)) n st rp sz) n)) ((pcN len (sz - 12)) + rp)) (pw + 1))))] [.int (nI ((wrK (fun n => vlN (fun _ => 0) pb (dvL ln len (sz - 12) (pcN len (sz - 12))) (dvS sn bg e (sz - 12) (pcN len (sz - 12))) (sz - 12) (pcN len (sz - 12)) n st rp sz) sz ((pcN len (sz - 12)) + rp) pw ((pcN len (sz - 12)) + rp) (ss, sb0, 0)).2.2))] g8 _
            have ha_g8 := ha_g6.fr fg8 (fun h => by have h9 : (s + 1) = y + 1 ∨ (s + 1) = y + 2 ∨ (z + 2 ≤ (s + 1) ∧ (s + 1) < z + 122) := h; omega)
            have hb_g8 := hb_g6.fr fg8 (fun h => by have h9 : (s + 1 + 3) = y + 1 ∨ (s + 1 + 3) = y + 2 ∨ (z + 2 ≤ (s + 1 + 3) ∧ (s + 1 + 3) < z + 122) := h; omega)
            have hl_g8 := hl_g6.fr fg8 (fun h => by have h9 : (s + 1 + 1) = y + 1 ∨ (s + 1 + 1) = y + 2 ∨ (z + 2 ≤ (s + 1 + 1) ∧ (s + 1 + 1) < z + 122) := h; omega)
            have hs_g8 := hs_g6.fr fg8 (fun h => by have h9 : (s + 1 + 2) = y + 1 ∨ (s + 1 + 2) = y + 2 ∨ (z + 2 ≤ (s + 1 + 2) ∧ (s + 1 + 2) < z + 122) := h; omega)
            exact mn_iret rfl dVS_write_119 (absurd hno (by omega))
          · have c7 := mt (nI_leI (a := (min (cnt (fun n => ¬ hld ss sb0 sz ((fun n => vlN (fun _ => 0) pb (dvL ln len (sz - 12) (pcN len (sz - 12))) (dvS sn bg e (sz - 12) (pcN len (sz - 12))) (sz - 12) (pcN len (sz - 12)) n st rp sz) n)) ((pcN len (sz - 12)) + rp)) (pw + 1))) (b := (60 - (cnt (fun k => ss k ≠ 0) 60))) (by omega) (by omega)).mpr c7
            refine mn_bipush (v := (-3)) dVS_write_93 (by decide) ?_
            exact mn_iret rfl dVS_write_95 ⟨rfl, ((mn_fr.rf.tr (fg5.mo (fun q h => by have h9 : q = s + 1 ∨ q = s + 1 + 1 ∨ q = s + 1 + 2 ∨ q = s + 1 + 3 := h; show q = s + 1 ∨ q = s + 1 + 1 ∨ q = s + 1 + 2 ∨ q = s + 1 + 3 ∨ q = y + 1 ∨ q = y + 2; omega))).tr (fg6.mo (fun q h => by have h9 : q = y + 1 ∨ q = y + 2 := h; show q = s + 1 ∨ q = s + 1 + 1 ∨ q = s + 1 + 2 ∨ q = s + 1 + 3 ∨ q = y + 1 ∨ q = y + 2; omega))), ha_g6, hb_g6, hl_g6, hs_g6, s2, bw, hy1_g6, hy2_g6, hbw⟩
        · exact absurd (nI_pos' (by omega)) c4
      · exact absurd c3 (nI_nm3 (by omega))
    · have c2 := mt (nI_leI (a := pw) (b := 60) (by omega) (by omega)).mpr c2
      refine mn_iconst (v := -1) dVS_write_11 (by decide) ?_
      exact mn_iret rfl dVS_write_12 (absurd hpw (by omega))
set_option maxRecDepth 100000 in
theorem c_VS_writen {E : mn_En} {g : mn_H} {vs t s u y z rd op : Nat} (hL : Lay vs t s u y z rd op) (hV : mn_at g vs (.inr (10, [.ref t, .ref s, .ref u, .ref y, .ref z, .ref rd, .ref op]))) {e len m w : Nat} {pb ln sn bg : Nat → Nat} (hS : mn_at g s (.inr (6, [.ref (s + 1), .ref (s + 5), .int (nI e), .int (nI len)]))) (ha : mn_at g (s + 1) (.inr (2, [.ref (s + 1 + 3), .ref (s + 1 + 1), .ref (s + 1 + 2), .int (nI m), .int (nI w)]))) (hb : mn_at g (s + 1 + 3) (.inl (0, 1340, .inl (fun j => nI (pb j))))) (hl : mn_at g (s + 1 + 1) (.inl (0, 60, .inl (fun j => nI (ln j))))) (hs : mn_at g (s + 1 + 2) (.inl (0, 60, .inl (fun j => nI (sn j))))) (hg : mn_at g (s + 5) (.inl (0, 20, .inl (fun j => nI (bg j))))) {sz rp st : Nat} (hu : mn_at g u (.inr (4, [.int (nI sz), .int (nI rp), .int (nI st)]))) {s0 : Nat} {c : Nat → Nat} (hy : mn_at g y (.inr (9, [.ref (y + 1)]))) (hy1 : mn_at g (y + 1) (.inr (8, [.ref (y + 2), .int (nI s0)]))) (hy2 : mn_at g (y + 2) (.inl (0, 80, .inl (fun j => nI (c j))))) {pi ss : Nat → Nat} {sb sb0 : Nat → Nat → Nat} (hSl : SlP g z pi ss sb) (hag : Agr ss sb sb0) (hsz : 20 ≤ sz) (hsz2 : sz ≤ 80) (hrp : rp ≤ 3) (hlen : len ≤ 1260) (he : e ≤ 20) (hbg : ∀ k, bg k < 100000) (hpb : ∀ j, pb j < 256) (hln : ∀ j, ln j < 256) (hsn : ∀ j, sn j < 256) (hst : st < 256) (hc : ∀ j, c j < 256) (hf : pcN len (sz - 12) + rp ≤ 60) {pw : Nat} (hpw : pw ≤ 60) (hno : min (cnt (fun n => ¬ hld ss sb0 sz ((fun n => vlN (fun _ => 0) pb (dvL ln len (sz - 12) (pcN len (sz - 12))) (dvS sn bg e (sz - 12) (pcN len (sz - 12))) (sz - 12) (pcN len (sz - 12)) n st rp sz) n)) ((pcN len (sz - 12)) + rp)) (pw + 1) ≤ 60 - cnt (fun k => ss k ≠ 0) 60) : mn_R E MVS_write 5 120 0 0 0 [(0, .ref vs), (1, .int (nI pw))] [] g (fun x g' => x = some (.int (nI (wrK (fun n => vlN (fun _ => 0) pb (dvL ln len (sz - 12) (pcN len (sz - 12))) (dvS sn bg e (sz - 12) (pcN len (sz - 12))) (sz - 12) (pcN len (sz - 12)) n st rp sz) sz ((pcN len (sz - 12)) + rp) pw ((pcN len (sz - 12)) + rp) (ss, sb0, 0)).2.2)) ∧ mn_fr (fun q => q = s + 1 ∨ q = s + 1 + 1 ∨ q = s + 1 + 2 ∨ q = s + 1 + 3 ∨ q = y + 1 ∨ q = y + 2 ∨ (z + 2 ≤ q ∧ q < z + 122)) g g' ∧ mn_at g' (s + 1) (.inr (2, [.ref (s + 1 + 3), .ref (s + 1 + 1), .ref (s + 1 + 2), .int (nI (pcN len (sz - 12))), .int (nI (sz - 12))])) ∧ mn_at g' (s + 1 + 3) (.inl (0, 1340, .inl (fun j => nI (pb j)))) ∧ mn_at g' (s + 1 + 1) (.inl (0, 60, .inl (fun j => nI ((dvL ln len (sz - 12) (pcN len (sz - 12))) j)))) ∧ mn_at g' (s + 1 + 2) (.inl (0, 60, .inl (fun j => nI ((dvS sn bg e (sz - 12) (pcN len (sz - 12))) j)))) ∧ (∃ sb', SlP g' z pi (wrK (fun n => vlN (fun _ => 0) pb (dvL ln len (sz - 12) (pcN len (sz - 12))) (dvS sn bg e (sz - 12) (pcN len (sz - 12))) (sz - 12) (pcN len (sz - 12)) n st rp sz) sz ((pcN len (sz - 12)) + rp) pw ((pcN len (sz - 12)) + rp) (ss, sb0, 0)).1 sb' ∧ Agr (wrK (fun n => vlN (fun _ => 0) pb (dvL ln len (sz - 12) (pcN len (sz - 12))) (dvS sn bg e (sz - 12) (pcN len (sz - 12))) (sz - 12) (pcN len (sz - 12)) n st rp sz) sz ((pcN len (sz - 12)) + rp) pw ((pcN len (sz - 12)) + rp) (ss, sb0, 0)).1 sb' (wrK (fun n => vlN (fun _ => 0) pb (dvL ln len (sz - 12) (pcN len (sz - 12))) (dvS sn bg e (sz - 12) (pcN len (sz - 12))) (sz - 12) (pcN len (sz - 12)) n st rp sz) sz ((pcN len (sz - 12)) + rp) pw ((pcN len (sz - 12)) + rp) (ss, sb0, 0)).2.1) ∧ ∃ (s2 : Nat) (bw : Nat → Nat), mn_at g' (y + 1) (.inr (8, [.ref (y + 2), .int (nI s2)])) ∧ mn_at g' (y + 2) (.inl (0, 80, .inl (fun j => nI (bw j)))) ∧ ∀ j, bw j < 256) := by
  have hlen2 := hlen
  have hlen : len < 1340 := by omega
  have hL0 := hL
  obtain ⟨l1, l2, l3, l4, l5, l6, l7⟩ := id hL
  have hpc : pcN len (sz - 12) < 100000 := by unfold pcN; have := Nat.div_le_self (len + (sz - 12) - 1) (sz - 12); rw [Nat.max_def]; split <;> omega
  have hdl : ∀ j, dvL ln len (sz - 12) (pcN len (sz - 12)) j < 256 := dvL_lt hln (by omega)
  have hds : ∀ j, dvS sn bg e (sz - 12) (pcN len (sz - 12)) j < 256 := dvS_lt hsn (by omega)
  have hm1 := pcN_pos len (sz - 12)
  have hmu : (pcN len (sz - 12)) * (sz - 12) ≤ 1340 := pcN_mul (by omega) (by omega) (by omega)
  have hz := hSl.1
  have hfil := cnt_le (fun k => ss k ≠ 0) 60
  refine mn_iload_n 1 dVS_write_0 rfl rfl ?_
  refine mn_iconst (v := -1) dVS_write_1 (by decide) ?_
  refine mn_icmp_lt 11 dVS_write_2 (by decide) (fun c1 => ?_) (fun c1 => ?_)
  · exact absurd c1 (nI_nlm1 (by omega))
  · refine mn_iload_n 1 dVS_write_5 rfl rfl ?_
    refine mn_bipush (v := 60) dVS_write_6 (by decide) ?_
    refine mn_icmp_le 13 dVS_write_8 (by decide) (fun c2 => ?_) (fun c2 => ?_)
    · have c2 := (nI_leI (a := pw) (b := 60) (by omega) (by omega)).mp c2
      refine mn_aload_n 0 dVS_write_13 rfl rfl ?_
      refine mn_cV (d' := 2) (w' := 42) (As := []) (stk' := [.int (nI (pcN len (sz - 12) + rp))]) okVS_volumes lVS_91 dVS_write_14 hV rfl rfl rfl rfl (Nat.le_of_ble_eq_true rfl) (Nat.le_of_ble_eq_true rfl) (by decide) (c_VS_volumes hL hV hS ha hb hl hs hg hu hsz hsz2 hrp hlen hf) rfl ?_
      refine mn_bipush (v := (-3)) dVS_write_17 (by decide) ?_
      refine mn_icmp_ne 25 dVS_write_19 (by decide) (fun c3 => ?_) (fun c3 => ?_)
      · refine mn_iload_n 1 dVS_write_25 rfl rfl ?_
        refine mn_if_ge 34 dVS_write_26 (by decide) (fun c4 => ?_) (fun c4 => ?_)
        · refine mn_iload_n 1 dVS_write_34 rfl rfl ?_
          refine mn_istore_n (ls' := [(0, .ref vs), (1, .int (nI pw)), (2, .int (nI pw))]) dVS_write_35 rfl (by decide) rfl ?_
          refine mn_aload_n 0 dVS_write_36 rfl rfl ?_
          refine mn_get okVS 1 lVS_19 (by decide) hV rfl dVS_write_37 ?_
          refine mn_aload_n 0 dVS_write_40 rfl rfl ?_
          refine mn_get okVS 2 lVS_26 (by decide) hV rfl dVS_write_41 ?_
          refine mn_cV (d' := 0) (w' := 0) (As := []) (stk' := [.int (nI (sz - 12)), .ref s]) okRu_width lVS_80 dVS_write_44 hu rfl rfl rfl rfl (Nat.le_of_ble_eq_true rfl) (Nat.le_of_ble_eq_true rfl) (by decide) (c_R_width hu (by omega)) rfl ?_
          refine mn_callV (d' := 2) (w' := 45) (nc' := 0) (ns' := 0) (As := [.int (nI (sz - 12))]) (st := []) okSt_divide lVS_97 dVS_write_47 hS rfl rfl rfl rfl (Nat.le_of_ble_eq_true rfl) (Nat.le_of_ble_eq_true rfl) (by decide) (c_S_divide hS ha hb hl hs hg (u := sz - 12) he hbg (by omega) (by omega) hlen (by omega)) (fun v g5 hq => ?_)
          obtain ⟨rfl, fg5, ha_g5, hb_g5, hl_g5, hs_g5⟩ := hq
          have ha_g5 : mn_at g5 (s + 1) (.inr (2, [.ref (s + 1 + 3), .ref (s + 1 + 1), .ref (s + 1 + 2), .int (nI (pcN len (sz - 12))), .int (nI (sz - 12))])) := ha_g5
          have hb_g5 : mn_at g5 (s + 1 + 3) (.inl (0, 1340, .inl (fun j => nI (pb j)))) := hb_g5
          have hl_g5 : mn_at g5 (s + 1 + 1) (.inl (0, 60, .inl (fun j => nI ((dvL ln len (sz - 12) (pcN len (sz - 12))) j)))) := hl_g5
          have hs_g5 : mn_at g5 (s + 1 + 2) (.inl (0, 60, .inl (fun j => nI ((dvS sn bg e (sz - 12) (pcN len (sz - 12))) j)))) := hs_g5
          show mn_R E MVS_write 5 120 _ _ 50 [(0, .ref vs), (1, .int (nI pw)), (2, .int (nI pw))] [] g5 _
          have hV_g5 := hV.fr fg5 (fun h => by have h9 : vs = s + 1 ∨ vs = s + 1 + 1 ∨ vs = s + 1 + 2 ∨ vs = s + 1 + 3 := h; omega)
          have hS_g5 := hS.fr fg5 (fun h => by have h9 : s = s + 1 ∨ s = s + 1 + 1 ∨ s = s + 1 + 2 ∨ s = s + 1 + 3 := h; omega)
          have hg_g5 := hg.fr fg5 (fun h => by have h9 : (s + 5) = s + 1 ∨ (s + 5) = s + 1 + 1 ∨ (s + 5) = s + 1 + 2 ∨ (s + 5) = s + 1 + 3 := h; omega)
          have hu_g5 := hu.fr fg5 (fun h => by have h9 : u = s + 1 ∨ u = s + 1 + 1 ∨ u = s + 1 + 2 ∨ u = s + 1 + 3 := h; omega)
          have hy_g5 := hy.fr fg5 (fun h => by have h9 : y = s + 1 ∨ y = s + 1 + 1 ∨ y = s + 1 + 2 ∨ y = s + 1 + 3 := h; omega)
          have hy1_g5 := hy1.fr fg5 (fun h => by have h9 : (y + 1) = s + 1 ∨ (y + 1) = s + 1 + 1 ∨ (y + 1) = s + 1 + 2 ∨ (y + 1) = s + 1 + 3 := h; omega)
          have hy2_g5 := hy2.fr fg5 (fun h => by have h9 : (y + 2) = s + 1 ∨ (y + 2) = s + 1 + 1 ∨ (y + 2) = s + 1 + 2 ∨ (y + 2) = s + 1 + 3 := h; omega)
          have hz_g5 := hz.fr fg5 (fun h => by have h9 : z = s + 1 ∨ z = s + 1 + 1 ∨ z = s + 1 + 2 ∨ z = s + 1 + 3 := h; omega)
          have hSl_g5 : SlP g5 z pi ss sb := hSl.fr fg5 (fun q q1 q2 h => by have h9 : q = s + 1 ∨ q = s + 1 + 1 ∨ q = s + 1 + 2 ∨ q = s + 1 + 3 := h; omega)
          refine mn_aload_n 0 dVS_write_50 rfl rfl ?_
          refine mn_get okVS 3 lVS_33 (by decide) hV_g5 rfl dVS_write_51 ?_
          refine mn_aload_n 0 dVS_write_54 rfl rfl ?_
          refine mn_get okVS 4 lVS_40 (by decide) hV_g5 rfl dVS_write_55 ?_
          refine mn_aload_n 0 dVS_write_58 rfl rfl ?_
          refine mn_get okVS 1 lVS_19 (by decide) hV_g5 rfl dVS_write_59 ?_
          refine mn_get okSt 0 lVS_100 (by decide) hS_g5 rfl dVS_write_62 ?_
          refine mn_aload_n 0 dVS_write_65 rfl rfl ?_
          refine mn_get okVS 2 lVS_26 (by decide) hV_g5 rfl dVS_write_66 ?_
          refine mn_callV (d' := 4) (w' := 94) (nc' := 0) (ns' := 0) (As := [.ref z, .ref (s + 1), .ref u]) (st := []) okWr_missingIn lVS_117 dVS_write_69 hy_g5 rfl rfl rfl rfl (Nat.le_of_ble_eq_true rfl) (Nat.le_of_ble_eq_true rfl) (by decide) (c_W_missing hy_g5 hy1_g5 hy2_g5 ha_g5 hb_g5 hl_g5 hs_g5 hu_g5 hSl_g5 hc (by omega) (by omega) (by omega) (by omega) (by omega) (by omega) hsz hsz2 rfl hm1 (by omega) hmu hrp hst hpb hdl hds hag) (fun v g6 hq => ?_)
          obtain ⟨rfl, fg6, s2, bw, hy1_g6, hy2_g6, hbw⟩ := hq
          show mn_R E MVS_write 5 120 _ _ 72 [(0, .ref vs), (1, .int (nI pw)), (2, .int (nI pw))] [.int (nI (cnt (fun n => ¬ hld ss sb0 sz ((fun n => vlN (fun _ => 0) pb (dvL ln len (sz - 12) (pcN len (sz - 12))) (dvS sn bg e (sz - 12) (pcN len (sz - 12))) (sz - 12) (pcN len (sz - 12)) n st rp sz) n)) ((pcN len (sz - 12)) + rp)))] g6 _
          have hV_g6 := hV_g5.fr fg6 (fun h => by have h9 : vs = y + 1 ∨ vs = y + 2 := h; omega)
          have hS_g6 := hS_g5.fr fg6 (fun h => by have h9 : s = y + 1 ∨ s = y + 2 := h; omega)
          have ha_g6 := ha_g5.fr fg6 (fun h => by have h9 : (s + 1) = y + 1 ∨ (s + 1) = y + 2 := h; omega)
          have hb_g6 := hb_g5.fr fg6 (fun h => by have h9 : (s + 1 + 3) = y + 1 ∨ (s + 1 + 3) = y + 2 := h; omega)
          have hl_g6 := hl_g5.fr fg6 (fun h => by have h9 : (s + 1 + 1) = y + 1 ∨ (s + 1 + 1) = y + 2 := h; omega)
          have hs_g6 := hs_g5.fr fg6 (fun h => by have h9 : (s + 1 + 2) = y + 1 ∨ (s + 1 + 2) = y + 2 := h; omega)
          have hg_g6 := hg_g5.fr fg6 (fun h => by have h9 : (s + 5) = y + 1 ∨ (s + 5) = y + 2 := h; omega)
          have hu_g6 := hu_g5.fr fg6 (fun h => by have h9 : u = y + 1 ∨ u = y + 2 := h; omega)
          have hy_g6 := hy_g5.fr fg6 (fun h => by have h9 : y = y + 1 ∨ y = y + 2 := h; omega)
          have hz_g6 := hz_g5.fr fg6 (fun h => by have h9 : z = y + 1 ∨ z = y + 2 := h; omega)
          have hSl_g6 : SlP g6 z pi ss sb := hSl_g5.fr fg6 (fun q q1 q2 h => by have h9 : q = y + 1 ∨ q = y + 2 := h; omega)
          have hcle := cnt_le (fun n => ¬ hld ss sb0 sz ((fun n => vlN (fun _ => 0) pb (dvL ln len (sz - 12) (pcN len (sz - 12))) (dvS sn bg e (sz - 12) (pcN len (sz - 12))) (sz - 12) (pcN len (sz - 12)) n st rp sz) n)) ((pcN len (sz - 12)) + rp)
          refine mn_iload_n 2 dVS_write_72 rfl rfl ?_
          refine mn_iconst (v := 1) dVS_write_73 (by decide) ?_
          refine mn_iadd (z := nI (pw + 1)) dVS_write_74 (nI_add pw 1) ?_
          refine mn_min (z := nI (min (cnt (fun n => ¬ hld ss sb0 sz ((fun n => vlN (fun _ => 0) pb (dvL ln len (sz - 12) (pcN len (sz - 12))) (dvS sn bg e (sz - 12) (pcN len (sz - 12))) (sz - 12) (pcN len (sz - 12)) n st rp sz) n)) ((pcN len (sz - 12)) + rp)) (pw + 1))) (mn_minN (by omega) (by omega)) lVS_121 min_st math_ini min_code (Nat.le_of_ble_eq_true rfl) (by decide) (by decide) dVS_write_75 ?_
          refine mn_istore_n (ls' := [(0, .ref vs), (1, .int (nI pw)), (2, .int (nI pw)), (3, .int (nI (min (cnt (fun n => ¬ hld ss sb0 sz ((fun n => vlN (fun _ => 0) pb (dvL ln len (sz - 12) (pcN len (sz - 12))) (dvS sn bg e (sz - 12) (pcN len (sz - 12))) (sz - 12) (pcN len (sz - 12)) n st rp sz) n)) ((pcN len (sz - 12)) + rp)) (pw + 1))))]) dVS_write_78 rfl (by decide) rfl ?_
          refine mn_iload_n 3 dVS_write_79 rfl rfl ?_
          refine mn_bipush (v := 60) dVS_write_80 (by decide) ?_
          refine mn_aload_n 0 dVS_write_82 rfl rfl ?_
          refine mn_get okVS 4 lVS_40 (by decide) hV_g6 rfl dVS_write_83 ?_
          refine mn_cV (d' := 0) (w' := 0) (As := []) (stk' := [.int (nI (cnt (fun k => ss k ≠ 0) 60)), .int 60, .int (nI (min (cnt (fun n => ¬ hld ss sb0 sz ((fun n => vlN (fun _ => 0) pb (dvL ln len (sz - 12) (pcN len (sz - 12))) (dvS sn bg e (sz - 12) (pcN len (sz - 12))) (sz - 12) (pcN len (sz - 12)) n st rp sz) n)) ((pcN len (sz - 12)) + rp)) (pw + 1)))]) okSl_filled lVS_126 dVS_write_86 hz_g6 rfl rfl rfl rfl (Nat.le_of_ble_eq_true rfl) (Nat.le_of_ble_eq_true rfl) (by decide) (c_Sl_filled hSl_g6) rfl ?_
          refine mn_isub (z := nI (60 - (cnt (fun k => ss k ≠ 0) 60))) dVS_write_89 (pk_sub (a := 60) (b := cnt (fun k => ss k ≠ 0) 60) (by omega)) ?_
          refine mn_icmp_le 96 dVS_write_90 (by decide) (fun c7 => ?_) (fun c7 => ?_)
          · have c7 := (nI_leI (a := (min (cnt (fun n => ¬ hld ss sb0 sz ((fun n => vlN (fun _ => 0) pb (dvL ln len (sz - 12) (pcN len (sz - 12))) (dvS sn bg e (sz - 12) (pcN len (sz - 12))) (sz - 12) (pcN len (sz - 12)) n st rp sz) n)) ((pcN len (sz - 12)) + rp)) (pw + 1))) (b := (60 - (cnt (fun k => ss k ≠ 0) 60))) (by omega) (by omega)).mp c7
            refine mn_aload_n 0 dVS_write_96 rfl rfl ?_
            refine mn_get okVS 3 lVS_33 (by decide) hV_g6 rfl dVS_write_97 ?_
            refine mn_aload_n 0 dVS_write_100 rfl rfl ?_
            refine mn_get okVS 4 lVS_40 (by decide) hV_g6 rfl dVS_write_101 ?_
            refine mn_aload_n 0 dVS_write_104 rfl rfl ?_
            refine mn_get okVS 1 lVS_19 (by decide) hV_g6 rfl dVS_write_105 ?_
            refine mn_get okSt 0 lVS_100 (by decide) hS_g6 rfl dVS_write_108 ?_
            refine mn_aload_n 0 dVS_write_111 rfl rfl ?_
            refine mn_get okVS 2 lVS_26 (by decide) hV_g6 rfl dVS_write_112 ?_
            refine mn_iload_n 2 dVS_write_115 rfl rfl ?_
            refine mn_callV (d' := 4) (w' := 94) (nc' := 0) (ns' := 0) (As := [.ref z, .ref (s + 1), .ref u, .int (nI pw)]) (st := []) okWr_fill lVS_129 dVS_write_116 hy_g6 rfl rfl rfl rfl (Nat.le_of_ble_eq_true rfl) (Nat.le_of_ble_eq_true rfl) (by decide) (c_W_fill (pw := pw) (by omega) hy_g6 hy1_g6 hy2_g6 ha_g6 hb_g6 hl_g6 hs_g6 hu_g6 hSl_g6 hbw (by omega) (by omega) (by omega) (by omega) (by omega) (by omega) hsz hsz2 rfl hm1 (by omega) hmu hrp hst hpb hdl hds hag) (fun v g8 hq => ?_)
            obtain ⟨rfl, fg8, hsl9, hyy9⟩ := hq
            show mn_R E MVS_write 5 120 _ _ 119 [(0, .ref vs), (1, .int (nI pw)), (2, .int (nI pw)), (3, .int (nI (min (cnt (fun n => ¬ hld ss sb0 sz ((fun n => vlN (fun _ => 0) pb (dvL ln len (sz - 12) (pcN len (sz - 12))) (dvS sn bg e (sz - 12) (pcN len (sz - 12))) (sz - 12) (pcN len (sz - 12)) n st rp sz) n)) ((pcN len (sz - 12)) + rp)) (pw + 1))))] [.int (nI ((wrK (fun n => vlN (fun _ => 0) pb (dvL ln len (sz - 12) (pcN len (sz - 12))) (dvS sn bg e (sz - 12) (pcN len (sz - 12))) (sz - 12) (pcN len (sz - 12)) n st rp sz) sz ((pcN len (sz - 12)) + rp) pw ((pcN len (sz - 12)) + rp) (ss, sb0, 0)).2.2))] g8 _
            have ha_g8 := ha_g6.fr fg8 (fun h => by have h9 : (s + 1) = y + 1 ∨ (s + 1) = y + 2 ∨ (z + 2 ≤ (s + 1) ∧ (s + 1) < z + 122) := h; omega)
            have hb_g8 := hb_g6.fr fg8 (fun h => by have h9 : (s + 1 + 3) = y + 1 ∨ (s + 1 + 3) = y + 2 ∨ (z + 2 ≤ (s + 1 + 3) ∧ (s + 1 + 3) < z + 122) := h; omega)
            have hl_g8 := hl_g6.fr fg8 (fun h => by have h9 : (s + 1 + 1) = y + 1 ∨ (s + 1 + 1) = y + 2 ∨ (z + 2 ≤ (s + 1 + 1) ∧ (s + 1 + 1) < z + 122) := h; omega)
            have hs_g8 := hs_g6.fr fg8 (fun h => by have h9 : (s + 1 + 2) = y + 1 ∨ (s + 1 + 2) = y + 2 ∨ (z + 2 ≤ (s + 1 + 2) ∧ (s + 1 + 2) < z + 122) := h; omega)
            exact mn_iret rfl dVS_write_119 ⟨rfl, (((mn_fr.rf.tr (fg5.mo (fun q h => by have h9 : q = s + 1 ∨ q = s + 1 + 1 ∨ q = s + 1 + 2 ∨ q = s + 1 + 3 := h; show q = s + 1 ∨ q = s + 1 + 1 ∨ q = s + 1 + 2 ∨ q = s + 1 + 3 ∨ q = y + 1 ∨ q = y + 2 ∨ (z + 2 ≤ q ∧ q < z + 122); omega))).tr (fg6.mo (fun q h => by have h9 : q = y + 1 ∨ q = y + 2 := h; show q = s + 1 ∨ q = s + 1 + 1 ∨ q = s + 1 + 2 ∨ q = s + 1 + 3 ∨ q = y + 1 ∨ q = y + 2 ∨ (z + 2 ≤ q ∧ q < z + 122); omega))).tr (fg8.mo (fun q h => by have h9 : q = y + 1 ∨ q = y + 2 ∨ (z + 2 ≤ q ∧ q < z + 122) := h; show q = s + 1 ∨ q = s + 1 + 1 ∨ q = s + 1 + 2 ∨ q = s + 1 + 3 ∨ q = y + 1 ∨ q = y + 2 ∨ (z + 2 ≤ q ∧ q < z + 122); omega))), ha_g8, hb_g8, hl_g8, hs_g8, hsl9, hyy9⟩
          · have c7 := mt (nI_leI (a := (min (cnt (fun n => ¬ hld ss sb0 sz ((fun n => vlN (fun _ => 0) pb (dvL ln len (sz - 12) (pcN len (sz - 12))) (dvS sn bg e (sz - 12) (pcN len (sz - 12))) (sz - 12) (pcN len (sz - 12)) n st rp sz) n)) ((pcN len (sz - 12)) + rp)) (pw + 1))) (b := (60 - (cnt (fun k => ss k ≠ 0) 60))) (by omega) (by omega)).mpr c7
            refine mn_bipush (v := (-3)) dVS_write_93 (by decide) ?_
            exact mn_iret rfl dVS_write_95 (absurd hno (by omega))
        · exact absurd (nI_pos' (by omega)) c4
      · exact absurd c3 (nI_nm3 (by omega))
    · have c2 := mt (nI_leI (a := pw) (b := 60) (by omega) (by omega)).mpr c2
      refine mn_iconst (v := -1) dVS_write_11 (by decide) ?_
      exact mn_iret rfl dVS_write_12 (absurd hpw (by omega))
set_option maxRecDepth 100000 in
theorem c_VS_write_nom {E : mn_En} {g : mn_H} {vs t s u y z rd op : Nat} (hL : Lay vs t s u y z rd op) (hV : mn_at g vs (.inr (10, [.ref t, .ref s, .ref u, .ref y, .ref z, .ref rd, .ref op]))) {e len m w : Nat} {pb ln sn bg : Nat → Nat} (hS : mn_at g s (.inr (6, [.ref (s + 1), .ref (s + 5), .int (nI e), .int (nI len)]))) (ha : mn_at g (s + 1) (.inr (2, [.ref (s + 1 + 3), .ref (s + 1 + 1), .ref (s + 1 + 2), .int (nI m), .int (nI w)]))) (hb : mn_at g (s + 1 + 3) (.inl (0, 1340, .inl (fun j => nI (pb j))))) (hl : mn_at g (s + 1 + 1) (.inl (0, 60, .inl (fun j => nI (ln j))))) (hs : mn_at g (s + 1 + 2) (.inl (0, 60, .inl (fun j => nI (sn j))))) (hg : mn_at g (s + 5) (.inl (0, 20, .inl (fun j => nI (bg j))))) {sz rp st : Nat} (hu : mn_at g u (.inr (4, [.int (nI sz), .int (nI rp), .int (nI st)]))) {s0 : Nat} {c : Nat → Nat} (hy : mn_at g y (.inr (9, [.ref (y + 1)]))) (hy1 : mn_at g (y + 1) (.inr (8, [.ref (y + 2), .int (nI s0)]))) (hy2 : mn_at g (y + 2) (.inl (0, 80, .inl (fun j => nI (c j))))) {pi ss : Nat → Nat} {sb sb0 : Nat → Nat → Nat} (hSl : SlP g z pi ss sb) (hag : Agr ss sb sb0) (hsz : 20 ≤ sz) (hsz2 : sz ≤ 80) (hrp : rp ≤ 3) (hlen : len ≤ 1260) (he : e ≤ 20) (hbg : ∀ k, bg k < 100000) (hpb : ∀ j, pb j < 256) (hln : ∀ j, ln j < 256) (hsn : ∀ j, sn j < 256) (hst : st < 256) (hc : ∀ j, c j < 256) (hf : pcN len (sz - 12) + rp ≤ 60) {pw : Nat} (hpw : pw ≤ 60) (hpw60 : pw = 60) (hno : 60 - cnt (fun k => ss k ≠ 0) 60 < min (cnt (fun n => ¬ hld ss sb0 sz ((fun n => vlN (fun _ => 0) pb (dvL ln len (sz - 12) (pcN len (sz - 12))) (dvS sn bg e (sz - 12) (pcN len (sz - 12))) (sz - 12) (pcN len (sz - 12)) n st rp sz) n)) ((pcN len (sz - 12)) + rp)) (pw + 1)) : mn_R E MVS_write 5 120 0 0 0 [(0, .ref vs), (1, .int (-1))] [] g (fun x g' => x = some (.int (-3)) ∧ mn_fr (fun q => q = s + 1 ∨ q = s + 1 + 1 ∨ q = s + 1 + 2 ∨ q = s + 1 + 3 ∨ q = y + 1 ∨ q = y + 2) g g' ∧ mn_at g' (s + 1) (.inr (2, [.ref (s + 1 + 3), .ref (s + 1 + 1), .ref (s + 1 + 2), .int (nI (pcN len (sz - 12))), .int (nI (sz - 12))])) ∧ mn_at g' (s + 1 + 3) (.inl (0, 1340, .inl (fun j => nI (pb j)))) ∧ mn_at g' (s + 1 + 1) (.inl (0, 60, .inl (fun j => nI ((dvL ln len (sz - 12) (pcN len (sz - 12))) j)))) ∧ mn_at g' (s + 1 + 2) (.inl (0, 60, .inl (fun j => nI ((dvS sn bg e (sz - 12) (pcN len (sz - 12))) j)))) ∧ ∃ (s2 : Nat) (bw : Nat → Nat), mn_at g' (y + 1) (.inr (8, [.ref (y + 2), .int (nI s2)])) ∧ mn_at g' (y + 2) (.inl (0, 80, .inl (fun j => nI (bw j)))) ∧ ∀ j, bw j < 256) := by
  have hlen2 := hlen
  have hlen : len < 1340 := by omega
  have hL0 := hL
  obtain ⟨l1, l2, l3, l4, l5, l6, l7⟩ := id hL
  have hpc : pcN len (sz - 12) < 100000 := by unfold pcN; have := Nat.div_le_self (len + (sz - 12) - 1) (sz - 12); rw [Nat.max_def]; split <;> omega
  have hdl : ∀ j, dvL ln len (sz - 12) (pcN len (sz - 12)) j < 256 := dvL_lt hln (by omega)
  have hds : ∀ j, dvS sn bg e (sz - 12) (pcN len (sz - 12)) j < 256 := dvS_lt hsn (by omega)
  have hm1 := pcN_pos len (sz - 12)
  have hmu : (pcN len (sz - 12)) * (sz - 12) ≤ 1340 := pcN_mul (by omega) (by omega) (by omega)
  have hz := hSl.1
  have hfil := cnt_le (fun k => ss k ≠ 0) 60
  obtain rfl : pw = 60 := hpw60
  refine mn_iload_n 1 dVS_write_0 rfl rfl ?_
  refine mn_iconst (v := -1) dVS_write_1 (by decide) ?_
  refine mn_icmp_lt 11 dVS_write_2 (by decide) (fun c1 => ?_) (fun c1 => ?_)
  · exact absurd c1 (by decide)
  · refine mn_iload_n 1 dVS_write_5 rfl rfl ?_
    refine mn_bipush (v := 60) dVS_write_6 (by decide) ?_
    refine mn_icmp_le 13 dVS_write_8 (by decide) (fun c2 => ?_) (fun c2 => ?_)
    · refine mn_aload_n 0 dVS_write_13 rfl rfl ?_
      refine mn_cV (d' := 2) (w' := 42) (As := []) (stk' := [.int (nI (pcN len (sz - 12) + rp))]) okVS_volumes lVS_91 dVS_write_14 hV rfl rfl rfl rfl (Nat.le_of_ble_eq_true rfl) (Nat.le_of_ble_eq_true rfl) (by decide) (c_VS_volumes hL hV hS ha hb hl hs hg hu hsz hsz2 hrp hlen hf) rfl ?_
      refine mn_bipush (v := (-3)) dVS_write_17 (by decide) ?_
      refine mn_icmp_ne 25 dVS_write_19 (by decide) (fun c3 => ?_) (fun c3 => ?_)
      · refine mn_iload_n 1 dVS_write_25 rfl rfl ?_
        refine mn_if_ge 34 dVS_write_26 (by decide) (fun c4 => ?_) (fun c4 => ?_)
        · exact absurd c4 (by decide)
        · refine mn_bipush (v := 60) dVS_write_29 (by decide) ?_
          refine mn_goto 35 dVS_write_31 (by decide) ?_
          refine mn_istore_n (ls' := [(0, .ref vs), (1, .int (-1)), (2, .int 60)]) dVS_write_35 rfl (by decide) rfl ?_
          refine mn_aload_n 0 dVS_write_36 rfl rfl ?_
          refine mn_get okVS 1 lVS_19 (by decide) hV rfl dVS_write_37 ?_
          refine mn_aload_n 0 dVS_write_40 rfl rfl ?_
          refine mn_get okVS 2 lVS_26 (by decide) hV rfl dVS_write_41 ?_
          refine mn_cV (d' := 0) (w' := 0) (As := []) (stk' := [.int (nI (sz - 12)), .ref s]) okRu_width lVS_80 dVS_write_44 hu rfl rfl rfl rfl (Nat.le_of_ble_eq_true rfl) (Nat.le_of_ble_eq_true rfl) (by decide) (c_R_width hu (by omega)) rfl ?_
          refine mn_callV (d' := 2) (w' := 45) (nc' := 0) (ns' := 0) (As := [.int (nI (sz - 12))]) (st := []) okSt_divide lVS_97 dVS_write_47 hS rfl rfl rfl rfl (Nat.le_of_ble_eq_true rfl) (Nat.le_of_ble_eq_true rfl) (by decide) (c_S_divide hS ha hb hl hs hg (u := sz - 12) he hbg (by omega) (by omega) hlen (by omega)) (fun v g5 hq => ?_)
          obtain ⟨rfl, fg5, ha_g5, hb_g5, hl_g5, hs_g5⟩ := hq
          have ha_g5 : mn_at g5 (s + 1) (.inr (2, [.ref (s + 1 + 3), .ref (s + 1 + 1), .ref (s + 1 + 2), .int (nI (pcN len (sz - 12))), .int (nI (sz - 12))])) := ha_g5
          have hb_g5 : mn_at g5 (s + 1 + 3) (.inl (0, 1340, .inl (fun j => nI (pb j)))) := hb_g5
          have hl_g5 : mn_at g5 (s + 1 + 1) (.inl (0, 60, .inl (fun j => nI ((dvL ln len (sz - 12) (pcN len (sz - 12))) j)))) := hl_g5
          have hs_g5 : mn_at g5 (s + 1 + 2) (.inl (0, 60, .inl (fun j => nI ((dvS sn bg e (sz - 12) (pcN len (sz - 12))) j)))) := hs_g5
          show mn_R E MVS_write 5 120 _ _ 50 [(0, .ref vs), (1, .int (-1)), (2, .int 60)] [] g5 _
          have hV_g5 := hV.fr fg5 (fun h => by have h9 : vs = s + 1 ∨ vs = s + 1 + 1 ∨ vs = s + 1 + 2 ∨ vs = s + 1 + 3 := h; omega)
          have hS_g5 := hS.fr fg5 (fun h => by have h9 : s = s + 1 ∨ s = s + 1 + 1 ∨ s = s + 1 + 2 ∨ s = s + 1 + 3 := h; omega)
          have hg_g5 := hg.fr fg5 (fun h => by have h9 : (s + 5) = s + 1 ∨ (s + 5) = s + 1 + 1 ∨ (s + 5) = s + 1 + 2 ∨ (s + 5) = s + 1 + 3 := h; omega)
          have hu_g5 := hu.fr fg5 (fun h => by have h9 : u = s + 1 ∨ u = s + 1 + 1 ∨ u = s + 1 + 2 ∨ u = s + 1 + 3 := h; omega)
          have hy_g5 := hy.fr fg5 (fun h => by have h9 : y = s + 1 ∨ y = s + 1 + 1 ∨ y = s + 1 + 2 ∨ y = s + 1 + 3 := h; omega)
          have hy1_g5 := hy1.fr fg5 (fun h => by have h9 : (y + 1) = s + 1 ∨ (y + 1) = s + 1 + 1 ∨ (y + 1) = s + 1 + 2 ∨ (y + 1) = s + 1 + 3 := h; omega)
          have hy2_g5 := hy2.fr fg5 (fun h => by have h9 : (y + 2) = s + 1 ∨ (y + 2) = s + 1 + 1 ∨ (y + 2) = s + 1 + 2 ∨ (y + 2) = s + 1 + 3 := h; omega)
          have hz_g5 := hz.fr fg5 (fun h => by have h9 : z = s + 1 ∨ z = s + 1 + 1 ∨ z = s + 1 + 2 ∨ z = s + 1 + 3 := h; omega)
          have hSl_g5 : SlP g5 z pi ss sb := hSl.fr fg5 (fun q q1 q2 h => by have h9 : q = s + 1 ∨ q = s + 1 + 1 ∨ q = s + 1 + 2 ∨ q = s + 1 + 3 := h; omega)
          refine mn_aload_n 0 dVS_write_50 rfl rfl ?_
          refine mn_get okVS 3 lVS_33 (by decide) hV_g5 rfl dVS_write_51 ?_
          refine mn_aload_n 0 dVS_write_54 rfl rfl ?_
          refine mn_get okVS 4 lVS_40 (by decide) hV_g5 rfl dVS_write_55 ?_
          refine mn_aload_n 0 dVS_write_58 rfl rfl ?_
          refine mn_get okVS 1 lVS_19 (by decide) hV_g5 rfl dVS_write_59 ?_
          refine mn_get okSt 0 lVS_100 (by decide) hS_g5 rfl dVS_write_62 ?_
          refine mn_aload_n 0 dVS_write_65 rfl rfl ?_
          refine mn_get okVS 2 lVS_26 (by decide) hV_g5 rfl dVS_write_66 ?_
          refine mn_callV (d' := 4) (w' := 94) (nc' := 0) (ns' := 0) (As := [.ref z, .ref (s + 1), .ref u]) (st := []) okWr_missingIn lVS_117 dVS_write_69 hy_g5 rfl rfl rfl rfl (Nat.le_of_ble_eq_true rfl) (Nat.le_of_ble_eq_true rfl) (by decide) (c_W_missing hy_g5 hy1_g5 hy2_g5 ha_g5 hb_g5 hl_g5 hs_g5 hu_g5 hSl_g5 hc (by omega) (by omega) (by omega) (by omega) (by omega) (by omega) hsz hsz2 rfl hm1 (by omega) hmu hrp hst hpb hdl hds hag) (fun v g6 hq => ?_)
          obtain ⟨rfl, fg6, s2, bw, hy1_g6, hy2_g6, hbw⟩ := hq
          show mn_R E MVS_write 5 120 _ _ 72 [(0, .ref vs), (1, .int (-1)), (2, .int 60)] [.int (nI (cnt (fun n => ¬ hld ss sb0 sz ((fun n => vlN (fun _ => 0) pb (dvL ln len (sz - 12) (pcN len (sz - 12))) (dvS sn bg e (sz - 12) (pcN len (sz - 12))) (sz - 12) (pcN len (sz - 12)) n st rp sz) n)) ((pcN len (sz - 12)) + rp)))] g6 _
          have hV_g6 := hV_g5.fr fg6 (fun h => by have h9 : vs = y + 1 ∨ vs = y + 2 := h; omega)
          have hS_g6 := hS_g5.fr fg6 (fun h => by have h9 : s = y + 1 ∨ s = y + 2 := h; omega)
          have ha_g6 := ha_g5.fr fg6 (fun h => by have h9 : (s + 1) = y + 1 ∨ (s + 1) = y + 2 := h; omega)
          have hb_g6 := hb_g5.fr fg6 (fun h => by have h9 : (s + 1 + 3) = y + 1 ∨ (s + 1 + 3) = y + 2 := h; omega)
          have hl_g6 := hl_g5.fr fg6 (fun h => by have h9 : (s + 1 + 1) = y + 1 ∨ (s + 1 + 1) = y + 2 := h; omega)
          have hs_g6 := hs_g5.fr fg6 (fun h => by have h9 : (s + 1 + 2) = y + 1 ∨ (s + 1 + 2) = y + 2 := h; omega)
          have hg_g6 := hg_g5.fr fg6 (fun h => by have h9 : (s + 5) = y + 1 ∨ (s + 5) = y + 2 := h; omega)
          have hu_g6 := hu_g5.fr fg6 (fun h => by have h9 : u = y + 1 ∨ u = y + 2 := h; omega)
          have hy_g6 := hy_g5.fr fg6 (fun h => by have h9 : y = y + 1 ∨ y = y + 2 := h; omega)
          have hz_g6 := hz_g5.fr fg6 (fun h => by have h9 : z = y + 1 ∨ z = y + 2 := h; omega)
          have hSl_g6 : SlP g6 z pi ss sb := hSl_g5.fr fg6 (fun q q1 q2 h => by have h9 : q = y + 1 ∨ q = y + 2 := h; omega)
          have hcle := cnt_le (fun n => ¬ hld ss sb0 sz ((fun n => vlN (fun _ => 0) pb (dvL ln len (sz - 12) (pcN len (sz - 12))) (dvS sn bg e (sz - 12) (pcN len (sz - 12))) (sz - 12) (pcN len (sz - 12)) n st rp sz) n)) ((pcN len (sz - 12)) + rp)
          refine mn_iload_n 2 dVS_write_72 rfl rfl ?_
          refine mn_iconst (v := 1) dVS_write_73 (by decide) ?_
          refine mn_iadd (z := 61) dVS_write_74 (by decide) ?_
          refine mn_min (z := nI (min (cnt (fun n => ¬ hld ss sb0 sz ((fun n => vlN (fun _ => 0) pb (dvL ln len (sz - 12) (pcN len (sz - 12))) (dvS sn bg e (sz - 12) (pcN len (sz - 12))) (sz - 12) (pcN len (sz - 12)) n st rp sz) n)) ((pcN len (sz - 12)) + rp)) 61)) (mn_minN (a := cnt (fun n => ¬ hld ss sb0 sz ((fun n => vlN (fun _ => 0) pb (dvL ln len (sz - 12) (pcN len (sz - 12))) (dvS sn bg e (sz - 12) (pcN len (sz - 12))) (sz - 12) (pcN len (sz - 12)) n st rp sz) n)) ((pcN len (sz - 12)) + rp)) (b := 61) (by omega) (by omega)) lVS_121 min_st math_ini min_code (Nat.le_of_ble_eq_true rfl) (by decide) (by decide) dVS_write_75 ?_
          refine mn_istore_n (ls' := [(0, .ref vs), (1, .int (-1)), (2, .int 60), (3, .int (nI (min (cnt (fun n => ¬ hld ss sb0 sz ((fun n => vlN (fun _ => 0) pb (dvL ln len (sz - 12) (pcN len (sz - 12))) (dvS sn bg e (sz - 12) (pcN len (sz - 12))) (sz - 12) (pcN len (sz - 12)) n st rp sz) n)) ((pcN len (sz - 12)) + rp)) 61)))]) dVS_write_78 rfl (by decide) rfl ?_
          refine mn_iload_n 3 dVS_write_79 rfl rfl ?_
          refine mn_bipush (v := 60) dVS_write_80 (by decide) ?_
          refine mn_aload_n 0 dVS_write_82 rfl rfl ?_
          refine mn_get okVS 4 lVS_40 (by decide) hV_g6 rfl dVS_write_83 ?_
          refine mn_cV (d' := 0) (w' := 0) (As := []) (stk' := [.int (nI (cnt (fun k => ss k ≠ 0) 60)), .int 60, .int (nI (min (cnt (fun n => ¬ hld ss sb0 sz ((fun n => vlN (fun _ => 0) pb (dvL ln len (sz - 12) (pcN len (sz - 12))) (dvS sn bg e (sz - 12) (pcN len (sz - 12))) (sz - 12) (pcN len (sz - 12)) n st rp sz) n)) ((pcN len (sz - 12)) + rp)) 61))]) okSl_filled lVS_126 dVS_write_86 hz_g6 rfl rfl rfl rfl (Nat.le_of_ble_eq_true rfl) (Nat.le_of_ble_eq_true rfl) (by decide) (c_Sl_filled hSl_g6) rfl ?_
          refine mn_isub (z := nI (60 - (cnt (fun k => ss k ≠ 0) 60))) dVS_write_89 (pk_sub (a := 60) (b := cnt (fun k => ss k ≠ 0) 60) (by omega)) ?_
          refine mn_icmp_le 96 dVS_write_90 (by decide) (fun c7 => ?_) (fun c7 => ?_)
          · have c7 := (nI_leI (a := (min (cnt (fun n => ¬ hld ss sb0 sz ((fun n => vlN (fun _ => 0) pb (dvL ln len (sz - 12) (pcN len (sz - 12))) (dvS sn bg e (sz - 12) (pcN len (sz - 12))) (sz - 12) (pcN len (sz - 12)) n st rp sz) n)) ((pcN len (sz - 12)) + rp)) 61)) (b := (60 - (cnt (fun k => ss k ≠ 0) 60))) (by omega) (by omega)).mp c7
            refine mn_aload_n 0 dVS_write_96 rfl rfl ?_
            refine mn_get okVS 3 lVS_33 (by decide) hV_g6 rfl dVS_write_97 ?_
            refine mn_aload_n 0 dVS_write_100 rfl rfl ?_
            refine mn_get okVS 4 lVS_40 (by decide) hV_g6 rfl dVS_write_101 ?_
            refine mn_aload_n 0 dVS_write_104 rfl rfl ?_
            refine mn_get okVS 1 lVS_19 (by decide) hV_g6 rfl dVS_write_105 ?_
            refine mn_get okSt 0 lVS_100 (by decide) hS_g6 rfl dVS_write_108 ?_
            refine mn_aload_n 0 dVS_write_111 rfl rfl ?_
            refine mn_get okVS 2 lVS_26 (by decide) hV_g6 rfl dVS_write_112 ?_
            refine mn_iload_n 2 dVS_write_115 rfl rfl ?_
            refine mn_callV (d' := 4) (w' := 94) (nc' := 0) (ns' := 0) (As := [.ref z, .ref (s + 1), .ref u, .int 60]) (st := []) okWr_fill lVS_129 dVS_write_116 hy_g6 rfl rfl rfl rfl (Nat.le_of_ble_eq_true rfl) (Nat.le_of_ble_eq_true rfl) (by decide) (c_W_fill (pw := 60) (by omega) hy_g6 hy1_g6 hy2_g6 ha_g6 hb_g6 hl_g6 hs_g6 hu_g6 hSl_g6 hbw (by omega) (by omega) (by omega) (by omega) (by omega) (by omega) hsz hsz2 rfl hm1 (by omega) hmu hrp hst hpb hdl hds hag) (fun v g8 hq => ?_)
            obtain ⟨rfl, fg8, hsl9, hyy9⟩ := hq
            show mn_R E MVS_write 5 120 _ _ 119 [(0, .ref vs), (1, .int (-1)), (2, .int 60), (3, .int (nI (min (cnt (fun n => ¬ hld ss sb0 sz ((fun n => vlN (fun _ => 0) pb (dvL ln len (sz - 12) (pcN len (sz - 12))) (dvS sn bg e (sz - 12) (pcN len (sz - 12))) (sz - 12) (pcN len (sz - 12)) n st rp sz) n)) ((pcN len (sz - 12)) + rp)) 61)))] [.int (nI ((wrK (fun n => vlN (fun _ => 0) pb (dvL ln len (sz - 12) (pcN len (sz - 12))) (dvS sn bg e (sz - 12) (pcN len (sz - 12))) (sz - 12) (pcN len (sz - 12)) n st rp sz) sz ((pcN len (sz - 12)) + rp) 60 ((pcN len (sz - 12)) + rp) (ss, sb0, 0)).2.2))] g8 _
            have ha_g8 := ha_g6.fr fg8 (fun h => by have h9 : (s + 1) = y + 1 ∨ (s + 1) = y + 2 ∨ (z + 2 ≤ (s + 1) ∧ (s + 1) < z + 122) := h; omega)
            have hb_g8 := hb_g6.fr fg8 (fun h => by have h9 : (s + 1 + 3) = y + 1 ∨ (s + 1 + 3) = y + 2 ∨ (z + 2 ≤ (s + 1 + 3) ∧ (s + 1 + 3) < z + 122) := h; omega)
            have hl_g8 := hl_g6.fr fg8 (fun h => by have h9 : (s + 1 + 1) = y + 1 ∨ (s + 1 + 1) = y + 2 ∨ (z + 2 ≤ (s + 1 + 1) ∧ (s + 1 + 1) < z + 122) := h; omega)
            have hs_g8 := hs_g6.fr fg8 (fun h => by have h9 : (s + 1 + 2) = y + 1 ∨ (s + 1 + 2) = y + 2 ∨ (z + 2 ≤ (s + 1 + 2) ∧ (s + 1 + 2) < z + 122) := h; omega)
            exact mn_iret rfl dVS_write_119 (absurd hno (by omega))
          · have c7 := mt (nI_leI (a := (min (cnt (fun n => ¬ hld ss sb0 sz ((fun n => vlN (fun _ => 0) pb (dvL ln len (sz - 12) (pcN len (sz - 12))) (dvS sn bg e (sz - 12) (pcN len (sz - 12))) (sz - 12) (pcN len (sz - 12)) n st rp sz) n)) ((pcN len (sz - 12)) + rp)) 61)) (b := (60 - (cnt (fun k => ss k ≠ 0) 60))) (by omega) (by omega)).mpr c7
            refine mn_bipush (v := (-3)) dVS_write_93 (by decide) ?_
            exact mn_iret rfl dVS_write_95 ⟨rfl, ((mn_fr.rf.tr (fg5.mo (fun q h => by have h9 : q = s + 1 ∨ q = s + 1 + 1 ∨ q = s + 1 + 2 ∨ q = s + 1 + 3 := h; show q = s + 1 ∨ q = s + 1 + 1 ∨ q = s + 1 + 2 ∨ q = s + 1 + 3 ∨ q = y + 1 ∨ q = y + 2; omega))).tr (fg6.mo (fun q h => by have h9 : q = y + 1 ∨ q = y + 2 := h; show q = s + 1 ∨ q = s + 1 + 1 ∨ q = s + 1 + 2 ∨ q = s + 1 + 3 ∨ q = y + 1 ∨ q = y + 2; omega))), ha_g6, hb_g6, hl_g6, hs_g6, s2, bw, hy1_g6, hy2_g6, hbw⟩
      · exact absurd c3 (nI_nm3 (by omega))
    · exact absurd c2 (by decide)
set_option maxRecDepth 100000 in
theorem c_VS_writem {E : mn_En} {g : mn_H} {vs t s u y z rd op : Nat} (hL : Lay vs t s u y z rd op) (hV : mn_at g vs (.inr (10, [.ref t, .ref s, .ref u, .ref y, .ref z, .ref rd, .ref op]))) {e len m w : Nat} {pb ln sn bg : Nat → Nat} (hS : mn_at g s (.inr (6, [.ref (s + 1), .ref (s + 5), .int (nI e), .int (nI len)]))) (ha : mn_at g (s + 1) (.inr (2, [.ref (s + 1 + 3), .ref (s + 1 + 1), .ref (s + 1 + 2), .int (nI m), .int (nI w)]))) (hb : mn_at g (s + 1 + 3) (.inl (0, 1340, .inl (fun j => nI (pb j))))) (hl : mn_at g (s + 1 + 1) (.inl (0, 60, .inl (fun j => nI (ln j))))) (hs : mn_at g (s + 1 + 2) (.inl (0, 60, .inl (fun j => nI (sn j))))) (hg : mn_at g (s + 5) (.inl (0, 20, .inl (fun j => nI (bg j))))) {sz rp st : Nat} (hu : mn_at g u (.inr (4, [.int (nI sz), .int (nI rp), .int (nI st)]))) {s0 : Nat} {c : Nat → Nat} (hy : mn_at g y (.inr (9, [.ref (y + 1)]))) (hy1 : mn_at g (y + 1) (.inr (8, [.ref (y + 2), .int (nI s0)]))) (hy2 : mn_at g (y + 2) (.inl (0, 80, .inl (fun j => nI (c j))))) {pi ss : Nat → Nat} {sb sb0 : Nat → Nat → Nat} (hSl : SlP g z pi ss sb) (hag : Agr ss sb sb0) (hsz : 20 ≤ sz) (hsz2 : sz ≤ 80) (hrp : rp ≤ 3) (hlen : len ≤ 1260) (he : e ≤ 20) (hbg : ∀ k, bg k < 100000) (hpb : ∀ j, pb j < 256) (hln : ∀ j, ln j < 256) (hsn : ∀ j, sn j < 256) (hst : st < 256) (hc : ∀ j, c j < 256) (hf : pcN len (sz - 12) + rp ≤ 60) {pw : Nat} (hpw : pw ≤ 60) (hpw60 : pw = 60) (hno : min (cnt (fun n => ¬ hld ss sb0 sz ((fun n => vlN (fun _ => 0) pb (dvL ln len (sz - 12) (pcN len (sz - 12))) (dvS sn bg e (sz - 12) (pcN len (sz - 12))) (sz - 12) (pcN len (sz - 12)) n st rp sz) n)) ((pcN len (sz - 12)) + rp)) (pw + 1) ≤ 60 - cnt (fun k => ss k ≠ 0) 60) : mn_R E MVS_write 5 120 0 0 0 [(0, .ref vs), (1, .int (-1))] [] g (fun x g' => x = some (.int (nI (wrK (fun n => vlN (fun _ => 0) pb (dvL ln len (sz - 12) (pcN len (sz - 12))) (dvS sn bg e (sz - 12) (pcN len (sz - 12))) (sz - 12) (pcN len (sz - 12)) n st rp sz) sz ((pcN len (sz - 12)) + rp) pw ((pcN len (sz - 12)) + rp) (ss, sb0, 0)).2.2)) ∧ mn_fr (fun q => q = s + 1 ∨ q = s + 1 + 1 ∨ q = s + 1 + 2 ∨ q = s + 1 + 3 ∨ q = y + 1 ∨ q = y + 2 ∨ (z + 2 ≤ q ∧ q < z + 122)) g g' ∧ mn_at g' (s + 1) (.inr (2, [.ref (s + 1 + 3), .ref (s + 1 + 1), .ref (s + 1 + 2), .int (nI (pcN len (sz - 12))), .int (nI (sz - 12))])) ∧ mn_at g' (s + 1 + 3) (.inl (0, 1340, .inl (fun j => nI (pb j)))) ∧ mn_at g' (s + 1 + 1) (.inl (0, 60, .inl (fun j => nI ((dvL ln len (sz - 12) (pcN len (sz - 12))) j)))) ∧ mn_at g' (s + 1 + 2) (.inl (0, 60, .inl (fun j => nI ((dvS sn bg e (sz - 12) (pcN len (sz - 12))) j)))) ∧ (∃ sb', SlP g' z pi (wrK (fun n => vlN (fun _ => 0) pb (dvL ln len (sz - 12) (pcN len (sz - 12))) (dvS sn bg e (sz - 12) (pcN len (sz - 12))) (sz - 12) (pcN len (sz - 12)) n st rp sz) sz ((pcN len (sz - 12)) + rp) pw ((pcN len (sz - 12)) + rp) (ss, sb0, 0)).1 sb' ∧ Agr (wrK (fun n => vlN (fun _ => 0) pb (dvL ln len (sz - 12) (pcN len (sz - 12))) (dvS sn bg e (sz - 12) (pcN len (sz - 12))) (sz - 12) (pcN len (sz - 12)) n st rp sz) sz ((pcN len (sz - 12)) + rp) pw ((pcN len (sz - 12)) + rp) (ss, sb0, 0)).1 sb' (wrK (fun n => vlN (fun _ => 0) pb (dvL ln len (sz - 12) (pcN len (sz - 12))) (dvS sn bg e (sz - 12) (pcN len (sz - 12))) (sz - 12) (pcN len (sz - 12)) n st rp sz) sz ((pcN len (sz - 12)) + rp) pw ((pcN len (sz - 12)) + rp) (ss, sb0, 0)).2.1) ∧ ∃ (s2 : Nat) (bw : Nat → Nat), mn_at g' (y + 1) (.inr (8, [.ref (y + 2), .int (nI s2)])) ∧ mn_at g' (y + 2) (.inl (0, 80, .inl (fun j => nI (bw j)))) ∧ ∀ j, bw j < 256) := by
  have hlen2 := hlen
  have hlen : len < 1340 := by omega
  have hL0 := hL
  obtain ⟨l1, l2, l3, l4, l5, l6, l7⟩ := id hL
  have hpc : pcN len (sz - 12) < 100000 := by unfold pcN; have := Nat.div_le_self (len + (sz - 12) - 1) (sz - 12); rw [Nat.max_def]; split <;> omega
  have hdl : ∀ j, dvL ln len (sz - 12) (pcN len (sz - 12)) j < 256 := dvL_lt hln (by omega)
  have hds : ∀ j, dvS sn bg e (sz - 12) (pcN len (sz - 12)) j < 256 := dvS_lt hsn (by omega)
  have hm1 := pcN_pos len (sz - 12)
  have hmu : (pcN len (sz - 12)) * (sz - 12) ≤ 1340 := pcN_mul (by omega) (by omega) (by omega)
  have hz := hSl.1
  have hfil := cnt_le (fun k => ss k ≠ 0) 60
  obtain rfl : pw = 60 := hpw60
  refine mn_iload_n 1 dVS_write_0 rfl rfl ?_
  refine mn_iconst (v := -1) dVS_write_1 (by decide) ?_
  refine mn_icmp_lt 11 dVS_write_2 (by decide) (fun c1 => ?_) (fun c1 => ?_)
  · exact absurd c1 (by decide)
  · refine mn_iload_n 1 dVS_write_5 rfl rfl ?_
    refine mn_bipush (v := 60) dVS_write_6 (by decide) ?_
    refine mn_icmp_le 13 dVS_write_8 (by decide) (fun c2 => ?_) (fun c2 => ?_)
    · refine mn_aload_n 0 dVS_write_13 rfl rfl ?_
      refine mn_cV (d' := 2) (w' := 42) (As := []) (stk' := [.int (nI (pcN len (sz - 12) + rp))]) okVS_volumes lVS_91 dVS_write_14 hV rfl rfl rfl rfl (Nat.le_of_ble_eq_true rfl) (Nat.le_of_ble_eq_true rfl) (by decide) (c_VS_volumes hL hV hS ha hb hl hs hg hu hsz hsz2 hrp hlen hf) rfl ?_
      refine mn_bipush (v := (-3)) dVS_write_17 (by decide) ?_
      refine mn_icmp_ne 25 dVS_write_19 (by decide) (fun c3 => ?_) (fun c3 => ?_)
      · refine mn_iload_n 1 dVS_write_25 rfl rfl ?_
        refine mn_if_ge 34 dVS_write_26 (by decide) (fun c4 => ?_) (fun c4 => ?_)
        · exact absurd c4 (by decide)
        · refine mn_bipush (v := 60) dVS_write_29 (by decide) ?_
          refine mn_goto 35 dVS_write_31 (by decide) ?_
          refine mn_istore_n (ls' := [(0, .ref vs), (1, .int (-1)), (2, .int 60)]) dVS_write_35 rfl (by decide) rfl ?_
          refine mn_aload_n 0 dVS_write_36 rfl rfl ?_
          refine mn_get okVS 1 lVS_19 (by decide) hV rfl dVS_write_37 ?_
          refine mn_aload_n 0 dVS_write_40 rfl rfl ?_
          refine mn_get okVS 2 lVS_26 (by decide) hV rfl dVS_write_41 ?_
          refine mn_cV (d' := 0) (w' := 0) (As := []) (stk' := [.int (nI (sz - 12)), .ref s]) okRu_width lVS_80 dVS_write_44 hu rfl rfl rfl rfl (Nat.le_of_ble_eq_true rfl) (Nat.le_of_ble_eq_true rfl) (by decide) (c_R_width hu (by omega)) rfl ?_
          refine mn_callV (d' := 2) (w' := 45) (nc' := 0) (ns' := 0) (As := [.int (nI (sz - 12))]) (st := []) okSt_divide lVS_97 dVS_write_47 hS rfl rfl rfl rfl (Nat.le_of_ble_eq_true rfl) (Nat.le_of_ble_eq_true rfl) (by decide) (c_S_divide hS ha hb hl hs hg (u := sz - 12) he hbg (by omega) (by omega) hlen (by omega)) (fun v g5 hq => ?_)
          obtain ⟨rfl, fg5, ha_g5, hb_g5, hl_g5, hs_g5⟩ := hq
          have ha_g5 : mn_at g5 (s + 1) (.inr (2, [.ref (s + 1 + 3), .ref (s + 1 + 1), .ref (s + 1 + 2), .int (nI (pcN len (sz - 12))), .int (nI (sz - 12))])) := ha_g5
          have hb_g5 : mn_at g5 (s + 1 + 3) (.inl (0, 1340, .inl (fun j => nI (pb j)))) := hb_g5
          have hl_g5 : mn_at g5 (s + 1 + 1) (.inl (0, 60, .inl (fun j => nI ((dvL ln len (sz - 12) (pcN len (sz - 12))) j)))) := hl_g5
          have hs_g5 : mn_at g5 (s + 1 + 2) (.inl (0, 60, .inl (fun j => nI ((dvS sn bg e (sz - 12) (pcN len (sz - 12))) j)))) := hs_g5
          show mn_R E MVS_write 5 120 _ _ 50 [(0, .ref vs), (1, .int (-1)), (2, .int 60)] [] g5 _
          have hV_g5 := hV.fr fg5 (fun h => by have h9 : vs = s + 1 ∨ vs = s + 1 + 1 ∨ vs = s + 1 + 2 ∨ vs = s + 1 + 3 := h; omega)
          have hS_g5 := hS.fr fg5 (fun h => by have h9 : s = s + 1 ∨ s = s + 1 + 1 ∨ s = s + 1 + 2 ∨ s = s + 1 + 3 := h; omega)
          have hg_g5 := hg.fr fg5 (fun h => by have h9 : (s + 5) = s + 1 ∨ (s + 5) = s + 1 + 1 ∨ (s + 5) = s + 1 + 2 ∨ (s + 5) = s + 1 + 3 := h; omega)
          have hu_g5 := hu.fr fg5 (fun h => by have h9 : u = s + 1 ∨ u = s + 1 + 1 ∨ u = s + 1 + 2 ∨ u = s + 1 + 3 := h; omega)
          have hy_g5 := hy.fr fg5 (fun h => by have h9 : y = s + 1 ∨ y = s + 1 + 1 ∨ y = s + 1 + 2 ∨ y = s + 1 + 3 := h; omega)
          have hy1_g5 := hy1.fr fg5 (fun h => by have h9 : (y + 1) = s + 1 ∨ (y + 1) = s + 1 + 1 ∨ (y + 1) = s + 1 + 2 ∨ (y + 1) = s + 1 + 3 := h; omega)
          have hy2_g5 := hy2.fr fg5 (fun h => by have h9 : (y + 2) = s + 1 ∨ (y + 2) = s + 1 + 1 ∨ (y + 2) = s + 1 + 2 ∨ (y + 2) = s + 1 + 3 := h; omega)
          have hz_g5 := hz.fr fg5 (fun h => by have h9 : z = s + 1 ∨ z = s + 1 + 1 ∨ z = s + 1 + 2 ∨ z = s + 1 + 3 := h; omega)
          have hSl_g5 : SlP g5 z pi ss sb := hSl.fr fg5 (fun q q1 q2 h => by have h9 : q = s + 1 ∨ q = s + 1 + 1 ∨ q = s + 1 + 2 ∨ q = s + 1 + 3 := h; omega)
          refine mn_aload_n 0 dVS_write_50 rfl rfl ?_
          refine mn_get okVS 3 lVS_33 (by decide) hV_g5 rfl dVS_write_51 ?_
          refine mn_aload_n 0 dVS_write_54 rfl rfl ?_
          refine mn_get okVS 4 lVS_40 (by decide) hV_g5 rfl dVS_write_55 ?_
          refine mn_aload_n 0 dVS_write_58 rfl rfl ?_
          refine mn_get okVS 1 lVS_19 (by decide) hV_g5 rfl dVS_write_59 ?_
          refine mn_get okSt 0 lVS_100 (by decide) hS_g5 rfl dVS_write_62 ?_
          refine mn_aload_n 0 dVS_write_65 rfl rfl ?_
          refine mn_get okVS 2 lVS_26 (by decide) hV_g5 rfl dVS_write_66 ?_
          refine mn_callV (d' := 4) (w' := 94) (nc' := 0) (ns' := 0) (As := [.ref z, .ref (s + 1), .ref u]) (st := []) okWr_missingIn lVS_117 dVS_write_69 hy_g5 rfl rfl rfl rfl (Nat.le_of_ble_eq_true rfl) (Nat.le_of_ble_eq_true rfl) (by decide) (c_W_missing hy_g5 hy1_g5 hy2_g5 ha_g5 hb_g5 hl_g5 hs_g5 hu_g5 hSl_g5 hc (by omega) (by omega) (by omega) (by omega) (by omega) (by omega) hsz hsz2 rfl hm1 (by omega) hmu hrp hst hpb hdl hds hag) (fun v g6 hq => ?_)
          obtain ⟨rfl, fg6, s2, bw, hy1_g6, hy2_g6, hbw⟩ := hq
          show mn_R E MVS_write 5 120 _ _ 72 [(0, .ref vs), (1, .int (-1)), (2, .int 60)] [.int (nI (cnt (fun n => ¬ hld ss sb0 sz ((fun n => vlN (fun _ => 0) pb (dvL ln len (sz - 12) (pcN len (sz - 12))) (dvS sn bg e (sz - 12) (pcN len (sz - 12))) (sz - 12) (pcN len (sz - 12)) n st rp sz) n)) ((pcN len (sz - 12)) + rp)))] g6 _
          have hV_g6 := hV_g5.fr fg6 (fun h => by have h9 : vs = y + 1 ∨ vs = y + 2 := h; omega)
          have hS_g6 := hS_g5.fr fg6 (fun h => by have h9 : s = y + 1 ∨ s = y + 2 := h; omega)
          have ha_g6 := ha_g5.fr fg6 (fun h => by have h9 : (s + 1) = y + 1 ∨ (s + 1) = y + 2 := h; omega)
          have hb_g6 := hb_g5.fr fg6 (fun h => by have h9 : (s + 1 + 3) = y + 1 ∨ (s + 1 + 3) = y + 2 := h; omega)
          have hl_g6 := hl_g5.fr fg6 (fun h => by have h9 : (s + 1 + 1) = y + 1 ∨ (s + 1 + 1) = y + 2 := h; omega)
          have hs_g6 := hs_g5.fr fg6 (fun h => by have h9 : (s + 1 + 2) = y + 1 ∨ (s + 1 + 2) = y + 2 := h; omega)
          have hg_g6 := hg_g5.fr fg6 (fun h => by have h9 : (s + 5) = y + 1 ∨ (s + 5) = y + 2 := h; omega)
          have hu_g6 := hu_g5.fr fg6 (fun h => by have h9 : u = y + 1 ∨ u = y + 2 := h; omega)
          have hy_g6 := hy_g5.fr fg6 (fun h => by have h9 : y = y + 1 ∨ y = y + 2 := h; omega)
          have hz_g6 := hz_g5.fr fg6 (fun h => by have h9 : z = y + 1 ∨ z = y + 2 := h; omega)
          have hSl_g6 : SlP g6 z pi ss sb := hSl_g5.fr fg6 (fun q q1 q2 h => by have h9 : q = y + 1 ∨ q = y + 2 := h; omega)
          have hcle := cnt_le (fun n => ¬ hld ss sb0 sz ((fun n => vlN (fun _ => 0) pb (dvL ln len (sz - 12) (pcN len (sz - 12))) (dvS sn bg e (sz - 12) (pcN len (sz - 12))) (sz - 12) (pcN len (sz - 12)) n st rp sz) n)) ((pcN len (sz - 12)) + rp)
          refine mn_iload_n 2 dVS_write_72 rfl rfl ?_
          refine mn_iconst (v := 1) dVS_write_73 (by decide) ?_
          refine mn_iadd (z := 61) dVS_write_74 (by decide) ?_
          refine mn_min (z := nI (min (cnt (fun n => ¬ hld ss sb0 sz ((fun n => vlN (fun _ => 0) pb (dvL ln len (sz - 12) (pcN len (sz - 12))) (dvS sn bg e (sz - 12) (pcN len (sz - 12))) (sz - 12) (pcN len (sz - 12)) n st rp sz) n)) ((pcN len (sz - 12)) + rp)) 61)) (mn_minN (a := cnt (fun n => ¬ hld ss sb0 sz ((fun n => vlN (fun _ => 0) pb (dvL ln len (sz - 12) (pcN len (sz - 12))) (dvS sn bg e (sz - 12) (pcN len (sz - 12))) (sz - 12) (pcN len (sz - 12)) n st rp sz) n)) ((pcN len (sz - 12)) + rp)) (b := 61) (by omega) (by omega)) lVS_121 min_st math_ini min_code (Nat.le_of_ble_eq_true rfl) (by decide) (by decide) dVS_write_75 ?_
          refine mn_istore_n (ls' := [(0, .ref vs), (1, .int (-1)), (2, .int 60), (3, .int (nI (min (cnt (fun n => ¬ hld ss sb0 sz ((fun n => vlN (fun _ => 0) pb (dvL ln len (sz - 12) (pcN len (sz - 12))) (dvS sn bg e (sz - 12) (pcN len (sz - 12))) (sz - 12) (pcN len (sz - 12)) n st rp sz) n)) ((pcN len (sz - 12)) + rp)) 61)))]) dVS_write_78 rfl (by decide) rfl ?_
          refine mn_iload_n 3 dVS_write_79 rfl rfl ?_
          refine mn_bipush (v := 60) dVS_write_80 (by decide) ?_
          refine mn_aload_n 0 dVS_write_82 rfl rfl ?_
          refine mn_get okVS 4 lVS_40 (by decide) hV_g6 rfl dVS_write_83 ?_
          refine mn_cV (d' := 0) (w' := 0) (As := []) (stk' := [.int (nI (cnt (fun k => ss k ≠ 0) 60)), .int 60, .int (nI (min (cnt (fun n => ¬ hld ss sb0 sz ((fun n => vlN (fun _ => 0) pb (dvL ln len (sz - 12) (pcN len (sz - 12))) (dvS sn bg e (sz - 12) (pcN len (sz - 12))) (sz - 12) (pcN len (sz - 12)) n st rp sz) n)) ((pcN len (sz - 12)) + rp)) 61))]) okSl_filled lVS_126 dVS_write_86 hz_g6 rfl rfl rfl rfl (Nat.le_of_ble_eq_true rfl) (Nat.le_of_ble_eq_true rfl) (by decide) (c_Sl_filled hSl_g6) rfl ?_
          refine mn_isub (z := nI (60 - (cnt (fun k => ss k ≠ 0) 60))) dVS_write_89 (pk_sub (a := 60) (b := cnt (fun k => ss k ≠ 0) 60) (by omega)) ?_
          refine mn_icmp_le 96 dVS_write_90 (by decide) (fun c7 => ?_) (fun c7 => ?_)
          · have c7 := (nI_leI (a := (min (cnt (fun n => ¬ hld ss sb0 sz ((fun n => vlN (fun _ => 0) pb (dvL ln len (sz - 12) (pcN len (sz - 12))) (dvS sn bg e (sz - 12) (pcN len (sz - 12))) (sz - 12) (pcN len (sz - 12)) n st rp sz) n)) ((pcN len (sz - 12)) + rp)) 61)) (b := (60 - (cnt (fun k => ss k ≠ 0) 60))) (by omega) (by omega)).mp c7
            refine mn_aload_n 0 dVS_write_96 rfl rfl ?_
            refine mn_get okVS 3 lVS_33 (by decide) hV_g6 rfl dVS_write_97 ?_
            refine mn_aload_n 0 dVS_write_100 rfl rfl ?_
            refine mn_get okVS 4 lVS_40 (by decide) hV_g6 rfl dVS_write_101 ?_
            refine mn_aload_n 0 dVS_write_104 rfl rfl ?_
            refine mn_get okVS 1 lVS_19 (by decide) hV_g6 rfl dVS_write_105 ?_
            refine mn_get okSt 0 lVS_100 (by decide) hS_g6 rfl dVS_write_108 ?_
            refine mn_aload_n 0 dVS_write_111 rfl rfl ?_
            refine mn_get okVS 2 lVS_26 (by decide) hV_g6 rfl dVS_write_112 ?_
            refine mn_iload_n 2 dVS_write_115 rfl rfl ?_
            refine mn_callV (d' := 4) (w' := 94) (nc' := 0) (ns' := 0) (As := [.ref z, .ref (s + 1), .ref u, .int 60]) (st := []) okWr_fill lVS_129 dVS_write_116 hy_g6 rfl rfl rfl rfl (Nat.le_of_ble_eq_true rfl) (Nat.le_of_ble_eq_true rfl) (by decide) (c_W_fill (pw := 60) (by omega) hy_g6 hy1_g6 hy2_g6 ha_g6 hb_g6 hl_g6 hs_g6 hu_g6 hSl_g6 hbw (by omega) (by omega) (by omega) (by omega) (by omega) (by omega) hsz hsz2 rfl hm1 (by omega) hmu hrp hst hpb hdl hds hag) (fun v g8 hq => ?_)
            obtain ⟨rfl, fg8, hsl9, hyy9⟩ := hq
            show mn_R E MVS_write 5 120 _ _ 119 [(0, .ref vs), (1, .int (-1)), (2, .int 60), (3, .int (nI (min (cnt (fun n => ¬ hld ss sb0 sz ((fun n => vlN (fun _ => 0) pb (dvL ln len (sz - 12) (pcN len (sz - 12))) (dvS sn bg e (sz - 12) (pcN len (sz - 12))) (sz - 12) (pcN len (sz - 12)) n st rp sz) n)) ((pcN len (sz - 12)) + rp)) 61)))] [.int (nI ((wrK (fun n => vlN (fun _ => 0) pb (dvL ln len (sz - 12) (pcN len (sz - 12))) (dvS sn bg e (sz - 12) (pcN len (sz - 12))) (sz - 12) (pcN len (sz - 12)) n st rp sz) sz ((pcN len (sz - 12)) + rp) 60 ((pcN len (sz - 12)) + rp) (ss, sb0, 0)).2.2))] g8 _
            have ha_g8 := ha_g6.fr fg8 (fun h => by have h9 : (s + 1) = y + 1 ∨ (s + 1) = y + 2 ∨ (z + 2 ≤ (s + 1) ∧ (s + 1) < z + 122) := h; omega)
            have hb_g8 := hb_g6.fr fg8 (fun h => by have h9 : (s + 1 + 3) = y + 1 ∨ (s + 1 + 3) = y + 2 ∨ (z + 2 ≤ (s + 1 + 3) ∧ (s + 1 + 3) < z + 122) := h; omega)
            have hl_g8 := hl_g6.fr fg8 (fun h => by have h9 : (s + 1 + 1) = y + 1 ∨ (s + 1 + 1) = y + 2 ∨ (z + 2 ≤ (s + 1 + 1) ∧ (s + 1 + 1) < z + 122) := h; omega)
            have hs_g8 := hs_g6.fr fg8 (fun h => by have h9 : (s + 1 + 2) = y + 1 ∨ (s + 1 + 2) = y + 2 ∨ (z + 2 ≤ (s + 1 + 2) ∧ (s + 1 + 2) < z + 122) := h; omega)
            exact mn_iret rfl dVS_write_119 ⟨rfl, (((mn_fr.rf.tr (fg5.mo (fun q h => by have h9 : q = s + 1 ∨ q = s + 1 + 1 ∨ q = s + 1 + 2 ∨ q = s + 1 + 3 := h; show q = s + 1 ∨ q = s + 1 + 1 ∨ q = s + 1 + 2 ∨ q = s + 1 + 3 ∨ q = y + 1 ∨ q = y + 2 ∨ (z + 2 ≤ q ∧ q < z + 122); omega))).tr (fg6.mo (fun q h => by have h9 : q = y + 1 ∨ q = y + 2 := h; show q = s + 1 ∨ q = s + 1 + 1 ∨ q = s + 1 + 2 ∨ q = s + 1 + 3 ∨ q = y + 1 ∨ q = y + 2 ∨ (z + 2 ≤ q ∧ q < z + 122); omega))).tr (fg8.mo (fun q h => by have h9 : q = y + 1 ∨ q = y + 2 ∨ (z + 2 ≤ q ∧ q < z + 122) := h; show q = s + 1 ∨ q = s + 1 + 1 ∨ q = s + 1 + 2 ∨ q = s + 1 + 3 ∨ q = y + 1 ∨ q = y + 2 ∨ (z + 2 ≤ q ∧ q < z + 122); omega))), ha_g8, hb_g8, hl_g8, hs_g8, hsl9, hyy9⟩
          · have c7 := mt (nI_leI (a := (min (cnt (fun n => ¬ hld ss sb0 sz ((fun n => vlN (fun _ => 0) pb (dvL ln len (sz - 12) (pcN len (sz - 12))) (dvS sn bg e (sz - 12) (pcN len (sz - 12))) (sz - 12) (pcN len (sz - 12)) n st rp sz) n)) ((pcN len (sz - 12)) + rp)) 61)) (b := (60 - (cnt (fun k => ss k ≠ 0) 60))) (by omega) (by omega)).mpr c7
            refine mn_bipush (v := (-3)) dVS_write_93 (by decide) ?_
            exact mn_iret rfl dVS_write_95 (absurd hno (by omega))
      · exact absurd c3 (nI_nm3 (by omega))
    · exact absurd c2 (by decide)
