theorem Agr_lay {ss : Nat → Nat} {sl vw : Nat → Nat} {sb0 : Nat → Nat → Nat} {sz s nn : Nat} {b : Nat → Nat} (h : Agr ss (sbS sl) sb0) (hss : ∀ k, ss k ≤ 80) (hsz : sz ≤ 80) (hb : ∀ j, j < sz → (if j < nn then vw j else 0) = b j) : Agr (va_up ss s sz) (sbS (lyL sl vw s nn sz)) (va_up sb0 s (fun j => if j < sz then b j else 0)) := by
  intro i j hi hj
  by_cases e : i = s
  · subst e
    rw [va_up_s] at hj ⊢
    show lyL sl vw i nn sz (80 * i + j) = if j < sz then b j else 0
    unfold lyL
    rw [if_pos (show 80 * i ≤ 80 * i + j ∧ 80 * i + j < 80 * i + sz by omega), show 80 * i + j - 80 * i = j by omega, if_pos hj]
    exact hb j hj
  · rw [va_up_n _ _ e] at hj ⊢
    have h8 := hss i
    show lyL sl vw s nn sz (80 * i + j) = _
    unfold lyL
    rw [if_neg (show ¬ (80 * s ≤ 80 * i + j ∧ 80 * i + j < 80 * s + sz) by omega)]
    exact h i j hi hj
theorem cnt_e1 {ss : Nat → Nat} {s sz : Nat} (hs : s < 60) (h0 : ss s = 0) (hz : sz ≠ 0) : cnt (fun k => ss k = 0) 60 = cnt (fun k => va_up ss s sz k = 0) 60 + 1 :=
  cnt_set (k := s) h0 (fun q => hz (by have q2 : va_up ss s sz s = 0 := q; rw [va_up_s] at q2; exact q2)) (fun i hi => by show _ ↔ va_up ss s sz i = 0; rw [va_up_n _ _ hi]) hs
set_option maxRecDepth 100000 in
theorem c_M_wr1 {E : mn_En} {g : mn_H} {mo tl e sz rp st m r wd ag td om : Nat} {ir : Int32} {sm bg sl ss : Nat → Nat} {sb0 : Nat → Nat → Nat} {x1 : Int32} {Q : Option Value → mn_H → Prop} (he : e ≤ 20) (hsz : 20 ≤ sz) (hsz2 : sz ≤ 80) (hlen : bg e ≤ 1260) (hbl : ∀ k, k < e → bg k < bg e) (hsm : ∀ j, sm j < 256) (hm60 : pcN (bg e) (sz - 12) ≤ 60) (hrp : rp ≤ 3) (hst : st < 256) (hss : ∀ k, ss k ≤ 80) (hslb : ∀ j, sl j < 256) (hag : Agr ss (sbS sl) sb0) (hf : pcN (bg e) (sz - 12) + rp ≤ 60) (KK : ∀ (g1 : mn_H) (vl : Nat → Nat), mn_fr (fun q => q = mo + 6) g g1 → (∀ j, vl j < 256) → mn_at g1 mo (.inr (11, [.int 0, .ref (mo + 1), .int (nI tl), .ref (mo + 2), .ref (mo + 3), .int (nI e), .int (nI sz), .int (nI rp), .int (nI st), .ref (mo + 4), .ref (mo + 5), .ref (mo + 6), .int ir, .int (nI m), .int (nI r), .int (nI wd), .int (nI ag), .ref (mo + 7), .ref (mo + 8), .ref (mo + 9), .ref (mo + 10), .int (nI td), .int (nI om), .ref (mo + 11), .ref (mo + 12), .ref (mo + 13), .ref (mo + 14), .ref (mo + 15), .ref (mo + 16)])) → mn_at g1 (mo + 2) (.inl (0, 1260, .inl (fun j => nI (sm j)))) → mn_at g1 (mo + 3) (.inl (0, 21, .inl (fun j => nI (bg j)))) → mn_at g1 (mo + 4) (.inl (0, 4800, .inl (fun j => nI (sl j)))) → mn_at g1 (mo + 5) (.inl (0, 60, .inl (fun j => nI (ss j)))) → mn_at g1 (mo + 6) (.inl (0, 80, .inl (fun j => nI (vl j)))) → mn_R E MMo_write 4 98 0 0 69 [(0, .ref mo), (1, .int x1), (2, .int (nI (pcN (bg e) (sz - 12) + rp))), (3, .int (nI (cnt (fun n0 => ¬ hld ss sb0 sz ((fun n0 => vlN (fun _ => 0) (zb sm (bg e)) (LnS (bg e) (sz - 12)) (SnS bg e (sz - 12)) (sz - 12) (pcN (bg e) (sz - 12)) n0 st rp sz) n0)) (pcN (bg e) (sz - 12) + rp))))] [] g1 Q) : ∀ (fu v : Nat) (g0 : mn_H) (vl : Nat → Nat), v ≤ (pcN (bg e) (sz - 12) + rp) → (pcN (bg e) (sz - 12) + rp) - v < fu → mn_fr (fun q => q = mo + 6) g g0 → (∀ j, vl j < 256) → mn_at g0 mo (.inr (11, [.int 0, .ref (mo + 1), .int (nI tl), .ref (mo + 2), .ref (mo + 3), .int (nI e), .int (nI sz), .int (nI rp), .int (nI st), .ref (mo + 4), .ref (mo + 5), .ref (mo + 6), .int ir, .int (nI m), .int (nI r), .int (nI wd), .int (nI ag), .ref (mo + 7), .ref (mo + 8), .ref (mo + 9), .ref (mo + 10), .int (nI td), .int (nI om), .ref (mo + 11), .ref (mo + 12), .ref (mo + 13), .ref (mo + 14), .ref (mo + 15), .ref (mo + 16)])) → mn_at g0 (mo + 2) (.inl (0, 1260, .inl (fun j => nI (sm j)))) → mn_at g0 (mo + 3) (.inl (0, 21, .inl (fun j => nI (bg j)))) → mn_at g0 (mo + 4) (.inl (0, 4800, .inl (fun j => nI (sl j)))) → mn_at g0 (mo + 5) (.inl (0, 60, .inl (fun j => nI (ss j)))) → mn_at g0 (mo + 6) (.inl (0, 80, .inl (fun j => nI (vl j)))) → mn_R E MMo_write 4 98 0 0 36 [(0, .ref mo), (1, .int x1), (2, .int (nI (pcN (bg e) (sz - 12) + rp))), (3, .int (nI (cnt (fun n0 => ¬ hld ss sb0 sz ((fun n0 => vlN (fun _ => 0) (zb sm (bg e)) (LnS (bg e) (sz - 12)) (SnS bg e (sz - 12)) (sz - 12) (pcN (bg e) (sz - 12)) n0 st rp sz) n0)) v))), (4, .int (nI v))] [] g0 (Q) := by
  intro fu
  induction fu with
  | zero => intro v g0 vl h1 h2; exact absurd h2 (by omega)
  | succ fu ih =>
    intro v g0 vl h1 h2 hfr hvl hM hSm hBg hSo hSs hVl
    have hcn := cnt_le (fun n0 => ¬ hld ss sb0 sz ((fun n0 => vlN (fun _ => 0) (zb sm (bg e)) (LnS (bg e) (sz - 12)) (SnS bg e (sz - 12)) (sz - 12) (pcN (bg e) (sz - 12)) n0 st rp sz) n0)) v
    refine mn_iload 4 dMo_write_36 rfl ?_
    refine mn_iload_n 2 dMo_write_38 rfl rfl ?_
    refine mn_icmp_ge 69 dMo_write_39 (by decide) (fun c1 => ?_) (fun c1 => ?_)
    · have c1 := (nI_leI (a := (pcN (bg e) (sz - 12) + rp)) (b := v) (by omega) (by omega)).mp c1
      refine mn_R.sub [0, 1, 2, 3] (ls' := [(0, .ref mo), (1, .int x1), (2, .int (nI (pcN (bg e) (sz - 12) + rp))), (3, .int (nI (cnt (fun n0 => ¬ hld ss sb0 sz ((fun n0 => vlN (fun _ => 0) (zb sm (bg e)) (LnS (bg e) (sz - 12)) (SnS bg e (sz - 12)) (sz - 12) (pcN (bg e) (sz - 12)) n0 st rp sz) n0)) v)))]) rfl ?_
      obtain rfl : v = (pcN (bg e) (sz - 12) + rp) := (by omega)
      exact KK g0 vl hfr hvl hM hSm hBg hSo hSs hVl
    · have c1 := mt (nI_leI (a := (pcN (bg e) (sz - 12) + rp)) (b := v) (by omega) (by omega)).mpr c1
      refine mn_aload_n 0 dMo_write_42 rfl rfl ?_
      refine mn_iload 4 dMo_write_43 rfl ?_
      refine mn_callV (d' := 3) (w' := 75) (nc' := 0) (ns' := 0) (As := [.int (nI v)]) (st := []) okMo_make lMo_116 dMo_write_45 hM rfl rfl rfl rfl (Nat.le_of_ble_eq_true rfl) (Nat.le_of_ble_eq_true rfl) (by decide) (c_M_make hM hSm hBg hVl he hsz hsz2 hlen hbl hsm hm60 hrp hst hvl (n := v) (by omega)) (fun v g2 hq => ?_)
      obtain ⟨rfl, fg2, vw, hVw_g2, hvw, hvwl⟩ := hq
      show mn_R E MMo_write 4 98 _ _ 48 [(0, .ref mo), (1, .int x1), (2, .int (nI (pcN (bg e) (sz - 12) + rp))), (3, .int (nI (cnt (fun n0 => ¬ hld ss sb0 sz ((fun n0 => vlN (fun _ => 0) (zb sm (bg e)) (LnS (bg e) (sz - 12)) (SnS bg e (sz - 12)) (sz - 12) (pcN (bg e) (sz - 12)) n0 st rp sz) n0)) v))), (4, .int (nI v))] [] g2 _
      have hM_g2 := hM.fr fg2 (fun h => by have h9 : mo = mo + 6 := h; omega)
      have hSm_g2 := hSm.fr fg2 (fun h => by have h9 : (mo + 2) = mo + 6 := h; omega)
      have hBg_g2 := hBg.fr fg2 (fun h => by have h9 : (mo + 3) = mo + 6 := h; omega)
      have hSo_g2 := hSo.fr fg2 (fun h => by have h9 : (mo + 4) = mo + 6 := h; omega)
      have hSs_g2 := hSs.fr fg2 (fun h => by have h9 : (mo + 5) = mo + 6 := h; omega)
      have hex : hld ss (sbS sl) sz vw ↔ hld ss sb0 sz ((fun n0 => vlN (fun _ => 0) (zb sm (bg e)) (LnS (bg e) (sz - 12)) (SnS bg e (sz - 12)) (sz - 12) (pcN (bg e) (sz - 12)) n0 st rp sz) v) := hld_ext hag hvw
      refine mn_aload_n 0 dMo_write_48 rfl rfl ?_
      refine mn_cV (d' := 0) (w' := 0) (As := []) (stk' := [.int (@ite _ (hld ss (sbS sl) sz vw) (Classical.propDecidable _) 1 0)]) okMo_isThere lMo_120 dMo_write_49 hM_g2 rfl rfl rfl rfl (Nat.le_of_ble_eq_true rfl) (Nat.le_of_ble_eq_true rfl) (by decide) (c_M_isThere hM_g2 hSo_g2 hSs_g2 hVw_g2 hsz2 hss hslb hvwl) rfl ?_
      refine mn_if_eq 59 dMo_write_52 (by decide) (fun c3 => ?_) (fun c3 => ?_)
      · refine mn_iload_n 3 dMo_write_59 rfl rfl ?_
        refine mn_iconst (v := 1) dMo_write_60 (by decide) ?_
        refine mn_iadd (z := nI (cnt (fun n0 => ¬ hld ss sb0 sz ((fun n0 => vlN (fun _ => 0) (zb sm (bg e)) (LnS (bg e) (sz - 12)) (SnS bg e (sz - 12)) (sz - 12) (pcN (bg e) (sz - 12)) n0 st rp sz) n0)) v + 1)) dMo_write_61 (nI_add (cnt (fun n0 => ¬ hld ss sb0 sz ((fun n0 => vlN (fun _ => 0) (zb sm (bg e)) (LnS (bg e) (sz - 12)) (SnS bg e (sz - 12)) (sz - 12) (pcN (bg e) (sz - 12)) n0 st rp sz) n0)) v) 1) ?_
        refine mn_istore_n (ls' := [(0, .ref mo), (1, .int x1), (2, .int (nI (pcN (bg e) (sz - 12) + rp))), (3, .int (nI (cnt (fun n0 => ¬ hld ss sb0 sz ((fun n0 => vlN (fun _ => 0) (zb sm (bg e)) (LnS (bg e) (sz - 12)) (SnS bg e (sz - 12)) (sz - 12) (pcN (bg e) (sz - 12)) n0 st rp sz) n0)) v + 1))), (4, .int (nI v))]) dMo_write_62 rfl (by decide) rfl ?_
        refine mn_iinc (v := nI (v + 1)) (ls' := [(0, .ref mo), (1, .int x1), (2, .int (nI (pcN (bg e) (sz - 12) + rp))), (3, .int (nI (cnt (fun n0 => ¬ hld ss sb0 sz ((fun n0 => vlN (fun _ => 0) (zb sm (bg e)) (LnS (bg e) (sz - 12)) (SnS bg e (sz - 12)) (sz - 12) (pcN (bg e) (sz - 12)) n0 st rp sz) n0)) v + 1))), (4, .int (nI (v + 1)))]) 4 dMo_write_63 rfl (nI_add v 1) (by decide) rfl ?_
        refine mn_goto 36 dMo_write_66 (by decide) ?_
        rw [← cnt_y (P := (fun n0 => ¬ hld ss sb0 sz ((fun n0 => vlN (fun _ => 0) (zb sm (bg e)) (LnS (bg e) (sz - 12)) (SnS bg e (sz - 12)) (sz - 12) (pcN (bg e) (sz - 12)) n0 st rp sz) n0))) (k := v) (fun q => ite10.mp c3 (hex.mpr q))]
        exact ih (v + 1) g2 vw (by omega) (by omega) (hfr.tr (fg2.mo (fun q h => by have h9 : q = mo + 6 := h; show q = mo + 6; omega))) hvwl hM_g2 hSm_g2 hBg_g2 hSo_g2 hSs_g2 hVw_g2
      · refine mn_iload_n 3 dMo_write_55 rfl rfl ?_
        refine mn_goto 62 dMo_write_56 (by decide) ?_
        refine mn_istore_n (ls' := [(0, .ref mo), (1, .int x1), (2, .int (nI (pcN (bg e) (sz - 12) + rp))), (3, .int (nI (cnt (fun n0 => ¬ hld ss sb0 sz ((fun n0 => vlN (fun _ => 0) (zb sm (bg e)) (LnS (bg e) (sz - 12)) (SnS bg e (sz - 12)) (sz - 12) (pcN (bg e) (sz - 12)) n0 st rp sz) n0)) v))), (4, .int (nI v))]) dMo_write_62 rfl (by decide) rfl ?_
        refine mn_iinc (v := nI (v + 1)) (ls' := [(0, .ref mo), (1, .int x1), (2, .int (nI (pcN (bg e) (sz - 12) + rp))), (3, .int (nI (cnt (fun n0 => ¬ hld ss sb0 sz ((fun n0 => vlN (fun _ => 0) (zb sm (bg e)) (LnS (bg e) (sz - 12)) (SnS bg e (sz - 12)) (sz - 12) (pcN (bg e) (sz - 12)) n0 st rp sz) n0)) v))), (4, .int (nI (v + 1)))]) 4 dMo_write_63 rfl (nI_add v 1) (by decide) rfl ?_
        refine mn_goto 36 dMo_write_66 (by decide) ?_
        rw [← cnt_n (P := (fun n0 => ¬ hld ss sb0 sz ((fun n0 => vlN (fun _ => 0) (zb sm (bg e)) (LnS (bg e) (sz - 12)) (SnS bg e (sz - 12)) (sz - 12) (pcN (bg e) (sz - 12)) n0 st rp sz) n0))) (k := v) (fun q => q (hex.mp (Classical.byContradiction fun q2 => c3 (ite10.mpr q2))))]
        exact ih (v + 1) g2 vw (by omega) (by omega) (hfr.tr (fg2.mo (fun q h => by have h9 : q = mo + 6 := h; show q = mo + 6; omega))) hvwl hM_g2 hSm_g2 hBg_g2 hSo_g2 hSs_g2 hVw_g2
set_option maxRecDepth 100000 in
theorem c_M_wr2 {E : mn_En} {g : mn_H} {mo tl e sz rp st m r wd ag td om : Nat} {ir : Int32} {sm bg : Nat → Nat} {x1 : Int32} {nd wh : Nat} (hwh : wh < 1000) (he : e ≤ 20) (hsz : 20 ≤ sz) (hsz2 : sz ≤ 80) (hlen : bg e ≤ 1260) (hbl : ∀ k, k < e → bg k < bg e) (hsm : ∀ j, sm j < 256) (hm60 : pcN (bg e) (sz - 12) ≤ 60) (hrp : rp ≤ 3) (hst : st < 256) (hf : pcN (bg e) (sz - 12) + rp ≤ 60) : ∀ (fu v : Nat) (g0 : mn_H) (ss sl vl : Nat → Nat) (sb0 : Nat → Nat → Nat) (p : Nat), v ≤ (pcN (bg e) (sz - 12) + rp) → (pcN (bg e) (sz - 12) + rp) - v < fu → mn_fr (fun q => q = mo + 4 ∨ q = mo + 5 ∨ q = mo + 6) g g0 → (∀ j, vl j < 256) → (∀ k, ss k ≤ 80) → (∀ j, sl j < 256) → Agr ss (sbS sl) sb0 → p ≤ wh → min (wh + 1) (p + rem (fun n0 => vlN (fun _ => 0) (zb sm (bg e)) (LnS (bg e) (sz - 12)) (SnS bg e (sz - 12)) (sz - 12) (pcN (bg e) (sz - 12)) n0 st rp sz) sz (pcN (bg e) (sz - 12) + rp) ss sb0 v) ≤ p + cnt (fun k => ss k = 0) 60 → mn_at g0 mo (.inr (11, [.int 0, .ref (mo + 1), .int (nI tl), .ref (mo + 2), .ref (mo + 3), .int (nI e), .int (nI sz), .int (nI rp), .int (nI st), .ref (mo + 4), .ref (mo + 5), .ref (mo + 6), .int ir, .int (nI m), .int (nI r), .int (nI wd), .int (nI ag), .ref (mo + 7), .ref (mo + 8), .ref (mo + 9), .ref (mo + 10), .int (nI td), .int (nI om), .ref (mo + 11), .ref (mo + 12), .ref (mo + 13), .ref (mo + 14), .ref (mo + 15), .ref (mo + 16)])) → mn_at g0 (mo + 2) (.inl (0, 1260, .inl (fun j => nI (sm j)))) → mn_at g0 (mo + 3) (.inl (0, 21, .inl (fun j => nI (bg j)))) → mn_at g0 (mo + 4) (.inl (0, 4800, .inl (fun j => nI (sl j)))) → mn_at g0 (mo + 5) (.inl (0, 60, .inl (fun j => nI (ss j)))) → mn_at g0 (mo + 6) (.inl (0, 80, .inl (fun j => nI (vl j)))) → mn_R E MMo_write 4 98 0 0 116 [(0, .ref mo), (1, .int x1), (2, .int (nI (pcN (bg e) (sz - 12) + rp))), (3, .int (nI nd)), (4, .int (nI wh)), (5, .int (nI p)), (6, .int (nI v))] [] g0 (fun x g' => x = some (.int (nI (wrK (fun n0 => vlN (fun _ => 0) (zb sm (bg e)) (LnS (bg e) (sz - 12)) (SnS bg e (sz - 12)) (sz - 12) (pcN (bg e) (sz - 12)) n0 st rp sz) sz (pcN (bg e) (sz - 12) + rp) wh ((pcN (bg e) (sz - 12) + rp) - v) (ss, sb0, p)).2.2)) ∧ mn_fr (fun q => q = mo + 4 ∨ q = mo + 5 ∨ q = mo + 6) g g' ∧ (∃ sl' : Nat → Nat, mn_at g' (mo + 4) (.inl (0, 4800, .inl (fun j => nI (sl' j)))) ∧ mn_at g' (mo + 5) (.inl (0, 60, .inl (fun j => nI ((wrK (fun n0 => vlN (fun _ => 0) (zb sm (bg e)) (LnS (bg e) (sz - 12)) (SnS bg e (sz - 12)) (sz - 12) (pcN (bg e) (sz - 12)) n0 st rp sz) sz (pcN (bg e) (sz - 12) + rp) wh ((pcN (bg e) (sz - 12) + rp) - v) (ss, sb0, p)).1 j)))) ∧ Agr (wrK (fun n0 => vlN (fun _ => 0) (zb sm (bg e)) (LnS (bg e) (sz - 12)) (SnS bg e (sz - 12)) (sz - 12) (pcN (bg e) (sz - 12)) n0 st rp sz) sz (pcN (bg e) (sz - 12) + rp) wh ((pcN (bg e) (sz - 12) + rp) - v) (ss, sb0, p)).1 (sbS sl') (wrK (fun n0 => vlN (fun _ => 0) (zb sm (bg e)) (LnS (bg e) (sz - 12)) (SnS bg e (sz - 12)) (sz - 12) (pcN (bg e) (sz - 12)) n0 st rp sz) sz (pcN (bg e) (sz - 12) + rp) wh ((pcN (bg e) (sz - 12) + rp) - v) (ss, sb0, p)).2.1 ∧ ∀ j, sl' j < 256) ∧ ∃ vw : Nat → Nat, mn_at g' (mo + 6) (.inl (0, 80, .inl (fun j => nI (vw j)))) ∧ ∀ j, vw j < 256) := by
  intro fu
  induction fu with
  | zero => intro v g0 ss sl vl sb0 p h1 h2; exact absurd h2 (by omega)
  | succ fu ih =>
    intro v g0 ss sl vl sb0 p h1 h2 hfr hvl hss hslb hag hpw hem hM hSm hBg hSo hSs hVl
    refine mn_iload 6 dMo_write_116 rfl ?_
    refine mn_iload_n 2 dMo_write_118 rfl rfl ?_
    refine mn_icmp_ge 172 dMo_write_119 (by decide) (fun c1 => ?_) (fun c1 => ?_)
    · have c1 := (nI_leI (a := (pcN (bg e) (sz - 12) + rp)) (b := v) (by omega) (by omega)).mp c1
      refine mn_iload 5 dMo_write_172 rfl ?_
      exact mn_iret rfl dMo_write_174 (by rw [show (pcN (bg e) (sz - 12) + rp) - v = 0 by omega]; exact ⟨rfl, hfr, ⟨sl, hSo, hSs, hag, hslb⟩, vl, hVl, hvl⟩)
    · have c1 := mt (nI_leI (a := (pcN (bg e) (sz - 12) + rp)) (b := v) (by omega) (by omega)).mpr c1
      refine mn_aload_n 0 dMo_write_122 rfl rfl ?_
      refine mn_iload 6 dMo_write_123 rfl ?_
      refine mn_callV (d' := 3) (w' := 75) (nc' := 0) (ns' := 0) (As := [.int (nI v)]) (st := []) okMo_make lMo_116 dMo_write_125 hM rfl rfl rfl rfl (Nat.le_of_ble_eq_true rfl) (Nat.le_of_ble_eq_true rfl) (by decide) (c_M_make hM hSm hBg hVl he hsz hsz2 hlen hbl hsm hm60 hrp hst hvl (n := v) (by omega)) (fun v g2 hq => ?_)
      obtain ⟨rfl, fg2, vw, hVw_g2, hvw, hvwl⟩ := hq
      show mn_R E MMo_write 4 98 _ _ 128 [(0, .ref mo), (1, .int x1), (2, .int (nI (pcN (bg e) (sz - 12) + rp))), (3, .int (nI nd)), (4, .int (nI wh)), (5, .int (nI p)), (6, .int (nI v))] [] g2 _
      have hM_g2 := hM.fr fg2 (fun h => by have h9 : mo = mo + 6 := h; omega)
      have hSm_g2 := hSm.fr fg2 (fun h => by have h9 : (mo + 2) = mo + 6 := h; omega)
      have hBg_g2 := hBg.fr fg2 (fun h => by have h9 : (mo + 3) = mo + 6 := h; omega)
      have hSo_g2 := hSo.fr fg2 (fun h => by have h9 : (mo + 4) = mo + 6 := h; omega)
      have hSs_g2 := hSs.fr fg2 (fun h => by have h9 : (mo + 5) = mo + 6 := h; omega)
      have hex : hld ss (sbS sl) sz vw ↔ hld ss sb0 sz ((fun n0 => vlN (fun _ => 0) (zb sm (bg e)) (LnS (bg e) (sz - 12)) (SnS bg e (sz - 12)) (sz - 12) (pcN (bg e) (sz - 12)) n0 st rp sz) v) := hld_ext hag hvw
      refine mn_aload_n 0 dMo_write_128 rfl rfl ?_
      refine mn_cV (d' := 0) (w' := 0) (As := []) (stk' := [.int (@ite _ (hld ss (sbS sl) sz vw) (Classical.propDecidable _) 1 0)]) okMo_isThere lMo_120 dMo_write_129 hM_g2 rfl rfl rfl rfl (Nat.le_of_ble_eq_true rfl) (Nat.le_of_ble_eq_true rfl) (by decide) (c_M_isThere hM_g2 hSo_g2 hSs_g2 hVw_g2 hsz2 hss hslb hvwl) rfl ?_
      refine mn_if_ne 166 dMo_write_132 (by decide) (fun c3 => ?_) (fun c3 => ?_)
      · refine mn_iinc (v := nI (v + 1)) (ls' := [(0, .ref mo), (1, .int x1), (2, .int (nI (pcN (bg e) (sz - 12) + rp))), (3, .int (nI nd)), (4, .int (nI wh)), (5, .int (nI p)), (6, .int (nI (v + 1)))]) 6 dMo_write_166 rfl (nI_add v 1) (by decide) rfl ?_
        refine mn_goto 116 dMo_write_169 (by decide) ?_
        have hhl : hld ss sb0 sz ((fun n0 => vlN (fun _ => 0) (zb sm (bg e)) (LnS (bg e) (sz - 12)) (SnS bg e (sz - 12)) (sz - 12) (pcN (bg e) (sz - 12)) n0 st rp sz) v) := hex.mp (Classical.byContradiction fun q2 => c3 (ite10.mpr q2))
        have hrn := rem_n (V := (fun n0 => vlN (fun _ => 0) (zb sm (bg e)) (LnS (bg e) (sz - 12)) (SnS bg e (sz - 12)) (sz - 12) (pcN (bg e) (sz - 12)) n0 st rp sz)) (sz := sz) (N := (pcN (bg e) (sz - 12) + rp)) (ss := ss) (sb := sb0) hhl
        rw [wrK_h (V := (fun n0 => vlN (fun _ => 0) (zb sm (bg e)) (LnS (bg e) (sz - 12)) (SnS bg e (sz - 12)) (sz - 12) (pcN (bg e) (sz - 12)) n0 st rp sz)) (x := (ss, sb0, p)) (by omega) hhl]
        exact ih (v + 1) g2 ss sl vw sb0 p (by omega) (by omega) (hfr.tr (fg2.mo (fun q h => by have h9 : q = mo + 6 := h; show q = mo + 4 ∨ q = mo + 5 ∨ q = mo + 6; omega))) hvwl hss hslb hag hpw (by rw [← hrn]; exact hem) hM_g2 hSm_g2 hBg_g2 hSo_g2 hSs_g2 hVw_g2
      · have hnh : ¬ hld ss sb0 sz ((fun n0 => vlN (fun _ => 0) (zb sm (bg e)) (LnS (bg e) (sz - 12)) (SnS bg e (sz - 12)) (sz - 12) (pcN (bg e) (sz - 12)) n0 st rp sz) v) := fun q => ite10.mp c3 (hex.mpr q)
        have hry := rem_y (V := (fun n0 => vlN (fun _ => 0) (zb sm (bg e)) (LnS (bg e) (sz - 12)) (SnS bg e (sz - 12)) (sz - 12) (pcN (bg e) (sz - 12)) n0 st rp sz)) (sz := sz) (N := (pcN (bg e) (sz - 12) + rp)) (ss := ss) (sb := sb0) (n := v) (by omega) hnh
        have hpos : 0 < cnt (fun k => ss k = 0) 60 := by rw [Nat.min_def] at hem; split at hem <;> omega
        obtain ⟨kx, kx1, kx2⟩ := cnt_pos hpos
        obtain ⟨s, hfs⟩ := fst_ex (P := fun k => ss k = 0) kx1 kx2
        obtain ⟨-, hs1, hs2, hs3⟩ := fst_some (Nat.le_refl 60) hfs
        refine mn_iload 5 dMo_write_135 rfl ?_
        refine mn_iload 4 dMo_write_137 rfl ?_
        refine mn_icmp_ne 155 dMo_write_139 (by decide) (fun c4 => ?_) (fun c4 => ?_)
        · have c4 := mt (nI_eq (a := p) (b := wh) (by omega) (by omega)).mpr c4
          refine mn_aload_n 0 dMo_write_155 rfl rfl ?_
          refine mn_aload_n 0 dMo_write_156 rfl rfl ?_
          refine mn_get okMo 6 lMo_23 (by decide) hM_g2 rfl dMo_write_157 ?_
          refine mn_callV (d' := 0) (w' := 0) (nc' := 0) (ns' := 0) (As := [.int (nI sz)]) (st := []) okMo_lay lMo_127 dMo_write_160 hM_g2 rfl rfl rfl rfl (Nat.le_of_ble_eq_true rfl) (Nat.le_of_ble_eq_true rfl) (by decide) (c_M_lay hM_g2 hSo_g2 hSs_g2 hVw_g2 (nn := sz) hs1 hsz2 (by omega) hss hs2 (fun i hi => hs3 i (by omega) hi)) (fun v9 g5 hq => ?_)
          obtain ⟨rfl, fg5, hSo_g5, hSs_g5⟩ := hq
          show mn_R E MMo_write 4 98 _ _ 163 [(0, .ref mo), (1, .int x1), (2, .int (nI (pcN (bg e) (sz - 12) + rp))), (3, .int (nI nd)), (4, .int (nI wh)), (5, .int (nI p)), (6, .int (nI v))] [] g5 _
          have hM_g5 := hM_g2.fr fg5 (fun h => by have h9 : mo = mo + 4 ∨ mo = mo + 5 := h; omega)
          have hSm_g5 := hSm_g2.fr fg5 (fun h => by have h9 : (mo + 2) = mo + 4 ∨ (mo + 2) = mo + 5 := h; omega)
          have hBg_g5 := hBg_g2.fr fg5 (fun h => by have h9 : (mo + 3) = mo + 4 ∨ (mo + 3) = mo + 5 := h; omega)
          have hVw_g5 := hVw_g2.fr fg5 (fun h => by have h9 : (mo + 6) = mo + 4 ∨ (mo + 6) = mo + 5 := h; omega)
          refine mn_iinc (v := nI (p + 1)) (ls' := [(0, .ref mo), (1, .int x1), (2, .int (nI (pcN (bg e) (sz - 12) + rp))), (3, .int (nI nd)), (4, .int (nI wh)), (5, .int (nI (p + 1))), (6, .int (nI v))]) 5 dMo_write_163 rfl (nI_add p 1) (by decide) rfl ?_
          refine mn_iinc (v := nI (v + 1)) (ls' := [(0, .ref mo), (1, .int x1), (2, .int (nI (pcN (bg e) (sz - 12) + rp))), (3, .int (nI nd)), (4, .int (nI wh)), (5, .int (nI (p + 1))), (6, .int (nI (v + 1)))]) 6 dMo_write_166 rfl (nI_add v 1) (by decide) rfl ?_
          refine mn_goto 116 dMo_write_169 (by decide) ?_
          rw [wrK_w (V := (fun n0 => vlN (fun _ => 0) (zb sm (bg e)) (LnS (bg e) (sz - 12)) (SnS bg e (sz - 12)) (sz - 12) (pcN (bg e) (sz - 12)) n0 st rp sz)) (x := (ss, sb0, p)) (by omega) hnh c4, putA_some hfs]
          have hrp9 := rem_put (V := (fun n0 => vlN (fun _ => 0) (zb sm (bg e)) (LnS (bg e) (sz - 12)) (SnS bg e (sz - 12)) (sz - 12) (pcN (bg e) (sz - 12)) n0 st rp sz)) (sz := sz) (N := (pcN (bg e) (sz - 12) + rp)) (ss := ss) (sb := sb0) (n := v) hs2 (by omega) (fun v => vl_3 _ _ _ _ _ _ _ _ _ _)
          have hce := cnt_e1 (sz := sz) hs1 hs2 (by omega)
          exact ih (v + 1) g5 (va_up ss s sz) (lyL sl vw s sz sz) vw (va_up sb0 s (fun j => if j < sz then (fun n0 => vlN (fun _ => 0) (zb sm (bg e)) (LnS (bg e) (sz - 12)) (SnS bg e (sz - 12)) (sz - 12) (pcN (bg e) (sz - 12)) n0 st rp sz) v j else 0)) (p + 1) (by omega) (by omega) ((hfr.tr (fg2.mo (fun q h => by have h9 : q = mo + 6 := h; show q = mo + 4 ∨ q = mo + 5 ∨ q = mo + 6; omega))).tr (fg5.mo (fun q h => by have h9 : q = mo + 4 ∨ q = mo + 5 := h; show q = mo + 4 ∨ q = mo + 5 ∨ q = mo + 6; omega))) hvwl (fun k => by unfold va_up; split; exact hsz2; exact hss k) (lyL_lt hslb hvwl _ _ _) (Agr_lay hag hss hsz2 (fun j hj => by rw [if_pos hj]; exact hvw j hj)) (by omega) (by show min (wh + 1) (p + 1 + rem (fun n0 => vlN (fun _ => 0) (zb sm (bg e)) (LnS (bg e) (sz - 12)) (SnS bg e (sz - 12)) (sz - 12) (pcN (bg e) (sz - 12)) n0 st rp sz) sz (pcN (bg e) (sz - 12) + rp) (va_up ss s sz) (va_up sb0 s (fun j => if j < sz then (fun n0 => vlN (fun _ => 0) (zb sm (bg e)) (LnS (bg e) (sz - 12)) (SnS bg e (sz - 12)) (sz - 12) (pcN (bg e) (sz - 12)) n0 st rp sz) v j else 0)) (v + 1)) ≤ p + 1 + cnt (fun k => va_up ss s sz k = 0) 60; rw [hrp9]; rw [hry, hce] at hem; rw [show p + (rem (fun n0 => vlN (fun _ => 0) (zb sm (bg e)) (LnS (bg e) (sz - 12)) (SnS bg e (sz - 12)) (sz - 12) (pcN (bg e) (sz - 12)) n0 st rp sz) sz (pcN (bg e) (sz - 12) + rp) ss sb0 (v + 1) + 1) = p + 1 + rem (fun n0 => vlN (fun _ => 0) (zb sm (bg e)) (LnS (bg e) (sz - 12)) (SnS bg e (sz - 12)) (sz - 12) (pcN (bg e) (sz - 12)) n0 st rp sz) sz (pcN (bg e) (sz - 12) + rp) ss sb0 (v + 1) by omega] at hem; omega) hM_g5 hSm_g5 hBg_g5 hSo_g5 hSs_g5 hVw_g5
        · have c4 := (nI_eq (a := p) (b := wh) (by omega) (by omega)).mp c4
          refine mn_aload_n 0 dMo_write_142 rfl rfl ?_
          refine mn_aload_n 0 dMo_write_143 rfl rfl ?_
          refine mn_get okMo 6 lMo_23 (by decide) hM_g2 rfl dMo_write_144 ?_
          refine mn_iconst (v := 2) dMo_write_147 (by decide) ?_
          refine mn_idiv (z := nI (sz / 2)) dMo_write_148 (nI_ne0 (n := 2) (by omega) (by omega)) (pk_div (a := sz) (d := 2) (by omega) (by omega) (by omega)) ?_
          refine mn_callV (d' := 0) (w' := 0) (nc' := 0) (ns' := 0) (As := [.int (nI (sz / 2))]) (st := []) okMo_lay lMo_127 dMo_write_149 hM_g2 rfl rfl rfl rfl (Nat.le_of_ble_eq_true rfl) (Nat.le_of_ble_eq_true rfl) (by decide) (c_M_lay hM_g2 hSo_g2 hSs_g2 hVw_g2 (nn := sz / 2) hs1 hsz2 (by omega) hss hs2 (fun i hi => hs3 i (by omega) hi)) (fun v9 g6 hq => ?_)
          obtain ⟨rfl, fg6, hSo_g6, hSs_g6⟩ := hq
          show mn_R E MMo_write 4 98 _ _ 152 [(0, .ref mo), (1, .int x1), (2, .int (nI (pcN (bg e) (sz - 12) + rp))), (3, .int (nI nd)), (4, .int (nI wh)), (5, .int (nI p)), (6, .int (nI v))] [] g6 _
          have hM_g6 := hM_g2.fr fg6 (fun h => by have h9 : mo = mo + 4 ∨ mo = mo + 5 := h; omega)
          have hSm_g6 := hSm_g2.fr fg6 (fun h => by have h9 : (mo + 2) = mo + 4 ∨ (mo + 2) = mo + 5 := h; omega)
          have hBg_g6 := hBg_g2.fr fg6 (fun h => by have h9 : (mo + 3) = mo + 4 ∨ (mo + 3) = mo + 5 := h; omega)
          have hVw_g6 := hVw_g2.fr fg6 (fun h => by have h9 : (mo + 6) = mo + 4 ∨ (mo + 6) = mo + 5 := h; omega)
          refine mn_iload 5 dMo_write_152 rfl ?_
          exact mn_iret rfl dMo_write_154 (by rw [wrK_c (V := (fun n0 => vlN (fun _ => 0) (zb sm (bg e)) (LnS (bg e) (sz - 12)) (SnS bg e (sz - 12)) (sz - 12) (pcN (bg e) (sz - 12)) n0 st rp sz)) (x := (ss, sb0, p)) (by omega) hnh c4, putA_some hfs]; exact ⟨rfl, ((hfr.tr (fg2.mo (fun q h => by have h9 : q = mo + 6 := h; show q = mo + 4 ∨ q = mo + 5 ∨ q = mo + 6; omega))).tr (fg6.mo (fun q h => by have h9 : q = mo + 4 ∨ q = mo + 5 := h; show q = mo + 4 ∨ q = mo + 5 ∨ q = mo + 6; omega))), ⟨_, hSo_g6, hSs_g6, Agr_lay hag hss hsz2 (fun j hj => by show (if j < sz / 2 then vw j else 0) = (if sz / 2 ≤ j ∧ j < sz then 0 else (fun n0 => vlN (fun _ => 0) (zb sm (bg e)) (LnS (bg e) (sz - 12)) (SnS bg e (sz - 12)) (sz - 12) (pcN (bg e) (sz - 12)) n0 st rp sz) v j); by_cases q : j < sz / 2; rw [if_pos q, if_neg (by omega)]; exact hvw j hj; rw [if_neg q, if_pos (by omega)]), lyL_lt hslb hvwl _ _ _⟩, vw, hVw_g6, hvwl⟩)
set_option maxRecDepth 100000 in
theorem c_M_write_bad {E : mn_En} {g : mn_H} {mo tl e sz rp st m r wd ag td om : Nat} {ir : Int32} (hM : mn_at g mo (.inr (11, [.int 0, .ref (mo + 1), .int (nI tl), .ref (mo + 2), .ref (mo + 3), .int (nI e), .int (nI sz), .int (nI rp), .int (nI st), .ref (mo + 4), .ref (mo + 5), .ref (mo + 6), .int ir, .int (nI m), .int (nI r), .int (nI wd), .int (nI ag), .ref (mo + 7), .ref (mo + 8), .ref (mo + 9), .ref (mo + 10), .int (nI td), .int (nI om), .ref (mo + 11), .ref (mo + 12), .ref (mo + 13), .ref (mo + 14), .ref (mo + 15), .ref (mo + 16)]))) {x : Int32} (hx : x < -1 ∨ 60 < x) : mn_R E MMo_write 4 98 0 0 0 [(0, .ref mo), (1, .int x)] [] g (fun x g' => x = some (.int (-1)) ∧ mn_fr (fun q => q = mo) g g' ∧ mn_at g' mo (.inr (11, [.int 0, .ref (mo + 1), .int (nI tl), .ref (mo + 2), .ref (mo + 3), .int (nI e), .int (nI sz), .int (nI rp), .int (nI st), .ref (mo + 4), .ref (mo + 5), .ref (mo + 6), .int ir, .int (nI m), .int (nI r), .int (nI wd), .int (nI ag), .ref (mo + 7), .ref (mo + 8), .ref (mo + 9), .ref (mo + 10), .int (nI td), .int (nI om), .ref (mo + 11), .ref (mo + 12), .ref (mo + 13), .ref (mo + 14), .ref (mo + 15), .ref (mo + 16)]))) := by
  refine mn_iload_n 1 dMo_write_0 rfl rfl ?_
  refine mn_iconst (v := -1) dMo_write_1 (by decide) ?_
  refine mn_bipush (v := 60) dMo_write_2 (by decide) ?_
  refine mn_cS (d' := 0) (w' := 0) (As := [.int x, .int (-1), .int 60]) (stk' := [.int 0]) okMo_in lMo_68 dMo_write_4 rfl rfl (Nat.le_of_ble_eq_true rfl) (Nat.le_of_ble_eq_true rfl) (by decide) (c_M_in_n hx) rfl ?_
  refine mn_if_ne 17 dMo_write_7 (by decide) (fun c1 => ?_) (fun c1 => ?_)
  · exact absurd c1 (by decide)
  · refine mn_aload_n 0 dMo_write_10 rfl rfl ?_
    refine mn_iconst (v := 0) dMo_write_11 (by decide) ?_
    refine mn_putf okMo 0 lMo_1 (by decide) rfl hM rfl rfl (Nat.le_of_ble_eq_true rfl) dMo_write_12 ?_
    obtain ⟨g2, eg2⟩ : ∃ gg_, gg_ = mn_set g mo (.inr (11, [.int 0, .ref (mo + 1), .int (nI tl), .ref (mo + 2), .ref (mo + 3), .int (nI e), .int (nI sz), .int (nI rp), .int (nI st), .ref (mo + 4), .ref (mo + 5), .ref (mo + 6), .int ir, .int (nI m), .int (nI r), .int (nI wd), .int (nI ag), .ref (mo + 7), .ref (mo + 8), .ref (mo + 9), .ref (mo + 10), .int (nI td), .int (nI om), .ref (mo + 11), .ref (mo + 12), .ref (mo + 13), .ref (mo + 14), .ref (mo + 15), .ref (mo + 16)])) := ⟨_, rfl⟩
    refine mn_R.toG eg2 ?_
    have hM_g2 : mn_at g2 mo (.inr (11, [.int 0, .ref (mo + 1), .int (nI tl), .ref (mo + 2), .ref (mo + 3), .int (nI e), .int (nI sz), .int (nI rp), .int (nI st), .ref (mo + 4), .ref (mo + 5), .ref (mo + 6), .int ir, .int (nI m), .int (nI r), .int (nI wd), .int (nI ag), .ref (mo + 7), .ref (mo + 8), .ref (mo + 9), .ref (mo + 10), .int (nI td), .int (nI om), .ref (mo + 11), .ref (mo + 12), .ref (mo + 13), .ref (mo + 14), .ref (mo + 15), .ref (mo + 16)])) := by rw [eg2]; exact hM.same
    refine mn_iconst (v := -1) dMo_write_15 (by decide) ?_
    exact mn_iret rfl dMo_write_16 ⟨rfl, (mn_fr.rf.set eg2 (by show mo = mo; omega)), hM_g2⟩
set_option maxRecDepth 100000 in
theorem c_M_write_full {E : mn_En} {g : mn_H} {mo tl e sz rp st m r wd ag td om : Nat} {ir : Int32} {bg : Nat → Nat} (hM : mn_at g mo (.inr (11, [.int 0, .ref (mo + 1), .int (nI tl), .ref (mo + 2), .ref (mo + 3), .int (nI e), .int (nI sz), .int (nI rp), .int (nI st), .ref (mo + 4), .ref (mo + 5), .ref (mo + 6), .int ir, .int (nI m), .int (nI r), .int (nI wd), .int (nI ag), .ref (mo + 7), .ref (mo + 8), .ref (mo + 9), .ref (mo + 10), .int (nI td), .int (nI om), .ref (mo + 11), .ref (mo + 12), .ref (mo + 13), .ref (mo + 14), .ref (mo + 15), .ref (mo + 16)]))) (hBg : mn_at g (mo + 3) (.inl (0, 21, .inl (fun j => nI (bg j))))) (he : e ≤ 20) (hsz : 20 ≤ sz) (hsz2 : sz ≤ 80) (hrp : rp ≤ 3) (hlen : bg e ≤ 1260) (hf : 60 < pcN (bg e) (sz - 12) + rp) {x : Int32} (h1 : ¬ x < -1) (h2 : ¬ 60 < x) : mn_R E MMo_write 4 98 0 0 0 [(0, .ref mo), (1, .int x)] [] g (fun x g' => x = some (.int (-3)) ∧ mn_fr (fun q => q = mo) g g' ∧ mn_at g' mo (.inr (11, [.int 0, .ref (mo + 1), .int (nI tl), .ref (mo + 2), .ref (mo + 3), .int (nI e), .int (nI sz), .int (nI rp), .int (nI st), .ref (mo + 4), .ref (mo + 5), .ref (mo + 6), .int ir, .int (nI m), .int (nI r), .int (nI wd), .int (nI ag), .ref (mo + 7), .ref (mo + 8), .ref (mo + 9), .ref (mo + 10), .int (nI td), .int (nI om), .ref (mo + 11), .ref (mo + 12), .ref (mo + 13), .ref (mo + 14), .ref (mo + 15), .ref (mo + 16)]))) := by
  have hpc : pcN (bg e) (sz - 12) < 100000 := by unfold pcN; have := Nat.div_le_self (bg e + (sz - 12) - 1) (sz - 12); rw [Nat.max_def]; split <;> omega
  refine mn_iload_n 1 dMo_write_0 rfl rfl ?_
  refine mn_iconst (v := -1) dMo_write_1 (by decide) ?_
  refine mn_bipush (v := 60) dMo_write_2 (by decide) ?_
  refine mn_cS (d' := 0) (w' := 0) (As := [.int x, .int (-1), .int 60]) (stk' := [.int 1]) okMo_in lMo_68 dMo_write_4 rfl rfl (Nat.le_of_ble_eq_true rfl) (Nat.le_of_ble_eq_true rfl) (by decide) (c_M_in_y h1 h2) rfl ?_
  refine mn_if_ne 17 dMo_write_7 (by decide) (fun c1 => ?_) (fun c1 => ?_)
  · refine mn_aload_n 0 dMo_write_17 rfl rfl ?_
    refine mn_callV (d' := 2) (w' := 40) (nc' := 0) (ns' := 0) (As := []) (st := []) okMo_volumes lMo_113 dMo_write_18 hM rfl rfl rfl rfl (Nat.le_of_ble_eq_true rfl) (Nat.le_of_ble_eq_true rfl) (by decide) (c_M_volumes_full hM hBg he hsz hsz2 hrp hlen hf) (fun v g2 hq => ?_)
    obtain ⟨rfl, fg2, hM_g2⟩ := hq
    have hM_g2 : mn_at g2 mo (.inr (11, [.int 0, .ref (mo + 1), .int (nI tl), .ref (mo + 2), .ref (mo + 3), .int (nI e), .int (nI sz), .int (nI rp), .int (nI st), .ref (mo + 4), .ref (mo + 5), .ref (mo + 6), .int ir, .int (nI m), .int (nI r), .int (nI wd), .int (nI ag), .ref (mo + 7), .ref (mo + 8), .ref (mo + 9), .ref (mo + 10), .int (nI td), .int (nI om), .ref (mo + 11), .ref (mo + 12), .ref (mo + 13), .ref (mo + 14), .ref (mo + 15), .ref (mo + 16)])) := hM_g2
    show mn_R E MMo_write 4 98 _ _ 21 [(0, .ref mo), (1, .int x)] [.int (-3)] g2 _
    have hBg_g2 := hBg.fr fg2 (fun h => by have h9 : (mo + 3) = mo := h; omega)
    refine mn_istore_n (ls' := [(0, .ref mo), (1, .int x), (2, .int (-3))]) dMo_write_21 rfl (by decide) rfl ?_
    refine mn_iload_n 2 dMo_write_22 rfl rfl ?_
    refine mn_bipush (v := (-3)) dMo_write_23 (by decide) ?_
    refine mn_icmp_ne 31 dMo_write_25 (by decide) (fun c3 => ?_) (fun c3 => ?_)
    · exact absurd c3 (by decide)
    · refine mn_bipush (v := (-3)) dMo_write_28 (by decide) ?_
      exact mn_iret rfl dMo_write_30 ⟨rfl, (mn_fr.rf.tr (fg2.mo (fun q h => by have h9 : q = mo := h; show q = mo; omega))), hM_g2⟩
  · exact absurd c1 (by decide)
set_option maxRecDepth 100000 in
theorem c_M_wr3m_no {E : mn_En} {g : mn_H} {mo tl e sz rp st m r wd ag td om : Nat} {ir : Int32} {sm bg sl ss vl : Nat → Nat} {sb0 : Nat → Nat → Nat} {nd : Nat} (hM : mn_at g mo (.inr (11, [.int 0, .ref (mo + 1), .int (nI tl), .ref (mo + 2), .ref (mo + 3), .int (nI e), .int (nI sz), .int (nI rp), .int (nI st), .ref (mo + 4), .ref (mo + 5), .ref (mo + 6), .int ir, .int (nI m), .int (nI r), .int (nI wd), .int (nI ag), .ref (mo + 7), .ref (mo + 8), .ref (mo + 9), .ref (mo + 10), .int (nI td), .int (nI om), .ref (mo + 11), .ref (mo + 12), .ref (mo + 13), .ref (mo + 14), .ref (mo + 15), .ref (mo + 16)]))) (hSm : mn_at g (mo + 2) (.inl (0, 1260, .inl (fun j => nI (sm j))))) (hBg : mn_at g (mo + 3) (.inl (0, 21, .inl (fun j => nI (bg j))))) (hSo : mn_at g (mo + 4) (.inl (0, 4800, .inl (fun j => nI (sl j))))) (hSs : mn_at g (mo + 5) (.inl (0, 60, .inl (fun j => nI (ss j))))) (hVl : mn_at g (mo + 6) (.inl (0, 80, .inl (fun j => nI (vl j))))) (hnd : nd ≤ 60) (he : e ≤ 20) (hsz : 20 ≤ sz) (hsz2 : sz ≤ 80) (hlen : bg e ≤ 1260) (hbl : ∀ k, k < e → bg k < bg e) (hsm : ∀ j, sm j < 256) (hm60 : pcN (bg e) (sz - 12) ≤ 60) (hrp : rp ≤ 3) (hst : st < 256) (hss : ∀ k, ss k ≤ 80) (hslb : ∀ j, sl j < 256) (hag : Agr ss (sbS sl) sb0) (hf : pcN (bg e) (sz - 12) + rp ≤ 60) (hvl : ∀ j, vl j < 256) (hno : cnt (fun k => ss k = 0) 60 < nd) : mn_R E MMo_write 4 98 0 0 69 [(0, .ref mo), (1, .int (-1)), (2, .int (nI (pcN (bg e) (sz - 12) + rp))), (3, .int (nI nd))] [] g (mn_is (some (.int (-3))) g) := by
  have hecn := cnt_le (fun k => ss k = 0) 60
  refine mn_iload_n 1 dMo_write_69 rfl rfl ?_
  refine mn_if_lt 78 dMo_write_70 (by decide) (fun c1 => ?_) (fun c1 => ?_)
  · refine mn_iload_n 3 dMo_write_78 rfl rfl ?_
    refine mn_goto 83 dMo_write_79 (by decide) ?_
    refine mn_istore (ls' := [(0, .ref mo), (1, .int (-1)), (2, .int (nI (pcN (bg e) (sz - 12) + rp))), (3, .int (nI nd)), (4, .int (nI nd))]) dMo_write_83 (by decide) rfl ?_
    refine mn_aload_n 0 dMo_write_85 rfl rfl ?_
    refine mn_cV (d' := 0) (w' := 0) (As := []) (stk' := [.int (nI (cnt (fun k => ss k = 0) 60))]) okMo_emptySlots lMo_124 dMo_write_86 hM rfl rfl rfl rfl (Nat.le_of_ble_eq_true rfl) (Nat.le_of_ble_eq_true rfl) (by decide) (c_M_empty hM hSs hss) rfl ?_
    refine mn_iload 4 dMo_write_89 rfl ?_
    refine mn_iload_n 3 dMo_write_91 rfl rfl ?_
    refine mn_icmp_ge 102 dMo_write_92 (by decide) (fun c2 => ?_) (fun c2 => ?_)
    · have c2 := (nI_leI (a := nd) (b := nd) (by omega) (by omega)).mp c2
      refine mn_iload 4 dMo_write_102 rfl ?_
      refine mn_icmp_ge 110 dMo_write_104 (by decide) (fun c3 => ?_) (fun c3 => ?_)
      · have c3 := (nI_leI (a := nd) (b := (cnt (fun k => ss k = 0) 60)) (by omega) (by omega)).mp c3
        exact absurd hno (by first | omega | (split <;> omega))
      · have c3 := mt (nI_leI (a := nd) (b := (cnt (fun k => ss k = 0) 60)) (by omega) (by omega)).mpr c3
        refine mn_bipush (v := (-3)) dMo_write_107 (by decide) ?_
        exact mn_iret rfl dMo_write_109 ⟨rfl, rfl⟩
    · have c2 := mt (nI_leI (a := nd) (b := nd) (by omega) (by omega)).mpr c2
      refine mn_iload 4 dMo_write_95 rfl ?_
      refine mn_iconst (v := 1) dMo_write_97 (by decide) ?_
      refine mn_iadd (z := nI (nd + 1)) dMo_write_98 (nI_add nd 1) ?_
      refine mn_goto 104 dMo_write_99 (by decide) ?_
      refine mn_icmp_ge 110 dMo_write_104 (by decide) (fun c4 => ?_) (fun c4 => ?_)
      · have c4 := (nI_leI (a := (nd + 1)) (b := (cnt (fun k => ss k = 0) 60)) (by omega) (by omega)).mp c4
        exact absurd hno (by first | omega | (split <;> omega))
      · have c4 := mt (nI_leI (a := (nd + 1)) (b := (cnt (fun k => ss k = 0) 60)) (by omega) (by omega)).mpr c4
        refine mn_bipush (v := (-3)) dMo_write_107 (by decide) ?_
        exact mn_iret rfl dMo_write_109 ⟨rfl, rfl⟩
  · exact absurd c1 (by decide)
set_option maxRecDepth 100000 in
theorem c_M_wr3m {E : mn_En} {g : mn_H} {mo tl e sz rp st m r wd ag td om : Nat} {ir : Int32} {sm bg sl ss vl : Nat → Nat} {sb0 : Nat → Nat → Nat} {nd : Nat} (hM : mn_at g mo (.inr (11, [.int 0, .ref (mo + 1), .int (nI tl), .ref (mo + 2), .ref (mo + 3), .int (nI e), .int (nI sz), .int (nI rp), .int (nI st), .ref (mo + 4), .ref (mo + 5), .ref (mo + 6), .int ir, .int (nI m), .int (nI r), .int (nI wd), .int (nI ag), .ref (mo + 7), .ref (mo + 8), .ref (mo + 9), .ref (mo + 10), .int (nI td), .int (nI om), .ref (mo + 11), .ref (mo + 12), .ref (mo + 13), .ref (mo + 14), .ref (mo + 15), .ref (mo + 16)]))) (hSm : mn_at g (mo + 2) (.inl (0, 1260, .inl (fun j => nI (sm j))))) (hBg : mn_at g (mo + 3) (.inl (0, 21, .inl (fun j => nI (bg j))))) (hSo : mn_at g (mo + 4) (.inl (0, 4800, .inl (fun j => nI (sl j))))) (hSs : mn_at g (mo + 5) (.inl (0, 60, .inl (fun j => nI (ss j))))) (hVl : mn_at g (mo + 6) (.inl (0, 80, .inl (fun j => nI (vl j))))) (hnd : nd ≤ 60) (he : e ≤ 20) (hsz : 20 ≤ sz) (hsz2 : sz ≤ 80) (hlen : bg e ≤ 1260) (hbl : ∀ k, k < e → bg k < bg e) (hsm : ∀ j, sm j < 256) (hm60 : pcN (bg e) (sz - 12) ≤ 60) (hrp : rp ≤ 3) (hst : st < 256) (hss : ∀ k, ss k ≤ 80) (hslb : ∀ j, sl j < 256) (hag : Agr ss (sbS sl) sb0) (hf : pcN (bg e) (sz - 12) + rp ≤ 60) (hvl : ∀ j, vl j < 256) (hno : nd ≤ cnt (fun k => ss k = 0) 60) (hndc : cnt (fun n0 => ¬ hld ss sb0 sz ((fun n0 => vlN (fun _ => 0) (zb sm (bg e)) (LnS (bg e) (sz - 12)) (SnS bg e (sz - 12)) (sz - 12) (pcN (bg e) (sz - 12)) n0 st rp sz) n0)) (pcN (bg e) (sz - 12) + rp) = nd) : mn_R E MMo_write 4 98 0 0 69 [(0, .ref mo), (1, .int (-1)), (2, .int (nI (pcN (bg e) (sz - 12) + rp))), (3, .int (nI nd))] [] g (fun x g' => x = some (.int (nI (wrK (fun n0 => vlN (fun _ => 0) (zb sm (bg e)) (LnS (bg e) (sz - 12)) (SnS bg e (sz - 12)) (sz - 12) (pcN (bg e) (sz - 12)) n0 st rp sz) sz (pcN (bg e) (sz - 12) + rp) nd (pcN (bg e) (sz - 12) + rp) (ss, sb0, 0)).2.2)) ∧ mn_fr (fun q => q = mo + 4 ∨ q = mo + 5 ∨ q = mo + 6) g g' ∧ (∃ sl' : Nat → Nat, mn_at g' (mo + 4) (.inl (0, 4800, .inl (fun j => nI (sl' j)))) ∧ mn_at g' (mo + 5) (.inl (0, 60, .inl (fun j => nI ((wrK (fun n0 => vlN (fun _ => 0) (zb sm (bg e)) (LnS (bg e) (sz - 12)) (SnS bg e (sz - 12)) (sz - 12) (pcN (bg e) (sz - 12)) n0 st rp sz) sz (pcN (bg e) (sz - 12) + rp) nd (pcN (bg e) (sz - 12) + rp) (ss, sb0, 0)).1 j)))) ∧ Agr (wrK (fun n0 => vlN (fun _ => 0) (zb sm (bg e)) (LnS (bg e) (sz - 12)) (SnS bg e (sz - 12)) (sz - 12) (pcN (bg e) (sz - 12)) n0 st rp sz) sz (pcN (bg e) (sz - 12) + rp) nd (pcN (bg e) (sz - 12) + rp) (ss, sb0, 0)).1 (sbS sl') (wrK (fun n0 => vlN (fun _ => 0) (zb sm (bg e)) (LnS (bg e) (sz - 12)) (SnS bg e (sz - 12)) (sz - 12) (pcN (bg e) (sz - 12)) n0 st rp sz) sz (pcN (bg e) (sz - 12) + rp) nd (pcN (bg e) (sz - 12) + rp) (ss, sb0, 0)).2.1 ∧ ∀ j, sl' j < 256) ∧ ∃ vw : Nat → Nat, mn_at g' (mo + 6) (.inl (0, 80, .inl (fun j => nI (vw j)))) ∧ ∀ j, vw j < 256) := by
  have hecn := cnt_le (fun k => ss k = 0) 60
  refine mn_iload_n 1 dMo_write_69 rfl rfl ?_
  refine mn_if_lt 78 dMo_write_70 (by decide) (fun c1 => ?_) (fun c1 => ?_)
  · refine mn_iload_n 3 dMo_write_78 rfl rfl ?_
    refine mn_goto 83 dMo_write_79 (by decide) ?_
    refine mn_istore (ls' := [(0, .ref mo), (1, .int (-1)), (2, .int (nI (pcN (bg e) (sz - 12) + rp))), (3, .int (nI nd)), (4, .int (nI nd))]) dMo_write_83 (by decide) rfl ?_
    refine mn_aload_n 0 dMo_write_85 rfl rfl ?_
    refine mn_cV (d' := 0) (w' := 0) (As := []) (stk' := [.int (nI (cnt (fun k => ss k = 0) 60))]) okMo_emptySlots lMo_124 dMo_write_86 hM rfl rfl rfl rfl (Nat.le_of_ble_eq_true rfl) (Nat.le_of_ble_eq_true rfl) (by decide) (c_M_empty hM hSs hss) rfl ?_
    refine mn_iload 4 dMo_write_89 rfl ?_
    refine mn_iload_n 3 dMo_write_91 rfl rfl ?_
    refine mn_icmp_ge 102 dMo_write_92 (by decide) (fun c2 => ?_) (fun c2 => ?_)
    · have c2 := (nI_leI (a := nd) (b := nd) (by omega) (by omega)).mp c2
      refine mn_iload 4 dMo_write_102 rfl ?_
      refine mn_icmp_ge 110 dMo_write_104 (by decide) (fun c3 => ?_) (fun c3 => ?_)
      · have c3 := (nI_leI (a := nd) (b := (cnt (fun k => ss k = 0) 60)) (by omega) (by omega)).mp c3
        refine mn_iconst (v := 0) dMo_write_110 (by decide) ?_
        refine mn_istore (ls' := [(0, .ref mo), (1, .int (-1)), (2, .int (nI (pcN (bg e) (sz - 12) + rp))), (3, .int (nI nd)), (4, .int (nI nd)), (5, .int 0)]) dMo_write_111 (by decide) rfl ?_
        refine mn_iconst (v := 0) dMo_write_113 (by decide) ?_
        refine mn_istore (ls' := [(0, .ref mo), (1, .int (-1)), (2, .int (nI (pcN (bg e) (sz - 12) + rp))), (3, .int (nI nd)), (4, .int (nI nd)), (5, .int 0), (6, .int 0)]) dMo_write_114 (by decide) rfl ?_
        exact c_M_wr2 (by omega) he hsz hsz2 hlen hbl hsm hm60 hrp hst hf ((pcN (bg e) (sz - 12) + rp) + 1) 0 g ss sl vl sb0 0 (by omega) (by omega) mn_fr.rf hvl hss hslb hag (by omega) (by rw [rem_0, hndc, Nat.zero_add, Nat.zero_add, Nat.min_def]; split <;> first | omega | (split at hno <;> omega)) hM hSm hBg hSo hSs hVl
      · have c3 := mt (nI_leI (a := nd) (b := (cnt (fun k => ss k = 0) 60)) (by omega) (by omega)).mpr c3
        refine mn_bipush (v := (-3)) dMo_write_107 (by decide) ?_
        exact mn_iret rfl dMo_write_109 (absurd hno (by first | omega | (split <;> omega)))
    · have c2 := mt (nI_leI (a := nd) (b := nd) (by omega) (by omega)).mpr c2
      refine mn_iload 4 dMo_write_95 rfl ?_
      refine mn_iconst (v := 1) dMo_write_97 (by decide) ?_
      refine mn_iadd (z := nI (nd + 1)) dMo_write_98 (nI_add nd 1) ?_
      refine mn_goto 104 dMo_write_99 (by decide) ?_
      refine mn_icmp_ge 110 dMo_write_104 (by decide) (fun c4 => ?_) (fun c4 => ?_)
      · have c4 := (nI_leI (a := (nd + 1)) (b := (cnt (fun k => ss k = 0) 60)) (by omega) (by omega)).mp c4
        refine mn_iconst (v := 0) dMo_write_110 (by decide) ?_
        refine mn_istore (ls' := [(0, .ref mo), (1, .int (-1)), (2, .int (nI (pcN (bg e) (sz - 12) + rp))), (3, .int (nI nd)), (4, .int (nI nd)), (5, .int 0)]) dMo_write_111 (by decide) rfl ?_
        refine mn_iconst (v := 0) dMo_write_113 (by decide) ?_
        refine mn_istore (ls' := [(0, .ref mo), (1, .int (-1)), (2, .int (nI (pcN (bg e) (sz - 12) + rp))), (3, .int (nI nd)), (4, .int (nI nd)), (5, .int 0), (6, .int 0)]) dMo_write_114 (by decide) rfl ?_
        exact c_M_wr2 (by omega) he hsz hsz2 hlen hbl hsm hm60 hrp hst hf ((pcN (bg e) (sz - 12) + rp) + 1) 0 g ss sl vl sb0 0 (by omega) (by omega) mn_fr.rf hvl hss hslb hag (by omega) (by rw [rem_0, hndc, Nat.zero_add, Nat.zero_add, Nat.min_def]; split <;> first | omega | (split at hno <;> omega)) hM hSm hBg hSo hSs hVl
      · have c4 := mt (nI_leI (a := (nd + 1)) (b := (cnt (fun k => ss k = 0) 60)) (by omega) (by omega)).mpr c4
        refine mn_bipush (v := (-3)) dMo_write_107 (by decide) ?_
        exact mn_iret rfl dMo_write_109 (absurd hno (by first | omega | (split <;> omega)))
  · exact absurd c1 (by decide)
set_option maxRecDepth 100000 in
theorem c_M_wr3a_no {E : mn_En} {g : mn_H} {mo tl e sz rp st m r wd ag td om : Nat} {ir : Int32} {sm bg sl ss vl : Nat → Nat} {sb0 : Nat → Nat → Nat} {nd : Nat} {pw : Nat} (hM : mn_at g mo (.inr (11, [.int 0, .ref (mo + 1), .int (nI tl), .ref (mo + 2), .ref (mo + 3), .int (nI e), .int (nI sz), .int (nI rp), .int (nI st), .ref (mo + 4), .ref (mo + 5), .ref (mo + 6), .int ir, .int (nI m), .int (nI r), .int (nI wd), .int (nI ag), .ref (mo + 7), .ref (mo + 8), .ref (mo + 9), .ref (mo + 10), .int (nI td), .int (nI om), .ref (mo + 11), .ref (mo + 12), .ref (mo + 13), .ref (mo + 14), .ref (mo + 15), .ref (mo + 16)]))) (hSm : mn_at g (mo + 2) (.inl (0, 1260, .inl (fun j => nI (sm j))))) (hBg : mn_at g (mo + 3) (.inl (0, 21, .inl (fun j => nI (bg j))))) (hSo : mn_at g (mo + 4) (.inl (0, 4800, .inl (fun j => nI (sl j))))) (hSs : mn_at g (mo + 5) (.inl (0, 60, .inl (fun j => nI (ss j))))) (hVl : mn_at g (mo + 6) (.inl (0, 80, .inl (fun j => nI (vl j))))) (hnd : nd ≤ 60) (hpw : nd < pw) (hpw2 : pw ≤ 60) (he : e ≤ 20) (hsz : 20 ≤ sz) (hsz2 : sz ≤ 80) (hlen : bg e ≤ 1260) (hbl : ∀ k, k < e → bg k < bg e) (hsm : ∀ j, sm j < 256) (hm60 : pcN (bg e) (sz - 12) ≤ 60) (hrp : rp ≤ 3) (hst : st < 256) (hss : ∀ k, ss k ≤ 80) (hslb : ∀ j, sl j < 256) (hag : Agr ss (sbS sl) sb0) (hf : pcN (bg e) (sz - 12) + rp ≤ 60) (hvl : ∀ j, vl j < 256) (hno : cnt (fun k => ss k = 0) 60 < nd) : mn_R E MMo_write 4 98 0 0 69 [(0, .ref mo), (1, .int (nI pw)), (2, .int (nI (pcN (bg e) (sz - 12) + rp))), (3, .int (nI nd))] [] g (mn_is (some (.int (-3))) g) := by
  have hecn := cnt_le (fun k => ss k = 0) 60
  refine mn_iload_n 1 dMo_write_69 rfl rfl ?_
  refine mn_if_lt 78 dMo_write_70 (by decide) (fun c1 => ?_) (fun c1 => ?_)
  · exact absurd c1 (nI_pos (by omega))
  · refine mn_iload_n 1 dMo_write_73 rfl rfl ?_
    refine mn_iload_n 3 dMo_write_74 rfl rfl ?_
    refine mn_icmp_le 82 dMo_write_75 (by decide) (fun c2 => ?_) (fun c2 => ?_)
    · have c2 := (nI_leI (a := pw) (b := nd) (by omega) (by omega)).mp c2
      exact absurd hpw (by omega)
    · have c2 := mt (nI_leI (a := pw) (b := nd) (by omega) (by omega)).mpr c2
      refine mn_iload_n 3 dMo_write_78 rfl rfl ?_
      refine mn_goto 83 dMo_write_79 (by decide) ?_
      refine mn_istore (ls' := [(0, .ref mo), (1, .int (nI pw)), (2, .int (nI (pcN (bg e) (sz - 12) + rp))), (3, .int (nI nd)), (4, .int (nI nd))]) dMo_write_83 (by decide) rfl ?_
      refine mn_aload_n 0 dMo_write_85 rfl rfl ?_
      refine mn_cV (d' := 0) (w' := 0) (As := []) (stk' := [.int (nI (cnt (fun k => ss k = 0) 60))]) okMo_emptySlots lMo_124 dMo_write_86 hM rfl rfl rfl rfl (Nat.le_of_ble_eq_true rfl) (Nat.le_of_ble_eq_true rfl) (by decide) (c_M_empty hM hSs hss) rfl ?_
      refine mn_iload 4 dMo_write_89 rfl ?_
      refine mn_iload_n 3 dMo_write_91 rfl rfl ?_
      refine mn_icmp_ge 102 dMo_write_92 (by decide) (fun c3 => ?_) (fun c3 => ?_)
      · have c3 := (nI_leI (a := nd) (b := nd) (by omega) (by omega)).mp c3
        refine mn_iload 4 dMo_write_102 rfl ?_
        refine mn_icmp_ge 110 dMo_write_104 (by decide) (fun c4 => ?_) (fun c4 => ?_)
        · have c4 := (nI_leI (a := nd) (b := (cnt (fun k => ss k = 0) 60)) (by omega) (by omega)).mp c4
          exact absurd hno (by first | omega | (split <;> omega))
        · have c4 := mt (nI_leI (a := nd) (b := (cnt (fun k => ss k = 0) 60)) (by omega) (by omega)).mpr c4
          refine mn_bipush (v := (-3)) dMo_write_107 (by decide) ?_
          exact mn_iret rfl dMo_write_109 ⟨rfl, rfl⟩
      · have c3 := mt (nI_leI (a := nd) (b := nd) (by omega) (by omega)).mpr c3
        refine mn_iload 4 dMo_write_95 rfl ?_
        refine mn_iconst (v := 1) dMo_write_97 (by decide) ?_
        refine mn_iadd (z := nI (nd + 1)) dMo_write_98 (nI_add nd 1) ?_
        refine mn_goto 104 dMo_write_99 (by decide) ?_
        refine mn_icmp_ge 110 dMo_write_104 (by decide) (fun c5 => ?_) (fun c5 => ?_)
        · have c5 := (nI_leI (a := (nd + 1)) (b := (cnt (fun k => ss k = 0) 60)) (by omega) (by omega)).mp c5
          exact absurd hno (by first | omega | (split <;> omega))
        · have c5 := mt (nI_leI (a := (nd + 1)) (b := (cnt (fun k => ss k = 0) 60)) (by omega) (by omega)).mpr c5
          refine mn_bipush (v := (-3)) dMo_write_107 (by decide) ?_
          exact mn_iret rfl dMo_write_109 ⟨rfl, rfl⟩
set_option maxRecDepth 100000 in
theorem c_M_wr3a {E : mn_En} {g : mn_H} {mo tl e sz rp st m r wd ag td om : Nat} {ir : Int32} {sm bg sl ss vl : Nat → Nat} {sb0 : Nat → Nat → Nat} {nd : Nat} {pw : Nat} (hM : mn_at g mo (.inr (11, [.int 0, .ref (mo + 1), .int (nI tl), .ref (mo + 2), .ref (mo + 3), .int (nI e), .int (nI sz), .int (nI rp), .int (nI st), .ref (mo + 4), .ref (mo + 5), .ref (mo + 6), .int ir, .int (nI m), .int (nI r), .int (nI wd), .int (nI ag), .ref (mo + 7), .ref (mo + 8), .ref (mo + 9), .ref (mo + 10), .int (nI td), .int (nI om), .ref (mo + 11), .ref (mo + 12), .ref (mo + 13), .ref (mo + 14), .ref (mo + 15), .ref (mo + 16)]))) (hSm : mn_at g (mo + 2) (.inl (0, 1260, .inl (fun j => nI (sm j))))) (hBg : mn_at g (mo + 3) (.inl (0, 21, .inl (fun j => nI (bg j))))) (hSo : mn_at g (mo + 4) (.inl (0, 4800, .inl (fun j => nI (sl j))))) (hSs : mn_at g (mo + 5) (.inl (0, 60, .inl (fun j => nI (ss j))))) (hVl : mn_at g (mo + 6) (.inl (0, 80, .inl (fun j => nI (vl j))))) (hnd : nd ≤ 60) (hpw : nd < pw) (hpw2 : pw ≤ 60) (he : e ≤ 20) (hsz : 20 ≤ sz) (hsz2 : sz ≤ 80) (hlen : bg e ≤ 1260) (hbl : ∀ k, k < e → bg k < bg e) (hsm : ∀ j, sm j < 256) (hm60 : pcN (bg e) (sz - 12) ≤ 60) (hrp : rp ≤ 3) (hst : st < 256) (hss : ∀ k, ss k ≤ 80) (hslb : ∀ j, sl j < 256) (hag : Agr ss (sbS sl) sb0) (hf : pcN (bg e) (sz - 12) + rp ≤ 60) (hvl : ∀ j, vl j < 256) (hno : nd ≤ cnt (fun k => ss k = 0) 60) (hndc : cnt (fun n0 => ¬ hld ss sb0 sz ((fun n0 => vlN (fun _ => 0) (zb sm (bg e)) (LnS (bg e) (sz - 12)) (SnS bg e (sz - 12)) (sz - 12) (pcN (bg e) (sz - 12)) n0 st rp sz) n0)) (pcN (bg e) (sz - 12) + rp) = nd) : mn_R E MMo_write 4 98 0 0 69 [(0, .ref mo), (1, .int (nI pw)), (2, .int (nI (pcN (bg e) (sz - 12) + rp))), (3, .int (nI nd))] [] g (fun x g' => x = some (.int (nI (wrK (fun n0 => vlN (fun _ => 0) (zb sm (bg e)) (LnS (bg e) (sz - 12)) (SnS bg e (sz - 12)) (sz - 12) (pcN (bg e) (sz - 12)) n0 st rp sz) sz (pcN (bg e) (sz - 12) + rp) nd (pcN (bg e) (sz - 12) + rp) (ss, sb0, 0)).2.2)) ∧ mn_fr (fun q => q = mo + 4 ∨ q = mo + 5 ∨ q = mo + 6) g g' ∧ (∃ sl' : Nat → Nat, mn_at g' (mo + 4) (.inl (0, 4800, .inl (fun j => nI (sl' j)))) ∧ mn_at g' (mo + 5) (.inl (0, 60, .inl (fun j => nI ((wrK (fun n0 => vlN (fun _ => 0) (zb sm (bg e)) (LnS (bg e) (sz - 12)) (SnS bg e (sz - 12)) (sz - 12) (pcN (bg e) (sz - 12)) n0 st rp sz) sz (pcN (bg e) (sz - 12) + rp) nd (pcN (bg e) (sz - 12) + rp) (ss, sb0, 0)).1 j)))) ∧ Agr (wrK (fun n0 => vlN (fun _ => 0) (zb sm (bg e)) (LnS (bg e) (sz - 12)) (SnS bg e (sz - 12)) (sz - 12) (pcN (bg e) (sz - 12)) n0 st rp sz) sz (pcN (bg e) (sz - 12) + rp) nd (pcN (bg e) (sz - 12) + rp) (ss, sb0, 0)).1 (sbS sl') (wrK (fun n0 => vlN (fun _ => 0) (zb sm (bg e)) (LnS (bg e) (sz - 12)) (SnS bg e (sz - 12)) (sz - 12) (pcN (bg e) (sz - 12)) n0 st rp sz) sz (pcN (bg e) (sz - 12) + rp) nd (pcN (bg e) (sz - 12) + rp) (ss, sb0, 0)).2.1 ∧ ∀ j, sl' j < 256) ∧ ∃ vw : Nat → Nat, mn_at g' (mo + 6) (.inl (0, 80, .inl (fun j => nI (vw j)))) ∧ ∀ j, vw j < 256) := by
  have hecn := cnt_le (fun k => ss k = 0) 60
  refine mn_iload_n 1 dMo_write_69 rfl rfl ?_
  refine mn_if_lt 78 dMo_write_70 (by decide) (fun c1 => ?_) (fun c1 => ?_)
  · exact absurd c1 (nI_pos (by omega))
  · refine mn_iload_n 1 dMo_write_73 rfl rfl ?_
    refine mn_iload_n 3 dMo_write_74 rfl rfl ?_
    refine mn_icmp_le 82 dMo_write_75 (by decide) (fun c2 => ?_) (fun c2 => ?_)
    · have c2 := (nI_leI (a := pw) (b := nd) (by omega) (by omega)).mp c2
      exact absurd hpw (by omega)
    · have c2 := mt (nI_leI (a := pw) (b := nd) (by omega) (by omega)).mpr c2
      refine mn_iload_n 3 dMo_write_78 rfl rfl ?_
      refine mn_goto 83 dMo_write_79 (by decide) ?_
      refine mn_istore (ls' := [(0, .ref mo), (1, .int (nI pw)), (2, .int (nI (pcN (bg e) (sz - 12) + rp))), (3, .int (nI nd)), (4, .int (nI nd))]) dMo_write_83 (by decide) rfl ?_
      refine mn_aload_n 0 dMo_write_85 rfl rfl ?_
      refine mn_cV (d' := 0) (w' := 0) (As := []) (stk' := [.int (nI (cnt (fun k => ss k = 0) 60))]) okMo_emptySlots lMo_124 dMo_write_86 hM rfl rfl rfl rfl (Nat.le_of_ble_eq_true rfl) (Nat.le_of_ble_eq_true rfl) (by decide) (c_M_empty hM hSs hss) rfl ?_
      refine mn_iload 4 dMo_write_89 rfl ?_
      refine mn_iload_n 3 dMo_write_91 rfl rfl ?_
      refine mn_icmp_ge 102 dMo_write_92 (by decide) (fun c3 => ?_) (fun c3 => ?_)
      · have c3 := (nI_leI (a := nd) (b := nd) (by omega) (by omega)).mp c3
        refine mn_iload 4 dMo_write_102 rfl ?_
        refine mn_icmp_ge 110 dMo_write_104 (by decide) (fun c4 => ?_) (fun c4 => ?_)
        · have c4 := (nI_leI (a := nd) (b := (cnt (fun k => ss k = 0) 60)) (by omega) (by omega)).mp c4
          refine mn_iconst (v := 0) dMo_write_110 (by decide) ?_
          refine mn_istore (ls' := [(0, .ref mo), (1, .int (nI pw)), (2, .int (nI (pcN (bg e) (sz - 12) + rp))), (3, .int (nI nd)), (4, .int (nI nd)), (5, .int 0)]) dMo_write_111 (by decide) rfl ?_
          refine mn_iconst (v := 0) dMo_write_113 (by decide) ?_
          refine mn_istore (ls' := [(0, .ref mo), (1, .int (nI pw)), (2, .int (nI (pcN (bg e) (sz - 12) + rp))), (3, .int (nI nd)), (4, .int (nI nd)), (5, .int 0), (6, .int 0)]) dMo_write_114 (by decide) rfl ?_
          exact c_M_wr2 (by omega) he hsz hsz2 hlen hbl hsm hm60 hrp hst hf ((pcN (bg e) (sz - 12) + rp) + 1) 0 g ss sl vl sb0 0 (by omega) (by omega) mn_fr.rf hvl hss hslb hag (by omega) (by rw [rem_0, hndc, Nat.zero_add, Nat.zero_add, Nat.min_def]; split <;> first | omega | (split at hno <;> omega)) hM hSm hBg hSo hSs hVl
        · have c4 := mt (nI_leI (a := nd) (b := (cnt (fun k => ss k = 0) 60)) (by omega) (by omega)).mpr c4
          refine mn_bipush (v := (-3)) dMo_write_107 (by decide) ?_
          exact mn_iret rfl dMo_write_109 (absurd hno (by first | omega | (split <;> omega)))
      · have c3 := mt (nI_leI (a := nd) (b := nd) (by omega) (by omega)).mpr c3
        refine mn_iload 4 dMo_write_95 rfl ?_
        refine mn_iconst (v := 1) dMo_write_97 (by decide) ?_
        refine mn_iadd (z := nI (nd + 1)) dMo_write_98 (nI_add nd 1) ?_
        refine mn_goto 104 dMo_write_99 (by decide) ?_
        refine mn_icmp_ge 110 dMo_write_104 (by decide) (fun c5 => ?_) (fun c5 => ?_)
        · have c5 := (nI_leI (a := (nd + 1)) (b := (cnt (fun k => ss k = 0) 60)) (by omega) (by omega)).mp c5
          refine mn_iconst (v := 0) dMo_write_110 (by decide) ?_
          refine mn_istore (ls' := [(0, .ref mo), (1, .int (nI pw)), (2, .int (nI (pcN (bg e) (sz - 12) + rp))), (3, .int (nI nd)), (4, .int (nI nd)), (5, .int 0)]) dMo_write_111 (by decide) rfl ?_
          refine mn_iconst (v := 0) dMo_write_113 (by decide) ?_
          refine mn_istore (ls' := [(0, .ref mo), (1, .int (nI pw)), (2, .int (nI (pcN (bg e) (sz - 12) + rp))), (3, .int (nI nd)), (4, .int (nI nd)), (5, .int 0), (6, .int 0)]) dMo_write_114 (by decide) rfl ?_
          exact c_M_wr2 (by omega) he hsz hsz2 hlen hbl hsm hm60 hrp hst hf ((pcN (bg e) (sz - 12) + rp) + 1) 0 g ss sl vl sb0 0 (by omega) (by omega) mn_fr.rf hvl hss hslb hag (by omega) (by rw [rem_0, hndc, Nat.zero_add, Nat.zero_add, Nat.min_def]; split <;> first | omega | (split at hno <;> omega)) hM hSm hBg hSo hSs hVl
        · have c5 := mt (nI_leI (a := (nd + 1)) (b := (cnt (fun k => ss k = 0) 60)) (by omega) (by omega)).mpr c5
          refine mn_bipush (v := (-3)) dMo_write_107 (by decide) ?_
          exact mn_iret rfl dMo_write_109 (absurd hno (by first | omega | (split <;> omega)))
set_option maxRecDepth 100000 in
theorem c_M_wr3b_no {E : mn_En} {g : mn_H} {mo tl e sz rp st m r wd ag td om : Nat} {ir : Int32} {sm bg sl ss vl : Nat → Nat} {sb0 : Nat → Nat → Nat} {nd : Nat} {pw : Nat} (hM : mn_at g mo (.inr (11, [.int 0, .ref (mo + 1), .int (nI tl), .ref (mo + 2), .ref (mo + 3), .int (nI e), .int (nI sz), .int (nI rp), .int (nI st), .ref (mo + 4), .ref (mo + 5), .ref (mo + 6), .int ir, .int (nI m), .int (nI r), .int (nI wd), .int (nI ag), .ref (mo + 7), .ref (mo + 8), .ref (mo + 9), .ref (mo + 10), .int (nI td), .int (nI om), .ref (mo + 11), .ref (mo + 12), .ref (mo + 13), .ref (mo + 14), .ref (mo + 15), .ref (mo + 16)]))) (hSm : mn_at g (mo + 2) (.inl (0, 1260, .inl (fun j => nI (sm j))))) (hBg : mn_at g (mo + 3) (.inl (0, 21, .inl (fun j => nI (bg j))))) (hSo : mn_at g (mo + 4) (.inl (0, 4800, .inl (fun j => nI (sl j))))) (hSs : mn_at g (mo + 5) (.inl (0, 60, .inl (fun j => nI (ss j))))) (hVl : mn_at g (mo + 6) (.inl (0, 80, .inl (fun j => nI (vl j))))) (hnd : nd ≤ 60) (hpw : pw ≤ nd) (hpw2 : pw ≤ 60) (he : e ≤ 20) (hsz : 20 ≤ sz) (hsz2 : sz ≤ 80) (hlen : bg e ≤ 1260) (hbl : ∀ k, k < e → bg k < bg e) (hsm : ∀ j, sm j < 256) (hm60 : pcN (bg e) (sz - 12) ≤ 60) (hrp : rp ≤ 3) (hst : st < 256) (hss : ∀ k, ss k ≤ 80) (hslb : ∀ j, sl j < 256) (hag : Agr ss (sbS sl) sb0) (hf : pcN (bg e) (sz - 12) + rp ≤ 60) (hvl : ∀ j, vl j < 256) (hno : cnt (fun k => ss k = 0) 60 < (if pw < nd then pw + 1 else pw)) : mn_R E MMo_write 4 98 0 0 69 [(0, .ref mo), (1, .int (nI pw)), (2, .int (nI (pcN (bg e) (sz - 12) + rp))), (3, .int (nI nd))] [] g (mn_is (some (.int (-3))) g) := by
  have hecn := cnt_le (fun k => ss k = 0) 60
  refine mn_iload_n 1 dMo_write_69 rfl rfl ?_
  refine mn_if_lt 78 dMo_write_70 (by decide) (fun c1 => ?_) (fun c1 => ?_)
  · exact absurd c1 (nI_pos (by omega))
  · refine mn_iload_n 1 dMo_write_73 rfl rfl ?_
    refine mn_iload_n 3 dMo_write_74 rfl rfl ?_
    refine mn_icmp_le 82 dMo_write_75 (by decide) (fun c2 => ?_) (fun c2 => ?_)
    · have c2 := (nI_leI (a := pw) (b := nd) (by omega) (by omega)).mp c2
      refine mn_iload_n 1 dMo_write_82 rfl rfl ?_
      refine mn_istore (ls' := [(0, .ref mo), (1, .int (nI pw)), (2, .int (nI (pcN (bg e) (sz - 12) + rp))), (3, .int (nI nd)), (4, .int (nI pw))]) dMo_write_83 (by decide) rfl ?_
      refine mn_aload_n 0 dMo_write_85 rfl rfl ?_
      refine mn_cV (d' := 0) (w' := 0) (As := []) (stk' := [.int (nI (cnt (fun k => ss k = 0) 60))]) okMo_emptySlots lMo_124 dMo_write_86 hM rfl rfl rfl rfl (Nat.le_of_ble_eq_true rfl) (Nat.le_of_ble_eq_true rfl) (by decide) (c_M_empty hM hSs hss) rfl ?_
      refine mn_iload 4 dMo_write_89 rfl ?_
      refine mn_iload_n 3 dMo_write_91 rfl rfl ?_
      refine mn_icmp_ge 102 dMo_write_92 (by decide) (fun c3 => ?_) (fun c3 => ?_)
      · have c3 := (nI_leI (a := nd) (b := pw) (by omega) (by omega)).mp c3
        refine mn_iload 4 dMo_write_102 rfl ?_
        refine mn_icmp_ge 110 dMo_write_104 (by decide) (fun c4 => ?_) (fun c4 => ?_)
        · have c4 := (nI_leI (a := pw) (b := (cnt (fun k => ss k = 0) 60)) (by omega) (by omega)).mp c4
          exact absurd hno (by first | omega | (split <;> omega))
        · have c4 := mt (nI_leI (a := pw) (b := (cnt (fun k => ss k = 0) 60)) (by omega) (by omega)).mpr c4
          refine mn_bipush (v := (-3)) dMo_write_107 (by decide) ?_
          exact mn_iret rfl dMo_write_109 ⟨rfl, rfl⟩
      · have c3 := mt (nI_leI (a := nd) (b := pw) (by omega) (by omega)).mpr c3
        refine mn_iload 4 dMo_write_95 rfl ?_
        refine mn_iconst (v := 1) dMo_write_97 (by decide) ?_
        refine mn_iadd (z := nI (pw + 1)) dMo_write_98 (nI_add pw 1) ?_
        refine mn_goto 104 dMo_write_99 (by decide) ?_
        refine mn_icmp_ge 110 dMo_write_104 (by decide) (fun c5 => ?_) (fun c5 => ?_)
        · have c5 := (nI_leI (a := (pw + 1)) (b := (cnt (fun k => ss k = 0) 60)) (by omega) (by omega)).mp c5
          exact absurd hno (by first | omega | (split <;> omega))
        · have c5 := mt (nI_leI (a := (pw + 1)) (b := (cnt (fun k => ss k = 0) 60)) (by omega) (by omega)).mpr c5
          refine mn_bipush (v := (-3)) dMo_write_107 (by decide) ?_
          exact mn_iret rfl dMo_write_109 ⟨rfl, rfl⟩
    · have c2 := mt (nI_leI (a := pw) (b := nd) (by omega) (by omega)).mpr c2
      exact absurd hpw (by omega)
set_option maxRecDepth 100000 in
theorem c_M_wr3b {E : mn_En} {g : mn_H} {mo tl e sz rp st m r wd ag td om : Nat} {ir : Int32} {sm bg sl ss vl : Nat → Nat} {sb0 : Nat → Nat → Nat} {nd : Nat} {pw : Nat} (hM : mn_at g mo (.inr (11, [.int 0, .ref (mo + 1), .int (nI tl), .ref (mo + 2), .ref (mo + 3), .int (nI e), .int (nI sz), .int (nI rp), .int (nI st), .ref (mo + 4), .ref (mo + 5), .ref (mo + 6), .int ir, .int (nI m), .int (nI r), .int (nI wd), .int (nI ag), .ref (mo + 7), .ref (mo + 8), .ref (mo + 9), .ref (mo + 10), .int (nI td), .int (nI om), .ref (mo + 11), .ref (mo + 12), .ref (mo + 13), .ref (mo + 14), .ref (mo + 15), .ref (mo + 16)]))) (hSm : mn_at g (mo + 2) (.inl (0, 1260, .inl (fun j => nI (sm j))))) (hBg : mn_at g (mo + 3) (.inl (0, 21, .inl (fun j => nI (bg j))))) (hSo : mn_at g (mo + 4) (.inl (0, 4800, .inl (fun j => nI (sl j))))) (hSs : mn_at g (mo + 5) (.inl (0, 60, .inl (fun j => nI (ss j))))) (hVl : mn_at g (mo + 6) (.inl (0, 80, .inl (fun j => nI (vl j))))) (hnd : nd ≤ 60) (hpw : pw ≤ nd) (hpw2 : pw ≤ 60) (he : e ≤ 20) (hsz : 20 ≤ sz) (hsz2 : sz ≤ 80) (hlen : bg e ≤ 1260) (hbl : ∀ k, k < e → bg k < bg e) (hsm : ∀ j, sm j < 256) (hm60 : pcN (bg e) (sz - 12) ≤ 60) (hrp : rp ≤ 3) (hst : st < 256) (hss : ∀ k, ss k ≤ 80) (hslb : ∀ j, sl j < 256) (hag : Agr ss (sbS sl) sb0) (hf : pcN (bg e) (sz - 12) + rp ≤ 60) (hvl : ∀ j, vl j < 256) (hno : (if pw < nd then pw + 1 else pw) ≤ cnt (fun k => ss k = 0) 60) (hndc : cnt (fun n0 => ¬ hld ss sb0 sz ((fun n0 => vlN (fun _ => 0) (zb sm (bg e)) (LnS (bg e) (sz - 12)) (SnS bg e (sz - 12)) (sz - 12) (pcN (bg e) (sz - 12)) n0 st rp sz) n0)) (pcN (bg e) (sz - 12) + rp) = nd) : mn_R E MMo_write 4 98 0 0 69 [(0, .ref mo), (1, .int (nI pw)), (2, .int (nI (pcN (bg e) (sz - 12) + rp))), (3, .int (nI nd))] [] g (fun x g' => x = some (.int (nI (wrK (fun n0 => vlN (fun _ => 0) (zb sm (bg e)) (LnS (bg e) (sz - 12)) (SnS bg e (sz - 12)) (sz - 12) (pcN (bg e) (sz - 12)) n0 st rp sz) sz (pcN (bg e) (sz - 12) + rp) pw (pcN (bg e) (sz - 12) + rp) (ss, sb0, 0)).2.2)) ∧ mn_fr (fun q => q = mo + 4 ∨ q = mo + 5 ∨ q = mo + 6) g g' ∧ (∃ sl' : Nat → Nat, mn_at g' (mo + 4) (.inl (0, 4800, .inl (fun j => nI (sl' j)))) ∧ mn_at g' (mo + 5) (.inl (0, 60, .inl (fun j => nI ((wrK (fun n0 => vlN (fun _ => 0) (zb sm (bg e)) (LnS (bg e) (sz - 12)) (SnS bg e (sz - 12)) (sz - 12) (pcN (bg e) (sz - 12)) n0 st rp sz) sz (pcN (bg e) (sz - 12) + rp) pw (pcN (bg e) (sz - 12) + rp) (ss, sb0, 0)).1 j)))) ∧ Agr (wrK (fun n0 => vlN (fun _ => 0) (zb sm (bg e)) (LnS (bg e) (sz - 12)) (SnS bg e (sz - 12)) (sz - 12) (pcN (bg e) (sz - 12)) n0 st rp sz) sz (pcN (bg e) (sz - 12) + rp) pw (pcN (bg e) (sz - 12) + rp) (ss, sb0, 0)).1 (sbS sl') (wrK (fun n0 => vlN (fun _ => 0) (zb sm (bg e)) (LnS (bg e) (sz - 12)) (SnS bg e (sz - 12)) (sz - 12) (pcN (bg e) (sz - 12)) n0 st rp sz) sz (pcN (bg e) (sz - 12) + rp) pw (pcN (bg e) (sz - 12) + rp) (ss, sb0, 0)).2.1 ∧ ∀ j, sl' j < 256) ∧ ∃ vw : Nat → Nat, mn_at g' (mo + 6) (.inl (0, 80, .inl (fun j => nI (vw j)))) ∧ ∀ j, vw j < 256) := by
  have hecn := cnt_le (fun k => ss k = 0) 60
  refine mn_iload_n 1 dMo_write_69 rfl rfl ?_
  refine mn_if_lt 78 dMo_write_70 (by decide) (fun c1 => ?_) (fun c1 => ?_)
  · exact absurd c1 (nI_pos (by omega))
  · refine mn_iload_n 1 dMo_write_73 rfl rfl ?_
    refine mn_iload_n 3 dMo_write_74 rfl rfl ?_
    refine mn_icmp_le 82 dMo_write_75 (by decide) (fun c2 => ?_) (fun c2 => ?_)
    · have c2 := (nI_leI (a := pw) (b := nd) (by omega) (by omega)).mp c2
      refine mn_iload_n 1 dMo_write_82 rfl rfl ?_
      refine mn_istore (ls' := [(0, .ref mo), (1, .int (nI pw)), (2, .int (nI (pcN (bg e) (sz - 12) + rp))), (3, .int (nI nd)), (4, .int (nI pw))]) dMo_write_83 (by decide) rfl ?_
      refine mn_aload_n 0 dMo_write_85 rfl rfl ?_
      refine mn_cV (d' := 0) (w' := 0) (As := []) (stk' := [.int (nI (cnt (fun k => ss k = 0) 60))]) okMo_emptySlots lMo_124 dMo_write_86 hM rfl rfl rfl rfl (Nat.le_of_ble_eq_true rfl) (Nat.le_of_ble_eq_true rfl) (by decide) (c_M_empty hM hSs hss) rfl ?_
      refine mn_iload 4 dMo_write_89 rfl ?_
      refine mn_iload_n 3 dMo_write_91 rfl rfl ?_
      refine mn_icmp_ge 102 dMo_write_92 (by decide) (fun c3 => ?_) (fun c3 => ?_)
      · have c3 := (nI_leI (a := nd) (b := pw) (by omega) (by omega)).mp c3
        refine mn_iload 4 dMo_write_102 rfl ?_
        refine mn_icmp_ge 110 dMo_write_104 (by decide) (fun c4 => ?_) (fun c4 => ?_)
        · have c4 := (nI_leI (a := pw) (b := (cnt (fun k => ss k = 0) 60)) (by omega) (by omega)).mp c4
          refine mn_iconst (v := 0) dMo_write_110 (by decide) ?_
          refine mn_istore (ls' := [(0, .ref mo), (1, .int (nI pw)), (2, .int (nI (pcN (bg e) (sz - 12) + rp))), (3, .int (nI nd)), (4, .int (nI pw)), (5, .int 0)]) dMo_write_111 (by decide) rfl ?_
          refine mn_iconst (v := 0) dMo_write_113 (by decide) ?_
          refine mn_istore (ls' := [(0, .ref mo), (1, .int (nI pw)), (2, .int (nI (pcN (bg e) (sz - 12) + rp))), (3, .int (nI nd)), (4, .int (nI pw)), (5, .int 0), (6, .int 0)]) dMo_write_114 (by decide) rfl ?_
          exact c_M_wr2 (by omega) he hsz hsz2 hlen hbl hsm hm60 hrp hst hf ((pcN (bg e) (sz - 12) + rp) + 1) 0 g ss sl vl sb0 0 (by omega) (by omega) mn_fr.rf hvl hss hslb hag (by omega) (by rw [rem_0, hndc, Nat.zero_add, Nat.zero_add, Nat.min_def]; split <;> first | omega | (split at hno <;> omega)) hM hSm hBg hSo hSs hVl
        · have c4 := mt (nI_leI (a := pw) (b := (cnt (fun k => ss k = 0) 60)) (by omega) (by omega)).mpr c4
          refine mn_bipush (v := (-3)) dMo_write_107 (by decide) ?_
          exact mn_iret rfl dMo_write_109 (absurd hno (by first | omega | (split <;> omega)))
      · have c3 := mt (nI_leI (a := nd) (b := pw) (by omega) (by omega)).mpr c3
        refine mn_iload 4 dMo_write_95 rfl ?_
        refine mn_iconst (v := 1) dMo_write_97 (by decide) ?_
        refine mn_iadd (z := nI (pw + 1)) dMo_write_98 (nI_add pw 1) ?_
        refine mn_goto 104 dMo_write_99 (by decide) ?_
        refine mn_icmp_ge 110 dMo_write_104 (by decide) (fun c5 => ?_) (fun c5 => ?_)
        · have c5 := (nI_leI (a := (pw + 1)) (b := (cnt (fun k => ss k = 0) 60)) (by omega) (by omega)).mp c5
          refine mn_iconst (v := 0) dMo_write_110 (by decide) ?_
          refine mn_istore (ls' := [(0, .ref mo), (1, .int (nI pw)), (2, .int (nI (pcN (bg e) (sz - 12) + rp))), (3, .int (nI nd)), (4, .int (nI pw)), (5, .int 0)]) dMo_write_111 (by decide) rfl ?_
          refine mn_iconst (v := 0) dMo_write_113 (by decide) ?_
          refine mn_istore (ls' := [(0, .ref mo), (1, .int (nI pw)), (2, .int (nI (pcN (bg e) (sz - 12) + rp))), (3, .int (nI nd)), (4, .int (nI pw)), (5, .int 0), (6, .int 0)]) dMo_write_114 (by decide) rfl ?_
          exact c_M_wr2 (by omega) he hsz hsz2 hlen hbl hsm hm60 hrp hst hf ((pcN (bg e) (sz - 12) + rp) + 1) 0 g ss sl vl sb0 0 (by omega) (by omega) mn_fr.rf hvl hss hslb hag (by omega) (by rw [rem_0, hndc, Nat.zero_add, Nat.zero_add, Nat.min_def]; split <;> first | omega | (split at hno <;> omega)) hM hSm hBg hSo hSs hVl
        · have c5 := mt (nI_leI (a := (pw + 1)) (b := (cnt (fun k => ss k = 0) 60)) (by omega) (by omega)).mpr c5
          refine mn_bipush (v := (-3)) dMo_write_107 (by decide) ?_
          exact mn_iret rfl dMo_write_109 (absurd hno (by first | omega | (split <;> omega)))
    · have c2 := mt (nI_leI (a := pw) (b := nd) (by omega) (by omega)).mpr c2
      exact absurd hpw (by omega)
set_option maxRecDepth 100000 in
theorem c_M_writem_no {E : mn_En} {g : mn_H} {sb0 : Nat → Nat → Nat} {mo tl e sz rp st m r wd ag td om : Nat} {ir : Int32} {sm bg sl ss vl : Nat → Nat} (hM : mn_at g mo (.inr (11, [.int 0, .ref (mo + 1), .int (nI tl), .ref (mo + 2), .ref (mo + 3), .int (nI e), .int (nI sz), .int (nI rp), .int (nI st), .ref (mo + 4), .ref (mo + 5), .ref (mo + 6), .int ir, .int (nI m), .int (nI r), .int (nI wd), .int (nI ag), .ref (mo + 7), .ref (mo + 8), .ref (mo + 9), .ref (mo + 10), .int (nI td), .int (nI om), .ref (mo + 11), .ref (mo + 12), .ref (mo + 13), .ref (mo + 14), .ref (mo + 15), .ref (mo + 16)]))) (hSm : mn_at g (mo + 2) (.inl (0, 1260, .inl (fun j => nI (sm j))))) (hBg : mn_at g (mo + 3) (.inl (0, 21, .inl (fun j => nI (bg j))))) (hSo : mn_at g (mo + 4) (.inl (0, 4800, .inl (fun j => nI (sl j))))) (hSs : mn_at g (mo + 5) (.inl (0, 60, .inl (fun j => nI (ss j))))) (hVl : mn_at g (mo + 6) (.inl (0, 80, .inl (fun j => nI (vl j))))) (he : e ≤ 20) (hsz : 20 ≤ sz) (hsz2 : sz ≤ 80) (hlen : bg e ≤ 1260) (hbl : ∀ k, k < e → bg k < bg e) (hsm : ∀ j, sm j < 256) (hm60 : pcN (bg e) (sz - 12) ≤ 60) (hrp : rp ≤ 3) (hst : st < 256) (hss : ∀ k, ss k ≤ 80) (hslb : ∀ j, sl j < 256) (hag : Agr ss (sbS sl) sb0) (hf : pcN (bg e) (sz - 12) + rp ≤ 60) (hvl : ∀ j, vl j < 256) (hno : cnt (fun k => ss k = 0) 60 < cnt (fun n0 => ¬ hld ss sb0 sz ((fun n0 => vlN (fun _ => 0) (zb sm (bg e)) (LnS (bg e) (sz - 12)) (SnS bg e (sz - 12)) (sz - 12) (pcN (bg e) (sz - 12)) n0 st rp sz) n0)) (pcN (bg e) (sz - 12) + rp)) : mn_R E MMo_write 4 98 0 0 0 [(0, .ref mo), (1, .int (-1))] [] g (fun x g' => x = some (.int (-3)) ∧ mn_fr (fun q => q = mo ∨ q = mo + 4 ∨ q = mo + 5 ∨ q = mo + 6) g g' ∧ mn_at g' mo (.inr (11, [.int 0, .ref (mo + 1), .int (nI tl), .ref (mo + 2), .ref (mo + 3), .int (nI e), .int (nI sz), .int (nI rp), .int (nI st), .ref (mo + 4), .ref (mo + 5), .ref (mo + 6), .int ir, .int (nI m), .int (nI r), .int (nI wd), .int (nI ag), .ref (mo + 7), .ref (mo + 8), .ref (mo + 9), .ref (mo + 10), .int (nI td), .int (nI om), .ref (mo + 11), .ref (mo + 12), .ref (mo + 13), .ref (mo + 14), .ref (mo + 15), .ref (mo + 16)])) ∧ mn_at g' (mo + 4) (.inl (0, 4800, .inl (fun j => nI (sl j)))) ∧ mn_at g' (mo + 5) (.inl (0, 60, .inl (fun j => nI (ss j)))) ∧ ∃ vw : Nat → Nat, mn_at g' (mo + 6) (.inl (0, 80, .inl (fun j => nI (vw j)))) ∧ ∀ j, vw j < 256) := by
  have hpc : pcN (bg e) (sz - 12) < 100000 := by unfold pcN; have := Nat.div_le_self (bg e + (sz - 12) - 1) (sz - 12); rw [Nat.max_def]; split <;> omega
  refine mn_iload_n 1 dMo_write_0 rfl rfl ?_
  refine mn_iconst (v := -1) dMo_write_1 (by decide) ?_
  refine mn_bipush (v := 60) dMo_write_2 (by decide) ?_
  refine mn_cS (d' := 0) (w' := 0) (As := [.int (-1), .int (-1), .int 60]) (stk' := [.int 1]) okMo_in lMo_68 dMo_write_4 rfl rfl (Nat.le_of_ble_eq_true rfl) (Nat.le_of_ble_eq_true rfl) (by decide) (c_M_in_y (by decide) (by decide)) rfl ?_
  refine mn_if_ne 17 dMo_write_7 (by decide) (fun c1 => ?_) (fun c1 => ?_)
  · refine mn_aload_n 0 dMo_write_17 rfl rfl ?_
    refine mn_callV (d' := 2) (w' := 40) (nc' := 0) (ns' := 0) (As := []) (st := []) okMo_volumes lMo_113 dMo_write_18 hM rfl rfl rfl rfl (Nat.le_of_ble_eq_true rfl) (Nat.le_of_ble_eq_true rfl) (by decide) (c_M_volumes hM hBg he hsz hsz2 hrp hlen hf) (fun v g2 hq => ?_)
    obtain ⟨rfl, fg2, hM_g2⟩ := hq
    have hM_g2 : mn_at g2 mo (.inr (11, [.int 0, .ref (mo + 1), .int (nI tl), .ref (mo + 2), .ref (mo + 3), .int (nI e), .int (nI sz), .int (nI rp), .int (nI st), .ref (mo + 4), .ref (mo + 5), .ref (mo + 6), .int ir, .int (nI m), .int (nI r), .int (nI wd), .int (nI ag), .ref (mo + 7), .ref (mo + 8), .ref (mo + 9), .ref (mo + 10), .int (nI td), .int (nI om), .ref (mo + 11), .ref (mo + 12), .ref (mo + 13), .ref (mo + 14), .ref (mo + 15), .ref (mo + 16)])) := hM_g2
    show mn_R E MMo_write 4 98 _ _ 21 [(0, .ref mo), (1, .int (-1))] [.int (nI (pcN (bg e) (sz - 12) + rp))] g2 _
    have hSm_g2 := hSm.fr fg2 (fun h => by have h9 : (mo + 2) = mo := h; omega)
    have hBg_g2 := hBg.fr fg2 (fun h => by have h9 : (mo + 3) = mo := h; omega)
    have hSo_g2 := hSo.fr fg2 (fun h => by have h9 : (mo + 4) = mo := h; omega)
    have hSs_g2 := hSs.fr fg2 (fun h => by have h9 : (mo + 5) = mo := h; omega)
    have hVl_g2 := hVl.fr fg2 (fun h => by have h9 : (mo + 6) = mo := h; omega)
    refine mn_istore_n (ls' := [(0, .ref mo), (1, .int (-1)), (2, .int (nI (pcN (bg e) (sz - 12) + rp)))]) dMo_write_21 rfl (by decide) rfl ?_
    refine mn_iload_n 2 dMo_write_22 rfl rfl ?_
    refine mn_bipush (v := (-3)) dMo_write_23 (by decide) ?_
    refine mn_icmp_ne 31 dMo_write_25 (by decide) (fun c3 => ?_) (fun c3 => ?_)
    · refine mn_iconst (v := 0) dMo_write_31 (by decide) ?_
      refine mn_istore_n (ls' := [(0, .ref mo), (1, .int (-1)), (2, .int (nI (pcN (bg e) (sz - 12) + rp))), (3, .int 0)]) dMo_write_32 rfl (by decide) rfl ?_
      refine mn_iconst (v := 0) dMo_write_33 (by decide) ?_
      refine mn_istore (ls' := [(0, .ref mo), (1, .int (-1)), (2, .int (nI (pcN (bg e) (sz - 12) + rp))), (3, .int 0), (4, .int 0)]) dMo_write_34 (by decide) rfl ?_
      refine c_M_wr1 he hsz hsz2 hlen hbl hsm hm60 hrp hst hss hslb hag hf (fun g8 vl8 f8 hv8 a1 a2 a3 a4 a5 a6 => ?_) ((pcN (bg e) (sz - 12) + rp) + 1) 0 g2 vl (by omega) (by omega) mn_fr.rf hvl hM_g2 hSm_g2 hBg_g2 hSo_g2 hSs_g2 hVl_g2
      have hndl := cnt_le (fun n0 => ¬ hld ss sb0 sz ((fun n0 => vlN (fun _ => 0) (zb sm (bg e)) (LnS (bg e) (sz - 12)) (SnS bg e (sz - 12)) (sz - 12) (pcN (bg e) (sz - 12)) n0 st rp sz) n0)) (pcN (bg e) (sz - 12) + rp)
      refine mn_R.post (c_M_wr3m_no a1 a2 a3 a4 a5 a6 (by omega)  he hsz hsz2 hlen hbl hsm hm60 hrp hst hss hslb hag hf hv8 hno) (fun x g' hq => ?_)
      obtain ⟨rfl, rfl⟩ := hq
      exact ⟨rfl, (mn_fr.rf.tr (fg2.mo (fun q h => by have h9 : q = mo := h; show q = mo ∨ q = mo + 4 ∨ q = mo + 5 ∨ q = mo + 6; omega))).tr (f8.mo (fun q h => by have h9 : q = mo + 6 := h; show q = mo ∨ q = mo + 4 ∨ q = mo + 5 ∨ q = mo + 6; omega)), a1, a4, a5, vl8, a6, hv8⟩
    · exact absurd c3 (nI_nm3 (by omega))
  · exact absurd c1 (by decide)
set_option maxRecDepth 100000 in
theorem c_M_writem {E : mn_En} {g : mn_H} {sb0 : Nat → Nat → Nat} {mo tl e sz rp st m r wd ag td om : Nat} {ir : Int32} {sm bg sl ss vl : Nat → Nat} (hM : mn_at g mo (.inr (11, [.int 0, .ref (mo + 1), .int (nI tl), .ref (mo + 2), .ref (mo + 3), .int (nI e), .int (nI sz), .int (nI rp), .int (nI st), .ref (mo + 4), .ref (mo + 5), .ref (mo + 6), .int ir, .int (nI m), .int (nI r), .int (nI wd), .int (nI ag), .ref (mo + 7), .ref (mo + 8), .ref (mo + 9), .ref (mo + 10), .int (nI td), .int (nI om), .ref (mo + 11), .ref (mo + 12), .ref (mo + 13), .ref (mo + 14), .ref (mo + 15), .ref (mo + 16)]))) (hSm : mn_at g (mo + 2) (.inl (0, 1260, .inl (fun j => nI (sm j))))) (hBg : mn_at g (mo + 3) (.inl (0, 21, .inl (fun j => nI (bg j))))) (hSo : mn_at g (mo + 4) (.inl (0, 4800, .inl (fun j => nI (sl j))))) (hSs : mn_at g (mo + 5) (.inl (0, 60, .inl (fun j => nI (ss j))))) (hVl : mn_at g (mo + 6) (.inl (0, 80, .inl (fun j => nI (vl j))))) (he : e ≤ 20) (hsz : 20 ≤ sz) (hsz2 : sz ≤ 80) (hlen : bg e ≤ 1260) (hbl : ∀ k, k < e → bg k < bg e) (hsm : ∀ j, sm j < 256) (hm60 : pcN (bg e) (sz - 12) ≤ 60) (hrp : rp ≤ 3) (hst : st < 256) (hss : ∀ k, ss k ≤ 80) (hslb : ∀ j, sl j < 256) (hag : Agr ss (sbS sl) sb0) (hf : pcN (bg e) (sz - 12) + rp ≤ 60) (hvl : ∀ j, vl j < 256) (hno : cnt (fun n0 => ¬ hld ss sb0 sz ((fun n0 => vlN (fun _ => 0) (zb sm (bg e)) (LnS (bg e) (sz - 12)) (SnS bg e (sz - 12)) (sz - 12) (pcN (bg e) (sz - 12)) n0 st rp sz) n0)) (pcN (bg e) (sz - 12) + rp) ≤ cnt (fun k => ss k = 0) 60) : mn_R E MMo_write 4 98 0 0 0 [(0, .ref mo), (1, .int (-1))] [] g (fun x g' => x = some (.int (nI (wrK (fun n0 => vlN (fun _ => 0) (zb sm (bg e)) (LnS (bg e) (sz - 12)) (SnS bg e (sz - 12)) (sz - 12) (pcN (bg e) (sz - 12)) n0 st rp sz) sz (pcN (bg e) (sz - 12) + rp) (cnt (fun n0 => ¬ hld ss sb0 sz ((fun n0 => vlN (fun _ => 0) (zb sm (bg e)) (LnS (bg e) (sz - 12)) (SnS bg e (sz - 12)) (sz - 12) (pcN (bg e) (sz - 12)) n0 st rp sz) n0)) (pcN (bg e) (sz - 12) + rp)) (pcN (bg e) (sz - 12) + rp) (ss, sb0, 0)).2.2)) ∧ mn_fr (fun q => q = mo ∨ q = mo + 4 ∨ q = mo + 5 ∨ q = mo + 6) g g' ∧ mn_at g' mo (.inr (11, [.int 0, .ref (mo + 1), .int (nI tl), .ref (mo + 2), .ref (mo + 3), .int (nI e), .int (nI sz), .int (nI rp), .int (nI st), .ref (mo + 4), .ref (mo + 5), .ref (mo + 6), .int ir, .int (nI m), .int (nI r), .int (nI wd), .int (nI ag), .ref (mo + 7), .ref (mo + 8), .ref (mo + 9), .ref (mo + 10), .int (nI td), .int (nI om), .ref (mo + 11), .ref (mo + 12), .ref (mo + 13), .ref (mo + 14), .ref (mo + 15), .ref (mo + 16)])) ∧ (∃ sl' : Nat → Nat, mn_at g' (mo + 4) (.inl (0, 4800, .inl (fun j => nI (sl' j)))) ∧ mn_at g' (mo + 5) (.inl (0, 60, .inl (fun j => nI ((wrK (fun n0 => vlN (fun _ => 0) (zb sm (bg e)) (LnS (bg e) (sz - 12)) (SnS bg e (sz - 12)) (sz - 12) (pcN (bg e) (sz - 12)) n0 st rp sz) sz (pcN (bg e) (sz - 12) + rp) (cnt (fun n0 => ¬ hld ss sb0 sz ((fun n0 => vlN (fun _ => 0) (zb sm (bg e)) (LnS (bg e) (sz - 12)) (SnS bg e (sz - 12)) (sz - 12) (pcN (bg e) (sz - 12)) n0 st rp sz) n0)) (pcN (bg e) (sz - 12) + rp)) (pcN (bg e) (sz - 12) + rp) (ss, sb0, 0)).1 j)))) ∧ Agr (wrK (fun n0 => vlN (fun _ => 0) (zb sm (bg e)) (LnS (bg e) (sz - 12)) (SnS bg e (sz - 12)) (sz - 12) (pcN (bg e) (sz - 12)) n0 st rp sz) sz (pcN (bg e) (sz - 12) + rp) (cnt (fun n0 => ¬ hld ss sb0 sz ((fun n0 => vlN (fun _ => 0) (zb sm (bg e)) (LnS (bg e) (sz - 12)) (SnS bg e (sz - 12)) (sz - 12) (pcN (bg e) (sz - 12)) n0 st rp sz) n0)) (pcN (bg e) (sz - 12) + rp)) (pcN (bg e) (sz - 12) + rp) (ss, sb0, 0)).1 (sbS sl') (wrK (fun n0 => vlN (fun _ => 0) (zb sm (bg e)) (LnS (bg e) (sz - 12)) (SnS bg e (sz - 12)) (sz - 12) (pcN (bg e) (sz - 12)) n0 st rp sz) sz (pcN (bg e) (sz - 12) + rp) (cnt (fun n0 => ¬ hld ss sb0 sz ((fun n0 => vlN (fun _ => 0) (zb sm (bg e)) (LnS (bg e) (sz - 12)) (SnS bg e (sz - 12)) (sz - 12) (pcN (bg e) (sz - 12)) n0 st rp sz) n0)) (pcN (bg e) (sz - 12) + rp)) (pcN (bg e) (sz - 12) + rp) (ss, sb0, 0)).2.1 ∧ ∀ j, sl' j < 256) ∧ ∃ vw : Nat → Nat, mn_at g' (mo + 6) (.inl (0, 80, .inl (fun j => nI (vw j)))) ∧ ∀ j, vw j < 256) := by
  have hpc : pcN (bg e) (sz - 12) < 100000 := by unfold pcN; have := Nat.div_le_self (bg e + (sz - 12) - 1) (sz - 12); rw [Nat.max_def]; split <;> omega
  refine mn_iload_n 1 dMo_write_0 rfl rfl ?_
  refine mn_iconst (v := -1) dMo_write_1 (by decide) ?_
  refine mn_bipush (v := 60) dMo_write_2 (by decide) ?_
  refine mn_cS (d' := 0) (w' := 0) (As := [.int (-1), .int (-1), .int 60]) (stk' := [.int 1]) okMo_in lMo_68 dMo_write_4 rfl rfl (Nat.le_of_ble_eq_true rfl) (Nat.le_of_ble_eq_true rfl) (by decide) (c_M_in_y (by decide) (by decide)) rfl ?_
  refine mn_if_ne 17 dMo_write_7 (by decide) (fun c1 => ?_) (fun c1 => ?_)
  · refine mn_aload_n 0 dMo_write_17 rfl rfl ?_
    refine mn_callV (d' := 2) (w' := 40) (nc' := 0) (ns' := 0) (As := []) (st := []) okMo_volumes lMo_113 dMo_write_18 hM rfl rfl rfl rfl (Nat.le_of_ble_eq_true rfl) (Nat.le_of_ble_eq_true rfl) (by decide) (c_M_volumes hM hBg he hsz hsz2 hrp hlen hf) (fun v g2 hq => ?_)
    obtain ⟨rfl, fg2, hM_g2⟩ := hq
    have hM_g2 : mn_at g2 mo (.inr (11, [.int 0, .ref (mo + 1), .int (nI tl), .ref (mo + 2), .ref (mo + 3), .int (nI e), .int (nI sz), .int (nI rp), .int (nI st), .ref (mo + 4), .ref (mo + 5), .ref (mo + 6), .int ir, .int (nI m), .int (nI r), .int (nI wd), .int (nI ag), .ref (mo + 7), .ref (mo + 8), .ref (mo + 9), .ref (mo + 10), .int (nI td), .int (nI om), .ref (mo + 11), .ref (mo + 12), .ref (mo + 13), .ref (mo + 14), .ref (mo + 15), .ref (mo + 16)])) := hM_g2
    show mn_R E MMo_write 4 98 _ _ 21 [(0, .ref mo), (1, .int (-1))] [.int (nI (pcN (bg e) (sz - 12) + rp))] g2 _
    have hSm_g2 := hSm.fr fg2 (fun h => by have h9 : (mo + 2) = mo := h; omega)
    have hBg_g2 := hBg.fr fg2 (fun h => by have h9 : (mo + 3) = mo := h; omega)
    have hSo_g2 := hSo.fr fg2 (fun h => by have h9 : (mo + 4) = mo := h; omega)
    have hSs_g2 := hSs.fr fg2 (fun h => by have h9 : (mo + 5) = mo := h; omega)
    have hVl_g2 := hVl.fr fg2 (fun h => by have h9 : (mo + 6) = mo := h; omega)
    refine mn_istore_n (ls' := [(0, .ref mo), (1, .int (-1)), (2, .int (nI (pcN (bg e) (sz - 12) + rp)))]) dMo_write_21 rfl (by decide) rfl ?_
    refine mn_iload_n 2 dMo_write_22 rfl rfl ?_
    refine mn_bipush (v := (-3)) dMo_write_23 (by decide) ?_
    refine mn_icmp_ne 31 dMo_write_25 (by decide) (fun c3 => ?_) (fun c3 => ?_)
    · refine mn_iconst (v := 0) dMo_write_31 (by decide) ?_
      refine mn_istore_n (ls' := [(0, .ref mo), (1, .int (-1)), (2, .int (nI (pcN (bg e) (sz - 12) + rp))), (3, .int 0)]) dMo_write_32 rfl (by decide) rfl ?_
      refine mn_iconst (v := 0) dMo_write_33 (by decide) ?_
      refine mn_istore (ls' := [(0, .ref mo), (1, .int (-1)), (2, .int (nI (pcN (bg e) (sz - 12) + rp))), (3, .int 0), (4, .int 0)]) dMo_write_34 (by decide) rfl ?_
      refine c_M_wr1 he hsz hsz2 hlen hbl hsm hm60 hrp hst hss hslb hag hf (fun g8 vl8 f8 hv8 a1 a2 a3 a4 a5 a6 => ?_) ((pcN (bg e) (sz - 12) + rp) + 1) 0 g2 vl (by omega) (by omega) mn_fr.rf hvl hM_g2 hSm_g2 hBg_g2 hSo_g2 hSs_g2 hVl_g2
      have hndl := cnt_le (fun n0 => ¬ hld ss sb0 sz ((fun n0 => vlN (fun _ => 0) (zb sm (bg e)) (LnS (bg e) (sz - 12)) (SnS bg e (sz - 12)) (sz - 12) (pcN (bg e) (sz - 12)) n0 st rp sz) n0)) (pcN (bg e) (sz - 12) + rp)
      refine mn_R.post (c_M_wr3m a1 a2 a3 a4 a5 a6 (by omega)  he hsz hsz2 hlen hbl hsm hm60 hrp hst hss hslb hag hf hv8 hno rfl) (fun x g' hq => ⟨hq.1, ((mn_fr.rf.tr (fg2.mo (fun q h => by have h9 : q = mo := h; show q = mo ∨ q = mo + 4 ∨ q = mo + 5 ∨ q = mo + 6; omega))).tr (f8.mo (fun q h => by have h9 : q = mo + 6 := h; show q = mo ∨ q = mo + 4 ∨ q = mo + 5 ∨ q = mo + 6; omega))).tr (hq.2.1.mo (fun q h => by have h9 : q = mo + 4 ∨ q = mo + 5 ∨ q = mo + 6 := h; show q = mo ∨ q = mo + 4 ∨ q = mo + 5 ∨ q = mo + 6; omega)), a1.fr hq.2.1 (fun h => by have h9 : mo = mo + 4 ∨ mo = mo + 5 ∨ mo = mo + 6 := h; omega), hq.2.2⟩)
    · exact absurd c3 (nI_nm3 (by omega))
  · exact absurd c1 (by decide)
set_option maxRecDepth 100000 in
theorem c_M_writea_no {E : mn_En} {g : mn_H} {sb0 : Nat → Nat → Nat} {mo tl e sz rp st m r wd ag td om : Nat} {ir : Int32} {sm bg sl ss vl : Nat → Nat} (hM : mn_at g mo (.inr (11, [.int 0, .ref (mo + 1), .int (nI tl), .ref (mo + 2), .ref (mo + 3), .int (nI e), .int (nI sz), .int (nI rp), .int (nI st), .ref (mo + 4), .ref (mo + 5), .ref (mo + 6), .int ir, .int (nI m), .int (nI r), .int (nI wd), .int (nI ag), .ref (mo + 7), .ref (mo + 8), .ref (mo + 9), .ref (mo + 10), .int (nI td), .int (nI om), .ref (mo + 11), .ref (mo + 12), .ref (mo + 13), .ref (mo + 14), .ref (mo + 15), .ref (mo + 16)]))) (hSm : mn_at g (mo + 2) (.inl (0, 1260, .inl (fun j => nI (sm j))))) (hBg : mn_at g (mo + 3) (.inl (0, 21, .inl (fun j => nI (bg j))))) (hSo : mn_at g (mo + 4) (.inl (0, 4800, .inl (fun j => nI (sl j))))) (hSs : mn_at g (mo + 5) (.inl (0, 60, .inl (fun j => nI (ss j))))) (hVl : mn_at g (mo + 6) (.inl (0, 80, .inl (fun j => nI (vl j))))) (he : e ≤ 20) (hsz : 20 ≤ sz) (hsz2 : sz ≤ 80) (hlen : bg e ≤ 1260) (hbl : ∀ k, k < e → bg k < bg e) (hsm : ∀ j, sm j < 256) (hm60 : pcN (bg e) (sz - 12) ≤ 60) (hrp : rp ≤ 3) (hst : st < 256) (hss : ∀ k, ss k ≤ 80) (hslb : ∀ j, sl j < 256) (hag : Agr ss (sbS sl) sb0) (hf : pcN (bg e) (sz - 12) + rp ≤ 60) (hvl : ∀ j, vl j < 256) {pw : Nat} (hpw : cnt (fun n0 => ¬ hld ss sb0 sz ((fun n0 => vlN (fun _ => 0) (zb sm (bg e)) (LnS (bg e) (sz - 12)) (SnS bg e (sz - 12)) (sz - 12) (pcN (bg e) (sz - 12)) n0 st rp sz) n0)) (pcN (bg e) (sz - 12) + rp) < pw) (hpw2 : pw ≤ 60) (hno : cnt (fun k => ss k = 0) 60 < cnt (fun n0 => ¬ hld ss sb0 sz ((fun n0 => vlN (fun _ => 0) (zb sm (bg e)) (LnS (bg e) (sz - 12)) (SnS bg e (sz - 12)) (sz - 12) (pcN (bg e) (sz - 12)) n0 st rp sz) n0)) (pcN (bg e) (sz - 12) + rp)) : mn_R E MMo_write 4 98 0 0 0 [(0, .ref mo), (1, .int (nI pw))] [] g (fun x g' => x = some (.int (-3)) ∧ mn_fr (fun q => q = mo ∨ q = mo + 4 ∨ q = mo + 5 ∨ q = mo + 6) g g' ∧ mn_at g' mo (.inr (11, [.int 0, .ref (mo + 1), .int (nI tl), .ref (mo + 2), .ref (mo + 3), .int (nI e), .int (nI sz), .int (nI rp), .int (nI st), .ref (mo + 4), .ref (mo + 5), .ref (mo + 6), .int ir, .int (nI m), .int (nI r), .int (nI wd), .int (nI ag), .ref (mo + 7), .ref (mo + 8), .ref (mo + 9), .ref (mo + 10), .int (nI td), .int (nI om), .ref (mo + 11), .ref (mo + 12), .ref (mo + 13), .ref (mo + 14), .ref (mo + 15), .ref (mo + 16)])) ∧ mn_at g' (mo + 4) (.inl (0, 4800, .inl (fun j => nI (sl j)))) ∧ mn_at g' (mo + 5) (.inl (0, 60, .inl (fun j => nI (ss j)))) ∧ ∃ vw : Nat → Nat, mn_at g' (mo + 6) (.inl (0, 80, .inl (fun j => nI (vw j)))) ∧ ∀ j, vw j < 256) := by
  have hpc : pcN (bg e) (sz - 12) < 100000 := by unfold pcN; have := Nat.div_le_self (bg e + (sz - 12) - 1) (sz - 12); rw [Nat.max_def]; split <;> omega
  refine mn_iload_n 1 dMo_write_0 rfl rfl ?_
  refine mn_iconst (v := -1) dMo_write_1 (by decide) ?_
  refine mn_bipush (v := 60) dMo_write_2 (by decide) ?_
  refine mn_cS (d' := 0) (w' := 0) (As := [.int (nI pw), .int (-1), .int 60]) (stk' := [.int 1]) okMo_in lMo_68 dMo_write_4 rfl rfl (Nat.le_of_ble_eq_true rfl) (Nat.le_of_ble_eq_true rfl) (by decide) (c_M_in_y (nI_nlm1 (by omega)) (ml_lt (a := pw) (b := 60) (by omega) (by omega) hpw2)) rfl ?_
  refine mn_if_ne 17 dMo_write_7 (by decide) (fun c1 => ?_) (fun c1 => ?_)
  · refine mn_aload_n 0 dMo_write_17 rfl rfl ?_
    refine mn_callV (d' := 2) (w' := 40) (nc' := 0) (ns' := 0) (As := []) (st := []) okMo_volumes lMo_113 dMo_write_18 hM rfl rfl rfl rfl (Nat.le_of_ble_eq_true rfl) (Nat.le_of_ble_eq_true rfl) (by decide) (c_M_volumes hM hBg he hsz hsz2 hrp hlen hf) (fun v g2 hq => ?_)
    obtain ⟨rfl, fg2, hM_g2⟩ := hq
    have hM_g2 : mn_at g2 mo (.inr (11, [.int 0, .ref (mo + 1), .int (nI tl), .ref (mo + 2), .ref (mo + 3), .int (nI e), .int (nI sz), .int (nI rp), .int (nI st), .ref (mo + 4), .ref (mo + 5), .ref (mo + 6), .int ir, .int (nI m), .int (nI r), .int (nI wd), .int (nI ag), .ref (mo + 7), .ref (mo + 8), .ref (mo + 9), .ref (mo + 10), .int (nI td), .int (nI om), .ref (mo + 11), .ref (mo + 12), .ref (mo + 13), .ref (mo + 14), .ref (mo + 15), .ref (mo + 16)])) := hM_g2
    show mn_R E MMo_write 4 98 _ _ 21 [(0, .ref mo), (1, .int (nI pw))] [.int (nI (pcN (bg e) (sz - 12) + rp))] g2 _
    have hSm_g2 := hSm.fr fg2 (fun h => by have h9 : (mo + 2) = mo := h; omega)
    have hBg_g2 := hBg.fr fg2 (fun h => by have h9 : (mo + 3) = mo := h; omega)
    have hSo_g2 := hSo.fr fg2 (fun h => by have h9 : (mo + 4) = mo := h; omega)
    have hSs_g2 := hSs.fr fg2 (fun h => by have h9 : (mo + 5) = mo := h; omega)
    have hVl_g2 := hVl.fr fg2 (fun h => by have h9 : (mo + 6) = mo := h; omega)
    refine mn_istore_n (ls' := [(0, .ref mo), (1, .int (nI pw)), (2, .int (nI (pcN (bg e) (sz - 12) + rp)))]) dMo_write_21 rfl (by decide) rfl ?_
    refine mn_iload_n 2 dMo_write_22 rfl rfl ?_
    refine mn_bipush (v := (-3)) dMo_write_23 (by decide) ?_
    refine mn_icmp_ne 31 dMo_write_25 (by decide) (fun c3 => ?_) (fun c3 => ?_)
    · refine mn_iconst (v := 0) dMo_write_31 (by decide) ?_
      refine mn_istore_n (ls' := [(0, .ref mo), (1, .int (nI pw)), (2, .int (nI (pcN (bg e) (sz - 12) + rp))), (3, .int 0)]) dMo_write_32 rfl (by decide) rfl ?_
      refine mn_iconst (v := 0) dMo_write_33 (by decide) ?_
      refine mn_istore (ls' := [(0, .ref mo), (1, .int (nI pw)), (2, .int (nI (pcN (bg e) (sz - 12) + rp))), (3, .int 0), (4, .int 0)]) dMo_write_34 (by decide) rfl ?_
      refine c_M_wr1 he hsz hsz2 hlen hbl hsm hm60 hrp hst hss hslb hag hf (fun g8 vl8 f8 hv8 a1 a2 a3 a4 a5 a6 => ?_) ((pcN (bg e) (sz - 12) + rp) + 1) 0 g2 vl (by omega) (by omega) mn_fr.rf hvl hM_g2 hSm_g2 hBg_g2 hSo_g2 hSs_g2 hVl_g2
      have hndl := cnt_le (fun n0 => ¬ hld ss sb0 sz ((fun n0 => vlN (fun _ => 0) (zb sm (bg e)) (LnS (bg e) (sz - 12)) (SnS bg e (sz - 12)) (sz - 12) (pcN (bg e) (sz - 12)) n0 st rp sz) n0)) (pcN (bg e) (sz - 12) + rp)
      refine mn_R.post (c_M_wr3a_no a1 a2 a3 a4 a5 a6 (by omega) hpw hpw2 he hsz hsz2 hlen hbl hsm hm60 hrp hst hss hslb hag hf hv8 hno) (fun x g' hq => ?_)
      obtain ⟨rfl, rfl⟩ := hq
      exact ⟨rfl, (mn_fr.rf.tr (fg2.mo (fun q h => by have h9 : q = mo := h; show q = mo ∨ q = mo + 4 ∨ q = mo + 5 ∨ q = mo + 6; omega))).tr (f8.mo (fun q h => by have h9 : q = mo + 6 := h; show q = mo ∨ q = mo + 4 ∨ q = mo + 5 ∨ q = mo + 6; omega)), a1, a4, a5, vl8, a6, hv8⟩
    · exact absurd c3 (nI_nm3 (by omega))
  · exact absurd c1 (by decide)
set_option maxRecDepth 100000 in
theorem c_M_writea {E : mn_En} {g : mn_H} {sb0 : Nat → Nat → Nat} {mo tl e sz rp st m r wd ag td om : Nat} {ir : Int32} {sm bg sl ss vl : Nat → Nat} (hM : mn_at g mo (.inr (11, [.int 0, .ref (mo + 1), .int (nI tl), .ref (mo + 2), .ref (mo + 3), .int (nI e), .int (nI sz), .int (nI rp), .int (nI st), .ref (mo + 4), .ref (mo + 5), .ref (mo + 6), .int ir, .int (nI m), .int (nI r), .int (nI wd), .int (nI ag), .ref (mo + 7), .ref (mo + 8), .ref (mo + 9), .ref (mo + 10), .int (nI td), .int (nI om), .ref (mo + 11), .ref (mo + 12), .ref (mo + 13), .ref (mo + 14), .ref (mo + 15), .ref (mo + 16)]))) (hSm : mn_at g (mo + 2) (.inl (0, 1260, .inl (fun j => nI (sm j))))) (hBg : mn_at g (mo + 3) (.inl (0, 21, .inl (fun j => nI (bg j))))) (hSo : mn_at g (mo + 4) (.inl (0, 4800, .inl (fun j => nI (sl j))))) (hSs : mn_at g (mo + 5) (.inl (0, 60, .inl (fun j => nI (ss j))))) (hVl : mn_at g (mo + 6) (.inl (0, 80, .inl (fun j => nI (vl j))))) (he : e ≤ 20) (hsz : 20 ≤ sz) (hsz2 : sz ≤ 80) (hlen : bg e ≤ 1260) (hbl : ∀ k, k < e → bg k < bg e) (hsm : ∀ j, sm j < 256) (hm60 : pcN (bg e) (sz - 12) ≤ 60) (hrp : rp ≤ 3) (hst : st < 256) (hss : ∀ k, ss k ≤ 80) (hslb : ∀ j, sl j < 256) (hag : Agr ss (sbS sl) sb0) (hf : pcN (bg e) (sz - 12) + rp ≤ 60) (hvl : ∀ j, vl j < 256) {pw : Nat} (hpw : cnt (fun n0 => ¬ hld ss sb0 sz ((fun n0 => vlN (fun _ => 0) (zb sm (bg e)) (LnS (bg e) (sz - 12)) (SnS bg e (sz - 12)) (sz - 12) (pcN (bg e) (sz - 12)) n0 st rp sz) n0)) (pcN (bg e) (sz - 12) + rp) < pw) (hpw2 : pw ≤ 60) (hno : cnt (fun n0 => ¬ hld ss sb0 sz ((fun n0 => vlN (fun _ => 0) (zb sm (bg e)) (LnS (bg e) (sz - 12)) (SnS bg e (sz - 12)) (sz - 12) (pcN (bg e) (sz - 12)) n0 st rp sz) n0)) (pcN (bg e) (sz - 12) + rp) ≤ cnt (fun k => ss k = 0) 60) : mn_R E MMo_write 4 98 0 0 0 [(0, .ref mo), (1, .int (nI pw))] [] g (fun x g' => x = some (.int (nI (wrK (fun n0 => vlN (fun _ => 0) (zb sm (bg e)) (LnS (bg e) (sz - 12)) (SnS bg e (sz - 12)) (sz - 12) (pcN (bg e) (sz - 12)) n0 st rp sz) sz (pcN (bg e) (sz - 12) + rp) (cnt (fun n0 => ¬ hld ss sb0 sz ((fun n0 => vlN (fun _ => 0) (zb sm (bg e)) (LnS (bg e) (sz - 12)) (SnS bg e (sz - 12)) (sz - 12) (pcN (bg e) (sz - 12)) n0 st rp sz) n0)) (pcN (bg e) (sz - 12) + rp)) (pcN (bg e) (sz - 12) + rp) (ss, sb0, 0)).2.2)) ∧ mn_fr (fun q => q = mo ∨ q = mo + 4 ∨ q = mo + 5 ∨ q = mo + 6) g g' ∧ mn_at g' mo (.inr (11, [.int 0, .ref (mo + 1), .int (nI tl), .ref (mo + 2), .ref (mo + 3), .int (nI e), .int (nI sz), .int (nI rp), .int (nI st), .ref (mo + 4), .ref (mo + 5), .ref (mo + 6), .int ir, .int (nI m), .int (nI r), .int (nI wd), .int (nI ag), .ref (mo + 7), .ref (mo + 8), .ref (mo + 9), .ref (mo + 10), .int (nI td), .int (nI om), .ref (mo + 11), .ref (mo + 12), .ref (mo + 13), .ref (mo + 14), .ref (mo + 15), .ref (mo + 16)])) ∧ (∃ sl' : Nat → Nat, mn_at g' (mo + 4) (.inl (0, 4800, .inl (fun j => nI (sl' j)))) ∧ mn_at g' (mo + 5) (.inl (0, 60, .inl (fun j => nI ((wrK (fun n0 => vlN (fun _ => 0) (zb sm (bg e)) (LnS (bg e) (sz - 12)) (SnS bg e (sz - 12)) (sz - 12) (pcN (bg e) (sz - 12)) n0 st rp sz) sz (pcN (bg e) (sz - 12) + rp) (cnt (fun n0 => ¬ hld ss sb0 sz ((fun n0 => vlN (fun _ => 0) (zb sm (bg e)) (LnS (bg e) (sz - 12)) (SnS bg e (sz - 12)) (sz - 12) (pcN (bg e) (sz - 12)) n0 st rp sz) n0)) (pcN (bg e) (sz - 12) + rp)) (pcN (bg e) (sz - 12) + rp) (ss, sb0, 0)).1 j)))) ∧ Agr (wrK (fun n0 => vlN (fun _ => 0) (zb sm (bg e)) (LnS (bg e) (sz - 12)) (SnS bg e (sz - 12)) (sz - 12) (pcN (bg e) (sz - 12)) n0 st rp sz) sz (pcN (bg e) (sz - 12) + rp) (cnt (fun n0 => ¬ hld ss sb0 sz ((fun n0 => vlN (fun _ => 0) (zb sm (bg e)) (LnS (bg e) (sz - 12)) (SnS bg e (sz - 12)) (sz - 12) (pcN (bg e) (sz - 12)) n0 st rp sz) n0)) (pcN (bg e) (sz - 12) + rp)) (pcN (bg e) (sz - 12) + rp) (ss, sb0, 0)).1 (sbS sl') (wrK (fun n0 => vlN (fun _ => 0) (zb sm (bg e)) (LnS (bg e) (sz - 12)) (SnS bg e (sz - 12)) (sz - 12) (pcN (bg e) (sz - 12)) n0 st rp sz) sz (pcN (bg e) (sz - 12) + rp) (cnt (fun n0 => ¬ hld ss sb0 sz ((fun n0 => vlN (fun _ => 0) (zb sm (bg e)) (LnS (bg e) (sz - 12)) (SnS bg e (sz - 12)) (sz - 12) (pcN (bg e) (sz - 12)) n0 st rp sz) n0)) (pcN (bg e) (sz - 12) + rp)) (pcN (bg e) (sz - 12) + rp) (ss, sb0, 0)).2.1 ∧ ∀ j, sl' j < 256) ∧ ∃ vw : Nat → Nat, mn_at g' (mo + 6) (.inl (0, 80, .inl (fun j => nI (vw j)))) ∧ ∀ j, vw j < 256) := by
  have hpc : pcN (bg e) (sz - 12) < 100000 := by unfold pcN; have := Nat.div_le_self (bg e + (sz - 12) - 1) (sz - 12); rw [Nat.max_def]; split <;> omega
  refine mn_iload_n 1 dMo_write_0 rfl rfl ?_
  refine mn_iconst (v := -1) dMo_write_1 (by decide) ?_
  refine mn_bipush (v := 60) dMo_write_2 (by decide) ?_
  refine mn_cS (d' := 0) (w' := 0) (As := [.int (nI pw), .int (-1), .int 60]) (stk' := [.int 1]) okMo_in lMo_68 dMo_write_4 rfl rfl (Nat.le_of_ble_eq_true rfl) (Nat.le_of_ble_eq_true rfl) (by decide) (c_M_in_y (nI_nlm1 (by omega)) (ml_lt (a := pw) (b := 60) (by omega) (by omega) hpw2)) rfl ?_
  refine mn_if_ne 17 dMo_write_7 (by decide) (fun c1 => ?_) (fun c1 => ?_)
  · refine mn_aload_n 0 dMo_write_17 rfl rfl ?_
    refine mn_callV (d' := 2) (w' := 40) (nc' := 0) (ns' := 0) (As := []) (st := []) okMo_volumes lMo_113 dMo_write_18 hM rfl rfl rfl rfl (Nat.le_of_ble_eq_true rfl) (Nat.le_of_ble_eq_true rfl) (by decide) (c_M_volumes hM hBg he hsz hsz2 hrp hlen hf) (fun v g2 hq => ?_)
    obtain ⟨rfl, fg2, hM_g2⟩ := hq
    have hM_g2 : mn_at g2 mo (.inr (11, [.int 0, .ref (mo + 1), .int (nI tl), .ref (mo + 2), .ref (mo + 3), .int (nI e), .int (nI sz), .int (nI rp), .int (nI st), .ref (mo + 4), .ref (mo + 5), .ref (mo + 6), .int ir, .int (nI m), .int (nI r), .int (nI wd), .int (nI ag), .ref (mo + 7), .ref (mo + 8), .ref (mo + 9), .ref (mo + 10), .int (nI td), .int (nI om), .ref (mo + 11), .ref (mo + 12), .ref (mo + 13), .ref (mo + 14), .ref (mo + 15), .ref (mo + 16)])) := hM_g2
    show mn_R E MMo_write 4 98 _ _ 21 [(0, .ref mo), (1, .int (nI pw))] [.int (nI (pcN (bg e) (sz - 12) + rp))] g2 _
    have hSm_g2 := hSm.fr fg2 (fun h => by have h9 : (mo + 2) = mo := h; omega)
    have hBg_g2 := hBg.fr fg2 (fun h => by have h9 : (mo + 3) = mo := h; omega)
    have hSo_g2 := hSo.fr fg2 (fun h => by have h9 : (mo + 4) = mo := h; omega)
    have hSs_g2 := hSs.fr fg2 (fun h => by have h9 : (mo + 5) = mo := h; omega)
    have hVl_g2 := hVl.fr fg2 (fun h => by have h9 : (mo + 6) = mo := h; omega)
    refine mn_istore_n (ls' := [(0, .ref mo), (1, .int (nI pw)), (2, .int (nI (pcN (bg e) (sz - 12) + rp)))]) dMo_write_21 rfl (by decide) rfl ?_
    refine mn_iload_n 2 dMo_write_22 rfl rfl ?_
    refine mn_bipush (v := (-3)) dMo_write_23 (by decide) ?_
    refine mn_icmp_ne 31 dMo_write_25 (by decide) (fun c3 => ?_) (fun c3 => ?_)
    · refine mn_iconst (v := 0) dMo_write_31 (by decide) ?_
      refine mn_istore_n (ls' := [(0, .ref mo), (1, .int (nI pw)), (2, .int (nI (pcN (bg e) (sz - 12) + rp))), (3, .int 0)]) dMo_write_32 rfl (by decide) rfl ?_
      refine mn_iconst (v := 0) dMo_write_33 (by decide) ?_
      refine mn_istore (ls' := [(0, .ref mo), (1, .int (nI pw)), (2, .int (nI (pcN (bg e) (sz - 12) + rp))), (3, .int 0), (4, .int 0)]) dMo_write_34 (by decide) rfl ?_
      refine c_M_wr1 he hsz hsz2 hlen hbl hsm hm60 hrp hst hss hslb hag hf (fun g8 vl8 f8 hv8 a1 a2 a3 a4 a5 a6 => ?_) ((pcN (bg e) (sz - 12) + rp) + 1) 0 g2 vl (by omega) (by omega) mn_fr.rf hvl hM_g2 hSm_g2 hBg_g2 hSo_g2 hSs_g2 hVl_g2
      have hndl := cnt_le (fun n0 => ¬ hld ss sb0 sz ((fun n0 => vlN (fun _ => 0) (zb sm (bg e)) (LnS (bg e) (sz - 12)) (SnS bg e (sz - 12)) (sz - 12) (pcN (bg e) (sz - 12)) n0 st rp sz) n0)) (pcN (bg e) (sz - 12) + rp)
      refine mn_R.post (c_M_wr3a a1 a2 a3 a4 a5 a6 (by omega) hpw hpw2 he hsz hsz2 hlen hbl hsm hm60 hrp hst hss hslb hag hf hv8 hno rfl) (fun x g' hq => ⟨hq.1, ((mn_fr.rf.tr (fg2.mo (fun q h => by have h9 : q = mo := h; show q = mo ∨ q = mo + 4 ∨ q = mo + 5 ∨ q = mo + 6; omega))).tr (f8.mo (fun q h => by have h9 : q = mo + 6 := h; show q = mo ∨ q = mo + 4 ∨ q = mo + 5 ∨ q = mo + 6; omega))).tr (hq.2.1.mo (fun q h => by have h9 : q = mo + 4 ∨ q = mo + 5 ∨ q = mo + 6 := h; show q = mo ∨ q = mo + 4 ∨ q = mo + 5 ∨ q = mo + 6; omega)), a1.fr hq.2.1 (fun h => by have h9 : mo = mo + 4 ∨ mo = mo + 5 ∨ mo = mo + 6 := h; omega), hq.2.2⟩)
    · exact absurd c3 (nI_nm3 (by omega))
  · exact absurd c1 (by decide)
set_option maxRecDepth 100000 in
theorem c_M_writeb_no {E : mn_En} {g : mn_H} {sb0 : Nat → Nat → Nat} {mo tl e sz rp st m r wd ag td om : Nat} {ir : Int32} {sm bg sl ss vl : Nat → Nat} (hM : mn_at g mo (.inr (11, [.int 0, .ref (mo + 1), .int (nI tl), .ref (mo + 2), .ref (mo + 3), .int (nI e), .int (nI sz), .int (nI rp), .int (nI st), .ref (mo + 4), .ref (mo + 5), .ref (mo + 6), .int ir, .int (nI m), .int (nI r), .int (nI wd), .int (nI ag), .ref (mo + 7), .ref (mo + 8), .ref (mo + 9), .ref (mo + 10), .int (nI td), .int (nI om), .ref (mo + 11), .ref (mo + 12), .ref (mo + 13), .ref (mo + 14), .ref (mo + 15), .ref (mo + 16)]))) (hSm : mn_at g (mo + 2) (.inl (0, 1260, .inl (fun j => nI (sm j))))) (hBg : mn_at g (mo + 3) (.inl (0, 21, .inl (fun j => nI (bg j))))) (hSo : mn_at g (mo + 4) (.inl (0, 4800, .inl (fun j => nI (sl j))))) (hSs : mn_at g (mo + 5) (.inl (0, 60, .inl (fun j => nI (ss j))))) (hVl : mn_at g (mo + 6) (.inl (0, 80, .inl (fun j => nI (vl j))))) (he : e ≤ 20) (hsz : 20 ≤ sz) (hsz2 : sz ≤ 80) (hlen : bg e ≤ 1260) (hbl : ∀ k, k < e → bg k < bg e) (hsm : ∀ j, sm j < 256) (hm60 : pcN (bg e) (sz - 12) ≤ 60) (hrp : rp ≤ 3) (hst : st < 256) (hss : ∀ k, ss k ≤ 80) (hslb : ∀ j, sl j < 256) (hag : Agr ss (sbS sl) sb0) (hf : pcN (bg e) (sz - 12) + rp ≤ 60) (hvl : ∀ j, vl j < 256) {pw : Nat} (hpw : pw ≤ cnt (fun n0 => ¬ hld ss sb0 sz ((fun n0 => vlN (fun _ => 0) (zb sm (bg e)) (LnS (bg e) (sz - 12)) (SnS bg e (sz - 12)) (sz - 12) (pcN (bg e) (sz - 12)) n0 st rp sz) n0)) (pcN (bg e) (sz - 12) + rp)) (hpw2 : pw ≤ 60) (hno : cnt (fun k => ss k = 0) 60 < (if pw < cnt (fun n0 => ¬ hld ss sb0 sz ((fun n0 => vlN (fun _ => 0) (zb sm (bg e)) (LnS (bg e) (sz - 12)) (SnS bg e (sz - 12)) (sz - 12) (pcN (bg e) (sz - 12)) n0 st rp sz) n0)) (pcN (bg e) (sz - 12) + rp) then pw + 1 else pw)) : mn_R E MMo_write 4 98 0 0 0 [(0, .ref mo), (1, .int (nI pw))] [] g (fun x g' => x = some (.int (-3)) ∧ mn_fr (fun q => q = mo ∨ q = mo + 4 ∨ q = mo + 5 ∨ q = mo + 6) g g' ∧ mn_at g' mo (.inr (11, [.int 0, .ref (mo + 1), .int (nI tl), .ref (mo + 2), .ref (mo + 3), .int (nI e), .int (nI sz), .int (nI rp), .int (nI st), .ref (mo + 4), .ref (mo + 5), .ref (mo + 6), .int ir, .int (nI m), .int (nI r), .int (nI wd), .int (nI ag), .ref (mo + 7), .ref (mo + 8), .ref (mo + 9), .ref (mo + 10), .int (nI td), .int (nI om), .ref (mo + 11), .ref (mo + 12), .ref (mo + 13), .ref (mo + 14), .ref (mo + 15), .ref (mo + 16)])) ∧ mn_at g' (mo + 4) (.inl (0, 4800, .inl (fun j => nI (sl j)))) ∧ mn_at g' (mo + 5) (.inl (0, 60, .inl (fun j => nI (ss j)))) ∧ ∃ vw : Nat → Nat, mn_at g' (mo + 6) (.inl (0, 80, .inl (fun j => nI (vw j)))) ∧ ∀ j, vw j < 256) := by
  have hpc : pcN (bg e) (sz - 12) < 100000 := by unfold pcN; have := Nat.div_le_self (bg e + (sz - 12) - 1) (sz - 12); rw [Nat.max_def]; split <;> omega
  refine mn_iload_n 1 dMo_write_0 rfl rfl ?_
  refine mn_iconst (v := -1) dMo_write_1 (by decide) ?_
  refine mn_bipush (v := 60) dMo_write_2 (by decide) ?_
  refine mn_cS (d' := 0) (w' := 0) (As := [.int (nI pw), .int (-1), .int 60]) (stk' := [.int 1]) okMo_in lMo_68 dMo_write_4 rfl rfl (Nat.le_of_ble_eq_true rfl) (Nat.le_of_ble_eq_true rfl) (by decide) (c_M_in_y (nI_nlm1 (by omega)) (ml_lt (a := pw) (b := 60) (by omega) (by omega) hpw2)) rfl ?_
  refine mn_if_ne 17 dMo_write_7 (by decide) (fun c1 => ?_) (fun c1 => ?_)
  · refine mn_aload_n 0 dMo_write_17 rfl rfl ?_
    refine mn_callV (d' := 2) (w' := 40) (nc' := 0) (ns' := 0) (As := []) (st := []) okMo_volumes lMo_113 dMo_write_18 hM rfl rfl rfl rfl (Nat.le_of_ble_eq_true rfl) (Nat.le_of_ble_eq_true rfl) (by decide) (c_M_volumes hM hBg he hsz hsz2 hrp hlen hf) (fun v g2 hq => ?_)
    obtain ⟨rfl, fg2, hM_g2⟩ := hq
    have hM_g2 : mn_at g2 mo (.inr (11, [.int 0, .ref (mo + 1), .int (nI tl), .ref (mo + 2), .ref (mo + 3), .int (nI e), .int (nI sz), .int (nI rp), .int (nI st), .ref (mo + 4), .ref (mo + 5), .ref (mo + 6), .int ir, .int (nI m), .int (nI r), .int (nI wd), .int (nI ag), .ref (mo + 7), .ref (mo + 8), .ref (mo + 9), .ref (mo + 10), .int (nI td), .int (nI om), .ref (mo + 11), .ref (mo + 12), .ref (mo + 13), .ref (mo + 14), .ref (mo + 15), .ref (mo + 16)])) := hM_g2
    show mn_R E MMo_write 4 98 _ _ 21 [(0, .ref mo), (1, .int (nI pw))] [.int (nI (pcN (bg e) (sz - 12) + rp))] g2 _
    have hSm_g2 := hSm.fr fg2 (fun h => by have h9 : (mo + 2) = mo := h; omega)
    have hBg_g2 := hBg.fr fg2 (fun h => by have h9 : (mo + 3) = mo := h; omega)
    have hSo_g2 := hSo.fr fg2 (fun h => by have h9 : (mo + 4) = mo := h; omega)
    have hSs_g2 := hSs.fr fg2 (fun h => by have h9 : (mo + 5) = mo := h; omega)
    have hVl_g2 := hVl.fr fg2 (fun h => by have h9 : (mo + 6) = mo := h; omega)
    refine mn_istore_n (ls' := [(0, .ref mo), (1, .int (nI pw)), (2, .int (nI (pcN (bg e) (sz - 12) + rp)))]) dMo_write_21 rfl (by decide) rfl ?_
    refine mn_iload_n 2 dMo_write_22 rfl rfl ?_
    refine mn_bipush (v := (-3)) dMo_write_23 (by decide) ?_
    refine mn_icmp_ne 31 dMo_write_25 (by decide) (fun c3 => ?_) (fun c3 => ?_)
    · refine mn_iconst (v := 0) dMo_write_31 (by decide) ?_
      refine mn_istore_n (ls' := [(0, .ref mo), (1, .int (nI pw)), (2, .int (nI (pcN (bg e) (sz - 12) + rp))), (3, .int 0)]) dMo_write_32 rfl (by decide) rfl ?_
      refine mn_iconst (v := 0) dMo_write_33 (by decide) ?_
      refine mn_istore (ls' := [(0, .ref mo), (1, .int (nI pw)), (2, .int (nI (pcN (bg e) (sz - 12) + rp))), (3, .int 0), (4, .int 0)]) dMo_write_34 (by decide) rfl ?_
      refine c_M_wr1 he hsz hsz2 hlen hbl hsm hm60 hrp hst hss hslb hag hf (fun g8 vl8 f8 hv8 a1 a2 a3 a4 a5 a6 => ?_) ((pcN (bg e) (sz - 12) + rp) + 1) 0 g2 vl (by omega) (by omega) mn_fr.rf hvl hM_g2 hSm_g2 hBg_g2 hSo_g2 hSs_g2 hVl_g2
      have hndl := cnt_le (fun n0 => ¬ hld ss sb0 sz ((fun n0 => vlN (fun _ => 0) (zb sm (bg e)) (LnS (bg e) (sz - 12)) (SnS bg e (sz - 12)) (sz - 12) (pcN (bg e) (sz - 12)) n0 st rp sz) n0)) (pcN (bg e) (sz - 12) + rp)
      refine mn_R.post (c_M_wr3b_no a1 a2 a3 a4 a5 a6 (by omega) hpw hpw2 he hsz hsz2 hlen hbl hsm hm60 hrp hst hss hslb hag hf hv8 hno) (fun x g' hq => ?_)
      obtain ⟨rfl, rfl⟩ := hq
      exact ⟨rfl, (mn_fr.rf.tr (fg2.mo (fun q h => by have h9 : q = mo := h; show q = mo ∨ q = mo + 4 ∨ q = mo + 5 ∨ q = mo + 6; omega))).tr (f8.mo (fun q h => by have h9 : q = mo + 6 := h; show q = mo ∨ q = mo + 4 ∨ q = mo + 5 ∨ q = mo + 6; omega)), a1, a4, a5, vl8, a6, hv8⟩
    · exact absurd c3 (nI_nm3 (by omega))
  · exact absurd c1 (by decide)
set_option maxRecDepth 100000 in
theorem c_M_writeb {E : mn_En} {g : mn_H} {sb0 : Nat → Nat → Nat} {mo tl e sz rp st m r wd ag td om : Nat} {ir : Int32} {sm bg sl ss vl : Nat → Nat} (hM : mn_at g mo (.inr (11, [.int 0, .ref (mo + 1), .int (nI tl), .ref (mo + 2), .ref (mo + 3), .int (nI e), .int (nI sz), .int (nI rp), .int (nI st), .ref (mo + 4), .ref (mo + 5), .ref (mo + 6), .int ir, .int (nI m), .int (nI r), .int (nI wd), .int (nI ag), .ref (mo + 7), .ref (mo + 8), .ref (mo + 9), .ref (mo + 10), .int (nI td), .int (nI om), .ref (mo + 11), .ref (mo + 12), .ref (mo + 13), .ref (mo + 14), .ref (mo + 15), .ref (mo + 16)]))) (hSm : mn_at g (mo + 2) (.inl (0, 1260, .inl (fun j => nI (sm j))))) (hBg : mn_at g (mo + 3) (.inl (0, 21, .inl (fun j => nI (bg j))))) (hSo : mn_at g (mo + 4) (.inl (0, 4800, .inl (fun j => nI (sl j))))) (hSs : mn_at g (mo + 5) (.inl (0, 60, .inl (fun j => nI (ss j))))) (hVl : mn_at g (mo + 6) (.inl (0, 80, .inl (fun j => nI (vl j))))) (he : e ≤ 20) (hsz : 20 ≤ sz) (hsz2 : sz ≤ 80) (hlen : bg e ≤ 1260) (hbl : ∀ k, k < e → bg k < bg e) (hsm : ∀ j, sm j < 256) (hm60 : pcN (bg e) (sz - 12) ≤ 60) (hrp : rp ≤ 3) (hst : st < 256) (hss : ∀ k, ss k ≤ 80) (hslb : ∀ j, sl j < 256) (hag : Agr ss (sbS sl) sb0) (hf : pcN (bg e) (sz - 12) + rp ≤ 60) (hvl : ∀ j, vl j < 256) {pw : Nat} (hpw : pw ≤ cnt (fun n0 => ¬ hld ss sb0 sz ((fun n0 => vlN (fun _ => 0) (zb sm (bg e)) (LnS (bg e) (sz - 12)) (SnS bg e (sz - 12)) (sz - 12) (pcN (bg e) (sz - 12)) n0 st rp sz) n0)) (pcN (bg e) (sz - 12) + rp)) (hpw2 : pw ≤ 60) (hno : (if pw < cnt (fun n0 => ¬ hld ss sb0 sz ((fun n0 => vlN (fun _ => 0) (zb sm (bg e)) (LnS (bg e) (sz - 12)) (SnS bg e (sz - 12)) (sz - 12) (pcN (bg e) (sz - 12)) n0 st rp sz) n0)) (pcN (bg e) (sz - 12) + rp) then pw + 1 else pw) ≤ cnt (fun k => ss k = 0) 60) : mn_R E MMo_write 4 98 0 0 0 [(0, .ref mo), (1, .int (nI pw))] [] g (fun x g' => x = some (.int (nI (wrK (fun n0 => vlN (fun _ => 0) (zb sm (bg e)) (LnS (bg e) (sz - 12)) (SnS bg e (sz - 12)) (sz - 12) (pcN (bg e) (sz - 12)) n0 st rp sz) sz (pcN (bg e) (sz - 12) + rp) (pw) (pcN (bg e) (sz - 12) + rp) (ss, sb0, 0)).2.2)) ∧ mn_fr (fun q => q = mo ∨ q = mo + 4 ∨ q = mo + 5 ∨ q = mo + 6) g g' ∧ mn_at g' mo (.inr (11, [.int 0, .ref (mo + 1), .int (nI tl), .ref (mo + 2), .ref (mo + 3), .int (nI e), .int (nI sz), .int (nI rp), .int (nI st), .ref (mo + 4), .ref (mo + 5), .ref (mo + 6), .int ir, .int (nI m), .int (nI r), .int (nI wd), .int (nI ag), .ref (mo + 7), .ref (mo + 8), .ref (mo + 9), .ref (mo + 10), .int (nI td), .int (nI om), .ref (mo + 11), .ref (mo + 12), .ref (mo + 13), .ref (mo + 14), .ref (mo + 15), .ref (mo + 16)])) ∧ (∃ sl' : Nat → Nat, mn_at g' (mo + 4) (.inl (0, 4800, .inl (fun j => nI (sl' j)))) ∧ mn_at g' (mo + 5) (.inl (0, 60, .inl (fun j => nI ((wrK (fun n0 => vlN (fun _ => 0) (zb sm (bg e)) (LnS (bg e) (sz - 12)) (SnS bg e (sz - 12)) (sz - 12) (pcN (bg e) (sz - 12)) n0 st rp sz) sz (pcN (bg e) (sz - 12) + rp) (pw) (pcN (bg e) (sz - 12) + rp) (ss, sb0, 0)).1 j)))) ∧ Agr (wrK (fun n0 => vlN (fun _ => 0) (zb sm (bg e)) (LnS (bg e) (sz - 12)) (SnS bg e (sz - 12)) (sz - 12) (pcN (bg e) (sz - 12)) n0 st rp sz) sz (pcN (bg e) (sz - 12) + rp) (pw) (pcN (bg e) (sz - 12) + rp) (ss, sb0, 0)).1 (sbS sl') (wrK (fun n0 => vlN (fun _ => 0) (zb sm (bg e)) (LnS (bg e) (sz - 12)) (SnS bg e (sz - 12)) (sz - 12) (pcN (bg e) (sz - 12)) n0 st rp sz) sz (pcN (bg e) (sz - 12) + rp) (pw) (pcN (bg e) (sz - 12) + rp) (ss, sb0, 0)).2.1 ∧ ∀ j, sl' j < 256) ∧ ∃ vw : Nat → Nat, mn_at g' (mo + 6) (.inl (0, 80, .inl (fun j => nI (vw j)))) ∧ ∀ j, vw j < 256) := by
  have hpc : pcN (bg e) (sz - 12) < 100000 := by unfold pcN; have := Nat.div_le_self (bg e + (sz - 12) - 1) (sz - 12); rw [Nat.max_def]; split <;> omega
  refine mn_iload_n 1 dMo_write_0 rfl rfl ?_
  refine mn_iconst (v := -1) dMo_write_1 (by decide) ?_
  refine mn_bipush (v := 60) dMo_write_2 (by decide) ?_
  refine mn_cS (d' := 0) (w' := 0) (As := [.int (nI pw), .int (-1), .int 60]) (stk' := [.int 1]) okMo_in lMo_68 dMo_write_4 rfl rfl (Nat.le_of_ble_eq_true rfl) (Nat.le_of_ble_eq_true rfl) (by decide) (c_M_in_y (nI_nlm1 (by omega)) (ml_lt (a := pw) (b := 60) (by omega) (by omega) hpw2)) rfl ?_
  refine mn_if_ne 17 dMo_write_7 (by decide) (fun c1 => ?_) (fun c1 => ?_)
  · refine mn_aload_n 0 dMo_write_17 rfl rfl ?_
    refine mn_callV (d' := 2) (w' := 40) (nc' := 0) (ns' := 0) (As := []) (st := []) okMo_volumes lMo_113 dMo_write_18 hM rfl rfl rfl rfl (Nat.le_of_ble_eq_true rfl) (Nat.le_of_ble_eq_true rfl) (by decide) (c_M_volumes hM hBg he hsz hsz2 hrp hlen hf) (fun v g2 hq => ?_)
    obtain ⟨rfl, fg2, hM_g2⟩ := hq
    have hM_g2 : mn_at g2 mo (.inr (11, [.int 0, .ref (mo + 1), .int (nI tl), .ref (mo + 2), .ref (mo + 3), .int (nI e), .int (nI sz), .int (nI rp), .int (nI st), .ref (mo + 4), .ref (mo + 5), .ref (mo + 6), .int ir, .int (nI m), .int (nI r), .int (nI wd), .int (nI ag), .ref (mo + 7), .ref (mo + 8), .ref (mo + 9), .ref (mo + 10), .int (nI td), .int (nI om), .ref (mo + 11), .ref (mo + 12), .ref (mo + 13), .ref (mo + 14), .ref (mo + 15), .ref (mo + 16)])) := hM_g2
    show mn_R E MMo_write 4 98 _ _ 21 [(0, .ref mo), (1, .int (nI pw))] [.int (nI (pcN (bg e) (sz - 12) + rp))] g2 _
    have hSm_g2 := hSm.fr fg2 (fun h => by have h9 : (mo + 2) = mo := h; omega)
    have hBg_g2 := hBg.fr fg2 (fun h => by have h9 : (mo + 3) = mo := h; omega)
    have hSo_g2 := hSo.fr fg2 (fun h => by have h9 : (mo + 4) = mo := h; omega)
    have hSs_g2 := hSs.fr fg2 (fun h => by have h9 : (mo + 5) = mo := h; omega)
    have hVl_g2 := hVl.fr fg2 (fun h => by have h9 : (mo + 6) = mo := h; omega)
    refine mn_istore_n (ls' := [(0, .ref mo), (1, .int (nI pw)), (2, .int (nI (pcN (bg e) (sz - 12) + rp)))]) dMo_write_21 rfl (by decide) rfl ?_
    refine mn_iload_n 2 dMo_write_22 rfl rfl ?_
    refine mn_bipush (v := (-3)) dMo_write_23 (by decide) ?_
    refine mn_icmp_ne 31 dMo_write_25 (by decide) (fun c3 => ?_) (fun c3 => ?_)
    · refine mn_iconst (v := 0) dMo_write_31 (by decide) ?_
      refine mn_istore_n (ls' := [(0, .ref mo), (1, .int (nI pw)), (2, .int (nI (pcN (bg e) (sz - 12) + rp))), (3, .int 0)]) dMo_write_32 rfl (by decide) rfl ?_
      refine mn_iconst (v := 0) dMo_write_33 (by decide) ?_
      refine mn_istore (ls' := [(0, .ref mo), (1, .int (nI pw)), (2, .int (nI (pcN (bg e) (sz - 12) + rp))), (3, .int 0), (4, .int 0)]) dMo_write_34 (by decide) rfl ?_
      refine c_M_wr1 he hsz hsz2 hlen hbl hsm hm60 hrp hst hss hslb hag hf (fun g8 vl8 f8 hv8 a1 a2 a3 a4 a5 a6 => ?_) ((pcN (bg e) (sz - 12) + rp) + 1) 0 g2 vl (by omega) (by omega) mn_fr.rf hvl hM_g2 hSm_g2 hBg_g2 hSo_g2 hSs_g2 hVl_g2
      have hndl := cnt_le (fun n0 => ¬ hld ss sb0 sz ((fun n0 => vlN (fun _ => 0) (zb sm (bg e)) (LnS (bg e) (sz - 12)) (SnS bg e (sz - 12)) (sz - 12) (pcN (bg e) (sz - 12)) n0 st rp sz) n0)) (pcN (bg e) (sz - 12) + rp)
      refine mn_R.post (c_M_wr3b a1 a2 a3 a4 a5 a6 (by omega) hpw hpw2 he hsz hsz2 hlen hbl hsm hm60 hrp hst hss hslb hag hf hv8 hno rfl) (fun x g' hq => ⟨hq.1, ((mn_fr.rf.tr (fg2.mo (fun q h => by have h9 : q = mo := h; show q = mo ∨ q = mo + 4 ∨ q = mo + 5 ∨ q = mo + 6; omega))).tr (f8.mo (fun q h => by have h9 : q = mo + 6 := h; show q = mo ∨ q = mo + 4 ∨ q = mo + 5 ∨ q = mo + 6; omega))).tr (hq.2.1.mo (fun q h => by have h9 : q = mo + 4 ∨ q = mo + 5 ∨ q = mo + 6 := h; show q = mo ∨ q = mo + 4 ∨ q = mo + 5 ∨ q = mo + 6; omega)), a1.fr hq.2.1 (fun h => by have h9 : mo = mo + 4 ∨ mo = mo + 5 ∨ mo = mo + 6 := h; omega), hq.2.2⟩)
    · exact absurd c3 (nI_nm3 (by omega))
  · exact absurd c1 (by decide)
