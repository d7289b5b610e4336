/-- an entry of n bytes at p is whole -/
def iwN (pb ln : Nat → Nat) (m w p n : Nat) : Prop := n ≤ 60 ∧ (∀ q, p ≤ q → q < p + 3 + n → kN ln m w q) ∧ pb (p + 1) + 256 * pb (p + 2) = suN pb (p + 3) n
noncomputable def iwB (pb ln : Nat → Nat) (m w p n : Nat) : Nat := @ite _ (iwN pb ln m w p n) (Classical.propDecidable _) 1 0
noncomputable def iwV (pb ln : Nat → Nat) (m w p n : Nat) : Int32 := @ite _ (iwN pb ln m w p n) (Classical.propDecidable _) 1 0
theorem iwV_y {pb ln : Nat → Nat} {m w p n : Nat} (h : iwN pb ln m w p n) : iwV pb ln m w p n = 1 := by unfold iwV; exact if_pos h
theorem iwV_n {pb ln : Nat → Nat} {m w p n : Nat} (h : ¬ iwN pb ln m w p n) : iwV pb ln m w p n = 0 := by unfold iwV; exact if_neg h
theorem iwB_y {pb ln : Nat → Nat} {m w p n : Nat} (h : ¬ iwV pb ln m w p n = 0) : iwB pb ln m w p n = 1 := by unfold iwB; exact if_pos (Classical.byContradiction fun q => h (iwV_n q))
theorem iwB_n {pb ln : Nat → Nat} {m w p n : Nat} (h : iwV pb ln m w p n = 0) : iwB pb ln m w p n = 0 := by unfold iwB; exact if_neg (fun q => by rw [iwV_y q] at h; exact absurd h (by decide))
theorem akV_of {ln : Nat → Nat} {m w i j : Nat} (h : ¬ akV ln m w i j = 0) : ∀ p, i ≤ p → p < j → kN ln m w p := Classical.byContradiction fun q => h (akV_neg q)
theorem akV_no {ln : Nat → Nat} {m w i j : Nat} (h : akV ln m w i j = 0) : ¬ ∀ p, i ≤ p → p < j → kN ln m w p := fun q => by rw [akV_pos q] at h; exact absurd h (by decide)
/-- the places of the entries that are told -/
def tsq (pb ln sn : Nat → Nat) (m w : Nat) : Nat → Option Nat
  | 0 => nk ln sn m w 61 0
  | k + 1 => match tsq pb ln sn m w k with
    | none => none
    | some p => nk ln sn m w 61 (p + 3 + pb p)
/-- td entries are told -/
def Tld (pb ln sn : Nat → Nat) (m w td : Nat) (A L W : Nat → Nat) : Prop := ∀ j, j < td → tsq pb ln sn m w j = some (A j) ∧ L j = pb (A j) ∧ W j = iwB pb ln m w (A j) (pb (A j))
theorem Tld_s {pb ln sn : Nat → Nat} {m w k p : Nat} {A L W : Nat → Nat} (h : Tld pb ln sn m w k A L W) (hp : tsq pb ln sn m w k = some p) : Tld pb ln sn m w (k + 1) (va_up A k p) (va_up L k (pb p)) (va_up W k (iwB pb ln m w p (pb p))) := by
  intro j hj
  by_cases e : j = k
  · subst e
    rw [va_up_s, va_up_s, va_up_s]
    exact ⟨hp, rfl, rfl⟩
  · rw [va_up_n _ _ e, va_up_n _ _ e, va_up_n _ _ e]
    exact h j (by omega)
theorem nk_lt {ln sn : Nat → Nat} {m w : Nat} : ∀ {f p q : Nat}, nk ln sn m w f p = some q → q < m * w
  | 0, p, q, h => by cases h
  | f + 1, p, q, h => by
    by_cases c : kN ln m w p
    · rw [nk_yes c] at h
      cases h
      exact c.1
    · cases hs : sbK ln sn m (m - (p / w + 1)) with
      | none => rw [nk_none c hs] at h; cases h
      | some n => rw [nk_some c hs] at h; exact nk_lt h
def smW (W : Nat → Nat) : Nat → Nat
  | 0 => 0
  | k + 1 => smW W k + W k
set_option maxRecDepth 100000 in
theorem c_O_isWhole {E : mn_En} {g : mn_H} {a m w : Nat} {pb ln sn : Nat → Nat} (ha : mn_at g a (.inr (2, [.ref (a + 3), .ref (a + 1), .ref (a + 2), .int (nI m), .int (nI w)]))) (hb : mn_at g (a + 3) (.inl (0, 4080, .inl (fun j => nI (pb j))))) (hl : mn_at g (a + 1) (.inl (0, 60, .inl (fun j => nI (ln j))))) (hs : mn_at g (a + 2) (.inl (0, 60, .inl (fun j => nI (sn j))))) (hw0 : 0 < w) (hw68 : w ≤ 68) (hmw : m * w ≤ 4080) (hm : m ≤ 60) (hpb : ∀ j, pb j < 256) (hln : ∀ j, ln j < 256) (hsn : ∀ j, sn j < 256) {p n : Nat} (hp : p < 5000) (hn : n < 256) : mn_R E MOp_isWhole 4 89 0 0 0 [(0, .ref a), (1, .int (nI p)), (2, .int (nI n))] [] g (mn_is (some (.int (iwV pb ln m w p n))) g) := by
  refine mn_iload_n 1 dOp_isWhole_0 rfl rfl ?_
  refine mn_iconst (v := 3) dOp_isWhole_1 (by decide) ?_
  refine mn_iadd (z := nI (p + 3)) dOp_isWhole_2 (nI_add p 3) ?_
  refine mn_istore_n (ls' := [(0, .ref a), (1, .int (nI p)), (2, .int (nI n)), (3, .int (nI (p + 3)))]) dOp_isWhole_3 rfl (by decide) rfl ?_
  refine mn_iload_n 3 dOp_isWhole_4 rfl rfl ?_
  refine mn_iload_n 2 dOp_isWhole_5 rfl rfl ?_
  refine mn_iadd (z := nI (p + 3 + n)) dOp_isWhole_6 (nI_add (p + 3) n) ?_
  refine mn_istore (ls' := [(0, .ref a), (1, .int (nI p)), (2, .int (nI n)), (3, .int (nI (p + 3))), (4, .int (nI (p + 3 + n)))]) dOp_isWhole_7 (by decide) rfl ?_
  refine mn_iload_n 2 dOp_isWhole_9 rfl rfl ?_
  refine mn_bipush (v := 60) dOp_isWhole_10 (by decide) ?_
  refine mn_icmp_gt 25 dOp_isWhole_12 (by decide) (fun c1 => ?_) (fun c1 => ?_)
  · have c1 := (nI_ltI (a := 60) (b := n) (by omega) (by omega)).mp c1
    refine mn_iconst (v := 0) dOp_isWhole_25 (by decide) ?_
    exact mn_zret rfl rfl dOp_isWhole_26 ⟨by rw [iwV_n (fun q => absurd q.1 (by omega))], rfl⟩
  · have c1 := mt (nI_ltI (a := 60) (b := n) (by omega) (by omega)).mpr c1
    refine mn_aload_n 0 dOp_isWhole_15 rfl rfl ?_
    refine mn_iload_n 1 dOp_isWhole_16 rfl rfl ?_
    refine mn_iload 4 dOp_isWhole_17 rfl ?_
    refine mn_cV (d' := 3) (w' := 66) (As := [.int (nI p), .int (nI (p + 3 + n))]) (stk' := [.int (akV ln m w p (p + 3 + n))]) okPc_areKnown lOp_38 dOp_isWhole_19 ha rfl rfl rfl rfl (Nat.le_of_ble_eq_true rfl) (Nat.le_of_ble_eq_true rfl) (by decide) (c_P_areKnown ha hb hl hs (by omega) hw0 hmw hm hln (i := p) (j := p + 3 + n) (by omega) (by omega)) rfl ?_
    refine mn_if_ne 27 dOp_isWhole_22 (by decide) (fun c2 => ?_) (fun c2 => ?_)
    · have hak := akV_of c2
      have hlt := (hak (p + 2 + n) (by omega) (by omega)).1
      have hb1 := hpb (p + 1)
      have hb2 := hpb (p + 2)
      have hsu := suN_lt pb (p + 3) n
      refine mn_aload_n 0 dOp_isWhole_27 rfl rfl ?_
      refine mn_iload_n 1 dOp_isWhole_28 rfl rfl ?_
      refine mn_iconst (v := 1) dOp_isWhole_29 (by decide) ?_
      refine mn_iadd (z := nI (p + 1)) dOp_isWhole_30 (nI_add p 1) ?_
      refine mn_cV (d' := 0) (w' := 0) (As := [.int (nI (p + 1))]) (stk' := [.int (nI (pb (p + 1)))]) okPc_byteAt lOp_31 dOp_isWhole_31 ha rfl rfl rfl rfl (Nat.le_of_ble_eq_true rfl) (Nat.le_of_ble_eq_true rfl) (by decide) (c_P_byteAt ha hb hl hs (by omega) (j := p + 1) (by omega)) rfl ?_
      refine mn_aload_n 0 dOp_isWhole_34 rfl rfl ?_
      refine mn_iload_n 1 dOp_isWhole_35 rfl rfl ?_
      refine mn_iconst (v := 2) dOp_isWhole_36 (by decide) ?_
      refine mn_iadd (z := nI (p + 2)) dOp_isWhole_37 (nI_add p 2) ?_
      refine mn_cV (d' := 0) (w' := 0) (As := [.int (nI (p + 2))]) (stk' := [.int (nI (pb (p + 2))), .int (nI (pb (p + 1)))]) okPc_byteAt lOp_31 dOp_isWhole_38 ha rfl rfl rfl rfl (Nat.le_of_ble_eq_true rfl) (Nat.le_of_ble_eq_true rfl) (by decide) (c_P_byteAt ha hb hl hs (by omega) (j := p + 2) (by omega)) rfl ?_
      refine mn_bipush (v := 8) dOp_isWhole_41 (by decide) ?_
      refine mn_ishl (z := nI (256 * pb (p + 2))) dOp_isWhole_43 (shl8_nI (by omega)) ?_
      refine mn_iadd (z := nI (pb (p + 1) + (256 * pb (p + 2)))) dOp_isWhole_44 (nI_add (pb (p + 1)) (256 * pb (p + 2))) ?_
      refine mn_istore (ls' := [(0, .ref a), (1, .int (nI p)), (2, .int (nI n)), (3, .int (nI (p + 3))), (4, .int (nI (p + 3 + n))), (5, .int (nI (pb (p + 1) + (256 * pb (p + 2)))))]) dOp_isWhole_45 (by decide) rfl ?_
      refine mn_iload 5 dOp_isWhole_47 rfl ?_
      refine mn_aload_n 0 dOp_isWhole_49 rfl rfl ?_
      refine mn_iload_n 3 dOp_isWhole_50 rfl rfl ?_
      refine mn_iload 4 dOp_isWhole_51 rfl ?_
      refine mn_cV (d' := 2) (w' := 45) (As := [.int (nI (p + 3)), .int (nI (p + 3 + n))]) (stk' := [.int (nI (suN pb (p + 3) n)), .int (nI (pb (p + 1) + (256 * pb (p + 2))))]) okPc_sum lOp_42 dOp_isWhole_53 ha rfl rfl rfl rfl (Nat.le_of_ble_eq_true rfl) (Nat.le_of_ble_eq_true rfl) (by decide) (by have h0 := c_P_sum (E := E) ha hb hl hs (by omega) (i := p + 3) (j := p + 3 + n) (by omega) (by omega); rw [su_nI, show p + 3 + n - (p + 3) = n by omega] at h0; exact h0) rfl ?_
      refine mn_icmp_ne 63 dOp_isWhole_56 (by decide) (fun c3 => ?_) (fun c3 => ?_)
      · have c3 := mt (nI_eq (a := (pb (p + 1) + (256 * pb (p + 2)))) (b := (suN pb (p + 3) n)) (by omega) (by omega)).mpr c3
        refine mn_iconst (v := 0) dOp_isWhole_63 (by decide) ?_
        exact mn_zret rfl rfl dOp_isWhole_64 ⟨by rw [iwV_n (fun q => c3 q.2.2)], rfl⟩
      · have c3 := (nI_eq (a := (pb (p + 1) + (256 * pb (p + 2)))) (b := (suN pb (p + 3) n)) (by omega) (by omega)).mp c3
        refine mn_iconst (v := 1) dOp_isWhole_59 (by decide) ?_
        refine mn_goto 64 dOp_isWhole_60 (by decide) ?_
        exact mn_zret rfl rfl dOp_isWhole_64 ⟨by rw [iwV_y ⟨by omega, hak, c3⟩], rfl⟩
    · refine mn_iconst (v := 0) dOp_isWhole_25 (by decide) ?_
      exact mn_zret rfl rfl dOp_isWhole_26 ⟨by rw [iwV_n (fun q => akV_no c2 q.2.1)], rfl⟩
set_option maxRecDepth 100000 in
theorem c_O_open_l {E : mn_En} {g : mn_H} {op a m w : Nat} {pb ln sn : Nat → Nat} (hw0 : 0 < w) (hw68 : w ≤ 68) (hmw : m * w ≤ 4080) (hm : m ≤ 60) (hpb : ∀ j, pb j < 256) (hln : ∀ j, ln j < 256) (hsn : ∀ j, sn j < 256) (hoa : op + 3 < a ∨ a + 3 < op) : ∀ (fu k : Nat) (g0 : mn_H) (td : Nat) (oA oL oW : Nat → Nat), k ≤ 40 → 40 - k < fu → td = k → mn_fr (fun q => q = op ∨ q = op + 1 ∨ q = op + 2 ∨ q = op + 3) g g0 → Tld pb ln sn m w k oA oL oW → mn_at g0 op (.inr (1, [.ref (op + 1), .ref (op + 2), .ref (op + 3), .int (nI td)])) → mn_at g0 (op + 1) (.inl (0, 40, .inl (fun j => nI (oA j)))) → mn_at g0 (op + 2) (.inl (0, 40, .inl (fun j => nI (oL j)))) → mn_at g0 (op + 3) (.inl (0, 40, .inl (fun j => nI (oW j)))) → mn_at g0 a (.inr (2, [.ref (a + 3), .ref (a + 1), .ref (a + 2), .int (nI m), .int (nI w)])) → mn_at g0 (a + 3) (.inl (0, 4080, .inl (fun j => nI (pb j)))) → mn_at g0 (a + 1) (.inl (0, 60, .inl (fun j => nI (ln j)))) → mn_at g0 (a + 2) (.inl (0, 60, .inl (fun j => nI (sn j)))) → mn_R E MOp_open 5 114 0 0 13 [(0, .ref op), (1, .ref a), (2, .int (onI (tsq pb ln sn m w k))), (3, .int (nI k))] [] g0 (fun x g' => x = none ∧ mn_fr (fun q => q = op ∨ q = op + 1 ∨ q = op + 2 ∨ q = op + 3) g g' ∧ ∃ (t9 : Nat) (A9 L9 W9 : Nat → Nat), mn_at g' op (.inr (1, [.ref (op + 1), .ref (op + 2), .ref (op + 3), .int (nI t9)])) ∧ mn_at g' (op + 1) (.inl (0, 40, .inl (fun j => nI (A9 j)))) ∧ mn_at g' (op + 2) (.inl (0, 40, .inl (fun j => nI (L9 j)))) ∧ mn_at g' (op + 3) (.inl (0, 40, .inl (fun j => nI (W9 j)))) ∧ t9 ≤ 40 ∧ Tld pb ln sn m w t9 A9 L9 W9 ∧ (t9 = 40 ∨ tsq pb ln sn m w t9 = none)) := by
  intro fu
  induction fu with
  | zero => intro k g0 td oA oL oW h1 h2; exact absurd h2 (by omega)
  | succ fu ih =>
    intro k g0 td oA oL oW h1 h2 htd hfr hT hO hOa hOl hOw ha hb hl hs
    refine mn_iload_n 3 dOp_open_13 rfl rfl ?_
    refine mn_bipush (v := 40) dOp_open_14 (by decide) ?_
    refine mn_icmp_ge 90 dOp_open_16 (by decide) (fun c1 => ?_) (fun c1 => ?_)
    · have c1 := (nI_leI (a := 40) (b := k) (by omega) (by omega)).mp c1
      exact mn_vret rfl dOp_open_90 (by obtain rfl : k = 40 := (by omega); subst htd; exact ⟨rfl, hfr, _, _, _, _, hO, hOa, hOl, hOw, by omega, hT, Or.inl rfl⟩)
    · have c1 := mt (nI_leI (a := 40) (b := k) (by omega) (by omega)).mpr c1
      rcases h9 : tsq pb ln sn m w k with _ | p
      · show mn_R E MOp_open 5 114 _ _ 19 [(0, .ref op), (1, .ref a), (2, .int (-2)), (3, .int (nI k))] [] g0 _
        refine mn_iload_n 2 dOp_open_19 rfl rfl ?_
        refine mn_if_lt 90 dOp_open_20 (by decide) (fun c2 => ?_) (fun c2 => ?_)
        · exact mn_vret rfl dOp_open_90 (by subst htd; exact ⟨rfl, hfr, _, _, _, _, hO, hOa, hOl, hOw, by omega, hT, Or.inr h9⟩)
        · exact absurd c2 (by decide)
      · show mn_R E MOp_open 5 114 _ _ 19 [(0, .ref op), (1, .ref a), (2, .int (nI p)), (3, .int (nI k))] [] g0 _
        have hpl : p < m * w := by have h7 := h9; cases k with | zero => exact nk_lt h7 | succ k => unfold tsq at h7; cases h8 : tsq pb ln sn m w k with | none => rw [h8] at h7; cases h7 | some p0 => rw [h8] at h7; exact nk_lt h7
        have hbp := hpb p
        refine mn_iload_n 2 dOp_open_19 rfl rfl ?_
        refine mn_if_lt 90 dOp_open_20 (by decide) (fun c3 => ?_) (fun c3 => ?_)
        · exact absurd c3 (nI_pos (by omega))
        · refine mn_aload_n 1 dOp_open_23 rfl rfl ?_
          refine mn_iload_n 2 dOp_open_24 rfl rfl ?_
          refine mn_cV (d' := 0) (w' := 0) (As := [.int (nI p)]) (stk' := [.int (nI (pb p))]) okPc_byteAt lOp_31 dOp_open_25 ha rfl rfl rfl rfl (Nat.le_of_ble_eq_true rfl) (Nat.le_of_ble_eq_true rfl) (by decide) (c_P_byteAt ha hb hl hs (by omega) (j := p) (by omega)) rfl ?_
          refine mn_istore (ls' := [(0, .ref op), (1, .ref a), (2, .int (nI p)), (3, .int (nI k)), (4, .int (nI (pb p)))]) dOp_open_28 (by decide) rfl ?_
          refine mn_aload_n 0 dOp_open_30 rfl rfl ?_
          refine mn_get okOp 0 lOp_9 (by decide) hO rfl dOp_open_31 ?_
          refine mn_iload_n 3 dOp_open_34 rfl rfl ?_
          refine mn_iload_n 2 dOp_open_35 rfl rfl ?_
          refine mn_iastN (j := k) hOa rfl (by omega) (by omega) dOp_open_36 ?_
          obtain ⟨g4, eg4⟩ : ∃ gg_, gg_ = mn_set g0 (op + 1) (.inl (0, 40, .inl (upd (fun j => nI (oA j)) k (nI p)))) := ⟨_, rfl⟩
          refine mn_R.toG eg4 ?_
          have hO_g4 : mn_at g4 op (.inr (1, [.ref (op + 1), .ref (op + 2), .ref (op + 3), .int (nI td)])) := by rw [eg4]; exact hO.off (by omega)
          have hOa_g4 : mn_at g4 (op + 1) (.inl (0, 40, .inl (upd (fun j => nI (oA j)) k (nI p)))) := by rw [eg4]; exact hOa.same
          have hOl_g4 : mn_at g4 (op + 2) (.inl (0, 40, .inl (fun j => nI (oL j)))) := by rw [eg4]; exact hOl.off (by omega)
          have hOw_g4 : mn_at g4 (op + 3) (.inl (0, 40, .inl (fun j => nI (oW j)))) := by rw [eg4]; exact hOw.off (by omega)
          have ha_g4 : mn_at g4 a (.inr (2, [.ref (a + 3), .ref (a + 1), .ref (a + 2), .int (nI m), .int (nI w)])) := by rw [eg4]; exact ha.off (by omega)
          have hb_g4 : mn_at g4 (a + 3) (.inl (0, 4080, .inl (fun j => nI (pb j)))) := by rw [eg4]; exact hb.off (by omega)
          have hl_g4 : mn_at g4 (a + 1) (.inl (0, 60, .inl (fun j => nI (ln j)))) := by rw [eg4]; exact hl.off (by omega)
          have hs_g4 : mn_at g4 (a + 2) (.inl (0, 60, .inl (fun j => nI (sn j)))) := by rw [eg4]; exact hs.off (by omega)
          refine mn_aload_n 0 dOp_open_37 rfl rfl ?_
          refine mn_get okOp 1 lOp_15 (by decide) hO_g4 rfl dOp_open_38 ?_
          refine mn_iload_n 3 dOp_open_41 rfl rfl ?_
          refine mn_iload 4 dOp_open_42 rfl ?_
          refine mn_iastN (j := k) hOl_g4 rfl (by omega) (by omega) dOp_open_44 ?_
          obtain ⟨g5, eg5⟩ : ∃ gg_, gg_ = mn_set g4 (op + 2) (.inl (0, 40, .inl (upd (fun j => nI (oL j)) k (nI (pb p))))) := ⟨_, rfl⟩
          refine mn_R.toG eg5 ?_
          have hO_g5 : mn_at g5 op (.inr (1, [.ref (op + 1), .ref (op + 2), .ref (op + 3), .int (nI td)])) := by rw [eg5]; exact hO_g4.off (by omega)
          have hOa_g5 : mn_at g5 (op + 1) (.inl (0, 40, .inl (upd (fun j => nI (oA j)) k (nI p)))) := by rw [eg5]; exact hOa_g4.off (by omega)
          have hOl_g5 : mn_at g5 (op + 2) (.inl (0, 40, .inl (upd (fun j => nI (oL j)) k (nI (pb p))))) := by rw [eg5]; exact hOl_g4.same
          have hOw_g5 : mn_at g5 (op + 3) (.inl (0, 40, .inl (fun j => nI (oW j)))) := by rw [eg5]; exact hOw_g4.off (by omega)
          have ha_g5 : mn_at g5 a (.inr (2, [.ref (a + 3), .ref (a + 1), .ref (a + 2), .int (nI m), .int (nI w)])) := by rw [eg5]; exact ha_g4.off (by omega)
          have hb_g5 : mn_at g5 (a + 3) (.inl (0, 4080, .inl (fun j => nI (pb j)))) := by rw [eg5]; exact hb_g4.off (by omega)
          have hl_g5 : mn_at g5 (a + 1) (.inl (0, 60, .inl (fun j => nI (ln j)))) := by rw [eg5]; exact hl_g4.off (by omega)
          have hs_g5 : mn_at g5 (a + 2) (.inl (0, 60, .inl (fun j => nI (sn j)))) := by rw [eg5]; exact hs_g4.off (by omega)
          refine mn_aload_n 0 dOp_open_45 rfl rfl ?_
          refine mn_get okOp 2 lOp_18 (by decide) hO_g5 rfl dOp_open_46 ?_
          refine mn_iload_n 3 dOp_open_49 rfl rfl ?_
          refine mn_aload_n 1 dOp_open_50 rfl rfl ?_
          refine mn_iload_n 2 dOp_open_51 rfl rfl ?_
          refine mn_iload 4 dOp_open_52 rfl ?_
          refine mn_cS (d' := 4) (w' := 89) (As := [.ref a, .int (nI p), .int (nI (pb p))]) (stk' := [.int (iwV pb ln m w p (pb p)), .int (nI k), .ref (op + 3)]) okOp_isWhole lOp_34 dOp_open_54 rfl rfl (Nat.le_of_ble_eq_true rfl) (Nat.le_of_ble_eq_true rfl) (by decide) (c_O_isWhole ha_g5 hb_g5 hl_g5 hs_g5 hw0 hw68 hmw hm hpb hln hsn (p := p) (n := pb p) (by omega) (by omega)) rfl ?_
          refine mn_if_eq 64 dOp_open_57 (by decide) (fun c6 => ?_) (fun c6 => ?_)
          · refine mn_iconst (v := 0) dOp_open_64 (by decide) ?_
            refine mn_iastN (j := k) hOw_g5 rfl (by omega) (by omega) dOp_open_65 ?_
            obtain ⟨g7, eg7⟩ : ∃ gg_, gg_ = mn_set g5 (op + 3) (.inl (0, 40, .inl (upd (fun j => nI (oW j)) k 0))) := ⟨_, rfl⟩
            refine mn_R.toG eg7 ?_
            have hO_g7 : mn_at g7 op (.inr (1, [.ref (op + 1), .ref (op + 2), .ref (op + 3), .int (nI td)])) := by rw [eg7]; exact hO_g5.off (by omega)
            have hOa_g7 : mn_at g7 (op + 1) (.inl (0, 40, .inl (upd (fun j => nI (oA j)) k (nI p)))) := by rw [eg7]; exact hOa_g5.off (by omega)
            have hOl_g7 : mn_at g7 (op + 2) (.inl (0, 40, .inl (upd (fun j => nI (oL j)) k (nI (pb p))))) := by rw [eg7]; exact hOl_g5.off (by omega)
            have hOw_g7 : mn_at g7 (op + 3) (.inl (0, 40, .inl (upd (fun j => nI (oW j)) k 0))) := by rw [eg7]; exact hOw_g5.same
            have ha_g7 : mn_at g7 a (.inr (2, [.ref (a + 3), .ref (a + 1), .ref (a + 2), .int (nI m), .int (nI w)])) := by rw [eg7]; exact ha_g5.off (by omega)
            have hb_g7 : mn_at g7 (a + 3) (.inl (0, 4080, .inl (fun j => nI (pb j)))) := by rw [eg7]; exact hb_g5.off (by omega)
            have hl_g7 : mn_at g7 (a + 1) (.inl (0, 60, .inl (fun j => nI (ln j)))) := by rw [eg7]; exact hl_g5.off (by omega)
            have hs_g7 : mn_at g7 (a + 2) (.inl (0, 60, .inl (fun j => nI (sn j)))) := by rw [eg7]; exact hs_g5.off (by omega)
            refine mn_aload_n 0 dOp_open_66 rfl rfl ?_
            refine mn_iload_n 3 dOp_open_67 rfl rfl ?_
            refine mn_iconst (v := 1) dOp_open_68 (by decide) ?_
            refine mn_iadd (z := nI (k + 1)) dOp_open_69 (nI_add k 1) ?_
            refine mn_putf okOp 3 lOp_21 (by decide) rfl hO_g7 rfl rfl (Nat.le_of_ble_eq_true rfl) dOp_open_70 ?_
            obtain ⟨g8, eg8⟩ : ∃ gg_, gg_ = mn_set g7 op (.inr (1, [.ref (op + 1), .ref (op + 2), .ref (op + 3), .int (nI (k + 1))])) := ⟨_, rfl⟩
            refine mn_R.toG eg8 ?_
            have hO_g8 : mn_at g8 op (.inr (1, [.ref (op + 1), .ref (op + 2), .ref (op + 3), .int (nI (k + 1))])) := by rw [eg8]; exact hO_g7.same
            have hOa_g8 : mn_at g8 (op + 1) (.inl (0, 40, .inl (upd (fun j => nI (oA j)) k (nI p)))) := by rw [eg8]; exact hOa_g7.off (by omega)
            have hOl_g8 : mn_at g8 (op + 2) (.inl (0, 40, .inl (upd (fun j => nI (oL j)) k (nI (pb p))))) := by rw [eg8]; exact hOl_g7.off (by omega)
            have hOw_g8 : mn_at g8 (op + 3) (.inl (0, 40, .inl (upd (fun j => nI (oW j)) k 0))) := by rw [eg8]; exact hOw_g7.off (by omega)
            have ha_g8 : mn_at g8 a (.inr (2, [.ref (a + 3), .ref (a + 1), .ref (a + 2), .int (nI m), .int (nI w)])) := by rw [eg8]; exact ha_g7.off (by omega)
            have hb_g8 : mn_at g8 (a + 3) (.inl (0, 4080, .inl (fun j => nI (pb j)))) := by rw [eg8]; exact hb_g7.off (by omega)
            have hl_g8 : mn_at g8 (a + 1) (.inl (0, 60, .inl (fun j => nI (ln j)))) := by rw [eg8]; exact hl_g7.off (by omega)
            have hs_g8 : mn_at g8 (a + 2) (.inl (0, 60, .inl (fun j => nI (sn j)))) := by rw [eg8]; exact hs_g7.off (by omega)
            refine mn_aload_n 1 dOp_open_73 rfl rfl ?_
            refine mn_iload_n 2 dOp_open_74 rfl rfl ?_
            refine mn_iconst (v := 3) dOp_open_75 (by decide) ?_
            refine mn_iadd (z := nI (p + 3)) dOp_open_76 (nI_add p 3) ?_
            refine mn_iload 4 dOp_open_77 rfl ?_
            refine mn_iadd (z := nI (p + 3 + (pb p))) dOp_open_79 (nI_add (p + 3) (pb p)) ?_
            refine mn_cV (d' := 4) (w' := 90) (As := [.int (nI (p + 3 + (pb p)))]) (stk' := [.int (onI (nk ln sn m w 61 (p + 3 + (pb p))))]) okPc_nextKnown lOp_25 dOp_open_80 ha_g8 rfl rfl rfl rfl (Nat.le_of_ble_eq_true rfl) (Nat.le_of_ble_eq_true rfl) (by decide) (c_P_nextKnown ha_g8 hb_g8 hl_g8 hs_g8 (by omega) hw0 hmw hm hln hsn hw68 (p := p + 3 + (pb p)) (by omega)) rfl ?_
            refine mn_istore_n (ls' := [(0, .ref op), (1, .ref a), (2, .int (onI (nk ln sn m w 61 (p + 3 + (pb p))))), (3, .int (nI k)), (4, .int (nI (pb p)))]) dOp_open_83 rfl (by decide) rfl ?_
            refine mn_iinc (v := nI (k + 1)) (ls' := [(0, .ref op), (1, .ref a), (2, .int (onI (nk ln sn m w 61 (p + 3 + (pb p))))), (3, .int (nI (k + 1))), (4, .int (nI (pb p)))]) 3 dOp_open_84 rfl (nI_add k 1) (by decide) rfl ?_
            refine mn_goto 13 dOp_open_87 (by decide) ?_
            rw [upd_nI] at hOa_g8 hOl_g8
            have hW9 : mn_at g8 (op + 3) (.inl (0, 40, .inl (fun j => nI (va_up oW k (iwB pb ln m w p (pb p)) j)))) := by rw [iwB_n c6, ← upd_nI]; exact hOw_g8
            refine mn_R.sub [0, 1, 2, 3] (ls' := [(0, .ref op), (1, .ref a), (2, .int (onI (nk ln sn m w 61 (p + 3 + (pb p))))), (3, .int (nI (k + 1)))]) rfl ?_
            have hts : tsq pb ln sn m w (k + 1) = nk ln sn m w 61 (p + 3 + pb p) := by rw [tsq, h9]
            rw [← hts]
            exact ih (k + 1) g8 (k + 1) _ _ _ (by omega) (by omega) rfl ((((hfr.set eg4 (by show (op + 1) = op ∨ (op + 1) = op + 1 ∨ (op + 1) = op + 2 ∨ (op + 1) = op + 3; omega)).set eg5 (by show (op + 2) = op ∨ (op + 2) = op + 1 ∨ (op + 2) = op + 2 ∨ (op + 2) = op + 3; omega)).set eg7 (by show (op + 3) = op ∨ (op + 3) = op + 1 ∨ (op + 3) = op + 2 ∨ (op + 3) = op + 3; omega)).set eg8 (by show op = op ∨ op = op + 1 ∨ op = op + 2 ∨ op = op + 3; omega)) (Tld_s hT h9) hO_g8 hOa_g8 hOl_g8 hW9 ha_g8 hb_g8 hl_g8 hs_g8
          · refine mn_iconst (v := 1) dOp_open_60 (by decide) ?_
            refine mn_goto 65 dOp_open_61 (by decide) ?_
            refine mn_iastN (j := k) hOw_g5 rfl (by omega) (by omega) dOp_open_65 ?_
            obtain ⟨g9, eg9⟩ : ∃ gg_, gg_ = mn_set g5 (op + 3) (.inl (0, 40, .inl (upd (fun j => nI (oW j)) k 1))) := ⟨_, rfl⟩
            refine mn_R.toG eg9 ?_
            have hO_g9 : mn_at g9 op (.inr (1, [.ref (op + 1), .ref (op + 2), .ref (op + 3), .int (nI td)])) := by rw [eg9]; exact hO_g5.off (by omega)
            have hOa_g9 : mn_at g9 (op + 1) (.inl (0, 40, .inl (upd (fun j => nI (oA j)) k (nI p)))) := by rw [eg9]; exact hOa_g5.off (by omega)
            have hOl_g9 : mn_at g9 (op + 2) (.inl (0, 40, .inl (upd (fun j => nI (oL j)) k (nI (pb p))))) := by rw [eg9]; exact hOl_g5.off (by omega)
            have hOw_g9 : mn_at g9 (op + 3) (.inl (0, 40, .inl (upd (fun j => nI (oW j)) k 1))) := by rw [eg9]; exact hOw_g5.same
            have ha_g9 : mn_at g9 a (.inr (2, [.ref (a + 3), .ref (a + 1), .ref (a + 2), .int (nI m), .int (nI w)])) := by rw [eg9]; exact ha_g5.off (by omega)
            have hb_g9 : mn_at g9 (a + 3) (.inl (0, 4080, .inl (fun j => nI (pb j)))) := by rw [eg9]; exact hb_g5.off (by omega)
            have hl_g9 : mn_at g9 (a + 1) (.inl (0, 60, .inl (fun j => nI (ln j)))) := by rw [eg9]; exact hl_g5.off (by omega)
            have hs_g9 : mn_at g9 (a + 2) (.inl (0, 60, .inl (fun j => nI (sn j)))) := by rw [eg9]; exact hs_g5.off (by omega)
            refine mn_aload_n 0 dOp_open_66 rfl rfl ?_
            refine mn_iload_n 3 dOp_open_67 rfl rfl ?_
            refine mn_iconst (v := 1) dOp_open_68 (by decide) ?_
            refine mn_iadd (z := nI (k + 1)) dOp_open_69 (nI_add k 1) ?_
            refine mn_putf okOp 3 lOp_21 (by decide) rfl hO_g9 rfl rfl (Nat.le_of_ble_eq_true rfl) dOp_open_70 ?_
            obtain ⟨g10, eg10⟩ : ∃ gg_, gg_ = mn_set g9 op (.inr (1, [.ref (op + 1), .ref (op + 2), .ref (op + 3), .int (nI (k + 1))])) := ⟨_, rfl⟩
            refine mn_R.toG eg10 ?_
            have hO_g10 : mn_at g10 op (.inr (1, [.ref (op + 1), .ref (op + 2), .ref (op + 3), .int (nI (k + 1))])) := by rw [eg10]; exact hO_g9.same
            have hOa_g10 : mn_at g10 (op + 1) (.inl (0, 40, .inl (upd (fun j => nI (oA j)) k (nI p)))) := by rw [eg10]; exact hOa_g9.off (by omega)
            have hOl_g10 : mn_at g10 (op + 2) (.inl (0, 40, .inl (upd (fun j => nI (oL j)) k (nI (pb p))))) := by rw [eg10]; exact hOl_g9.off (by omega)
            have hOw_g10 : mn_at g10 (op + 3) (.inl (0, 40, .inl (upd (fun j => nI (oW j)) k 1))) := by rw [eg10]; exact hOw_g9.off (by omega)
            have ha_g10 : mn_at g10 a (.inr (2, [.ref (a + 3), .ref (a + 1), .ref (a + 2), .int (nI m), .int (nI w)])) := by rw [eg10]; exact ha_g9.off (by omega)
            have hb_g10 : mn_at g10 (a + 3) (.inl (0, 4080, .inl (fun j => nI (pb j)))) := by rw [eg10]; exact hb_g9.off (by omega)
            have hl_g10 : mn_at g10 (a + 1) (.inl (0, 60, .inl (fun j => nI (ln j)))) := by rw [eg10]; exact hl_g9.off (by omega)
            have hs_g10 : mn_at g10 (a + 2) (.inl (0, 60, .inl (fun j => nI (sn j)))) := by rw [eg10]; exact hs_g9.off (by omega)
            refine mn_aload_n 1 dOp_open_73 rfl rfl ?_
            refine mn_iload_n 2 dOp_open_74 rfl rfl ?_
            refine mn_iconst (v := 3) dOp_open_75 (by decide) ?_
            refine mn_iadd (z := nI (p + 3)) dOp_open_76 (nI_add p 3) ?_
            refine mn_iload 4 dOp_open_77 rfl ?_
            refine mn_iadd (z := nI (p + 3 + (pb p))) dOp_open_79 (nI_add (p + 3) (pb p)) ?_
            refine mn_cV (d' := 4) (w' := 90) (As := [.int (nI (p + 3 + (pb p)))]) (stk' := [.int (onI (nk ln sn m w 61 (p + 3 + (pb p))))]) okPc_nextKnown lOp_25 dOp_open_80 ha_g10 rfl rfl rfl rfl (Nat.le_of_ble_eq_true rfl) (Nat.le_of_ble_eq_true rfl) (by decide) (c_P_nextKnown ha_g10 hb_g10 hl_g10 hs_g10 (by omega) hw0 hmw hm hln hsn hw68 (p := p + 3 + (pb p)) (by omega)) rfl ?_
            refine mn_istore_n (ls' := [(0, .ref op), (1, .ref a), (2, .int (onI (nk ln sn m w 61 (p + 3 + (pb p))))), (3, .int (nI k)), (4, .int (nI (pb p)))]) dOp_open_83 rfl (by decide) rfl ?_
            refine mn_iinc (v := nI (k + 1)) (ls' := [(0, .ref op), (1, .ref a), (2, .int (onI (nk ln sn m w 61 (p + 3 + (pb p))))), (3, .int (nI (k + 1))), (4, .int (nI (pb p)))]) 3 dOp_open_84 rfl (nI_add k 1) (by decide) rfl ?_
            refine mn_goto 13 dOp_open_87 (by decide) ?_
            rw [upd_nI] at hOa_g10 hOl_g10
            have hW9 : mn_at g10 (op + 3) (.inl (0, 40, .inl (fun j => nI (va_up oW k (iwB pb ln m w p (pb p)) j)))) := by rw [iwB_y c6, ← upd_nI]; exact hOw_g10
            refine mn_R.sub [0, 1, 2, 3] (ls' := [(0, .ref op), (1, .ref a), (2, .int (onI (nk ln sn m w 61 (p + 3 + (pb p))))), (3, .int (nI (k + 1)))]) rfl ?_
            have hts : tsq pb ln sn m w (k + 1) = nk ln sn m w 61 (p + 3 + pb p) := by rw [tsq, h9]
            rw [← hts]
            exact ih (k + 1) g10 (k + 1) _ _ _ (by omega) (by omega) rfl ((((hfr.set eg4 (by show (op + 1) = op ∨ (op + 1) = op + 1 ∨ (op + 1) = op + 2 ∨ (op + 1) = op + 3; omega)).set eg5 (by show (op + 2) = op ∨ (op + 2) = op + 1 ∨ (op + 2) = op + 2 ∨ (op + 2) = op + 3; omega)).set eg9 (by show (op + 3) = op ∨ (op + 3) = op + 1 ∨ (op + 3) = op + 2 ∨ (op + 3) = op + 3; omega)).set eg10 (by show op = op ∨ op = op + 1 ∨ op = op + 2 ∨ op = op + 3; omega)) (Tld_s hT h9) hO_g10 hOa_g10 hOl_g10 hW9 ha_g10 hb_g10 hl_g10 hs_g10
set_option maxRecDepth 100000 in
theorem c_O_open {E : mn_En} {g : mn_H} {a m w : Nat} {pb ln sn : Nat → Nat} {op td : Nat} {oA oL oW : Nat → Nat} (hO : mn_at g op (.inr (1, [.ref (op + 1), .ref (op + 2), .ref (op + 3), .int (nI td)]))) (hOa : mn_at g (op + 1) (.inl (0, 40, .inl (fun j => nI (oA j))))) (hOl : mn_at g (op + 2) (.inl (0, 40, .inl (fun j => nI (oL j))))) (hOw : mn_at g (op + 3) (.inl (0, 40, .inl (fun j => nI (oW j))))) (ha : mn_at g a (.inr (2, [.ref (a + 3), .ref (a + 1), .ref (a + 2), .int (nI m), .int (nI w)]))) (hb : mn_at g (a + 3) (.inl (0, 4080, .inl (fun j => nI (pb j))))) (hl : mn_at g (a + 1) (.inl (0, 60, .inl (fun j => nI (ln j))))) (hs : mn_at g (a + 2) (.inl (0, 60, .inl (fun j => nI (sn j))))) (hw0 : 0 < w) (hw68 : w ≤ 68) (hmw : m * w ≤ 4080) (hm : m ≤ 60) (hpb : ∀ j, pb j < 256) (hln : ∀ j, ln j < 256) (hsn : ∀ j, sn j < 256) (hoa : op + 3 < a ∨ a + 3 < op) : mn_R E MOp_open 5 114 0 0 0 [(0, .ref op), (1, .ref a)] [] g (fun x g' => x = none ∧ mn_fr (fun q => q = op ∨ q = op + 1 ∨ q = op + 2 ∨ q = op + 3) g g' ∧ ∃ (t9 : Nat) (A9 L9 W9 : Nat → Nat), mn_at g' op (.inr (1, [.ref (op + 1), .ref (op + 2), .ref (op + 3), .int (nI t9)])) ∧ mn_at g' (op + 1) (.inl (0, 40, .inl (fun j => nI (A9 j)))) ∧ mn_at g' (op + 2) (.inl (0, 40, .inl (fun j => nI (L9 j)))) ∧ mn_at g' (op + 3) (.inl (0, 40, .inl (fun j => nI (W9 j)))) ∧ t9 ≤ 40 ∧ Tld pb ln sn m w t9 A9 L9 W9 ∧ (t9 = 40 ∨ tsq pb ln sn m w t9 = none)) := by
  refine mn_aload_n 0 dOp_open_0 rfl rfl ?_
  refine mn_iconst (v := 0) dOp_open_1 (by decide) ?_
  refine mn_putf okOp 3 lOp_21 (by decide) rfl hO rfl rfl (Nat.le_of_ble_eq_true rfl) dOp_open_2 ?_
  obtain ⟨g1, eg1⟩ : ∃ gg_, gg_ = mn_set g op (.inr (1, [.ref (op + 1), .ref (op + 2), .ref (op + 3), .int 0])) := ⟨_, rfl⟩
  refine mn_R.toG eg1 ?_
  have hO_g1 : mn_at g1 op (.inr (1, [.ref (op + 1), .ref (op + 2), .ref (op + 3), .int 0])) := by rw [eg1]; exact hO.same
  have hOa_g1 : mn_at g1 (op + 1) (.inl (0, 40, .inl (fun j => nI (oA j)))) := by rw [eg1]; exact hOa.off (by omega)
  have hOl_g1 : mn_at g1 (op + 2) (.inl (0, 40, .inl (fun j => nI (oL j)))) := by rw [eg1]; exact hOl.off (by omega)
  have hOw_g1 : mn_at g1 (op + 3) (.inl (0, 40, .inl (fun j => nI (oW j)))) := by rw [eg1]; exact hOw.off (by omega)
  have ha_g1 : mn_at g1 a (.inr (2, [.ref (a + 3), .ref (a + 1), .ref (a + 2), .int (nI m), .int (nI w)])) := by rw [eg1]; exact ha.off (by omega)
  have hb_g1 : mn_at g1 (a + 3) (.inl (0, 4080, .inl (fun j => nI (pb j)))) := by rw [eg1]; exact hb.off (by omega)
  have hl_g1 : mn_at g1 (a + 1) (.inl (0, 60, .inl (fun j => nI (ln j)))) := by rw [eg1]; exact hl.off (by omega)
  have hs_g1 : mn_at g1 (a + 2) (.inl (0, 60, .inl (fun j => nI (sn j)))) := by rw [eg1]; exact hs.off (by omega)
  refine mn_aload_n 1 dOp_open_5 rfl rfl ?_
  refine mn_iconst (v := 0) dOp_open_6 (by decide) ?_
  refine mn_cV (d' := 4) (w' := 90) (As := [.int 0]) (stk' := [.int (onI (nk ln sn m w 61 0))]) okPc_nextKnown lOp_25 dOp_open_7 ha_g1 rfl rfl rfl rfl (Nat.le_of_ble_eq_true rfl) (Nat.le_of_ble_eq_true rfl) (by decide) (c_P_nextKnown ha_g1 hb_g1 hl_g1 hs_g1 (by omega) hw0 hmw hm hln hsn hw68 (p := 0) (by omega)) rfl ?_
  refine mn_istore_n (ls' := [(0, .ref op), (1, .ref a), (2, .int (onI (nk ln sn m w 61 0)))]) dOp_open_10 rfl (by decide) rfl ?_
  refine mn_iconst (v := 0) dOp_open_11 (by decide) ?_
  refine mn_istore_n (ls' := [(0, .ref op), (1, .ref a), (2, .int (onI (nk ln sn m w 61 0))), (3, .int 0)]) dOp_open_12 rfl (by decide) rfl ?_
  exact c_O_open_l hw0 hw68 hmw hm hpb hln hsn hoa 41 0 g1 0 oA oL oW (by omega) (by omega) rfl (mn_fr.rf.set eg1 (by show op = op ∨ op = op + 1 ∨ op = op + 2 ∨ op = op + 3; omega)) (fun j hj => absurd hj (by omega)) hO_g1 hOa_g1 hOl_g1 hOw_g1 ha_g1 hb_g1 hl_g1 hs_g1
set_option maxRecDepth 100000 in
theorem c_O_ones_l {E : mn_En} {g : mn_H} {op td : Nat} {oA oL oW : Nat → Nat} (hO : mn_at g op (.inr (1, [.ref (op + 1), .ref (op + 2), .ref (op + 3), .int (nI td)]))) (hOa : mn_at g (op + 1) (.inl (0, 40, .inl (fun j => nI (oA j))))) (hOl : mn_at g (op + 2) (.inl (0, 40, .inl (fun j => nI (oL j))))) (hOw : mn_at g (op + 3) (.inl (0, 40, .inl (fun j => nI (oW j))))) (htd : td ≤ 40) : ∀ (fu k : Nat), k ≤ td → td - k < fu → mn_R E MOp_openedOnes 0 0 0 0 4 [(0, .ref op), (1, .int (nI (smW oW k))), (2, .int (nI k))] [] g (mn_is (some (.int (nI (smW oW td)))) g) := by
  intro fu
  induction fu with
  | zero => intro k h1 h2; exact absurd h2 (by omega)
  | succ fu ih =>
    intro k h1 h2
    refine mn_iload_n 2 dOp_openedOnes_4 rfl rfl ?_
    refine mn_aload_n 0 dOp_openedOnes_5 rfl rfl ?_
    refine mn_get okOp 3 lOp_21 (by decide) hO rfl dOp_openedOnes_6 ?_
    refine mn_icmp_ge 33 dOp_openedOnes_9 (by decide) (fun c1 => ?_) (fun c1 => ?_)
    · have c1 := (nI_leI (a := td) (b := k) (by omega) (by omega)).mp c1
      refine mn_iload_n 1 dOp_openedOnes_33 rfl rfl ?_
      exact mn_iret rfl dOp_openedOnes_34 ⟨by rw [show k = td by omega], rfl⟩
    · have c1 := mt (nI_leI (a := td) (b := k) (by omega) (by omega)).mpr c1
      refine mn_iload_n 2 dOp_openedOnes_12 rfl rfl ?_
      refine mn_bipush (v := 40) dOp_openedOnes_13 (by decide) ?_
      refine mn_icmp_ge 33 dOp_openedOnes_15 (by decide) (fun c2 => ?_) (fun c2 => ?_)
      · have c2 := (nI_leI (a := 40) (b := k) (by omega) (by omega)).mp c2
        refine mn_iload_n 1 dOp_openedOnes_33 rfl rfl ?_
        exact mn_iret rfl dOp_openedOnes_34 (absurd htd (by omega))
      · have c2 := mt (nI_leI (a := 40) (b := k) (by omega) (by omega)).mpr c2
        refine mn_iload_n 1 dOp_openedOnes_18 rfl rfl ?_
        refine mn_aload_n 0 dOp_openedOnes_19 rfl rfl ?_
        refine mn_get okOp 2 lOp_18 (by decide) hO rfl dOp_openedOnes_20 ?_
        refine mn_iload_n 2 dOp_openedOnes_23 rfl rfl ?_
        refine mn_ialdN (j := k) hOw rfl (by omega) (by omega) dOp_openedOnes_24 ?_
        refine mn_iadd (z := nI (smW oW k + (oW k))) dOp_openedOnes_25 (nI_add (smW oW k) (oW k)) ?_
        refine mn_istore_n (ls' := [(0, .ref op), (1, .int (nI (smW oW k + (oW k)))), (2, .int (nI k))]) dOp_openedOnes_26 rfl (by decide) rfl ?_
        refine mn_iinc (v := nI (k + 1)) (ls' := [(0, .ref op), (1, .int (nI (smW oW k + (oW k)))), (2, .int (nI (k + 1)))]) 2 dOp_openedOnes_27 rfl (nI_add k 1) (by decide) rfl ?_
        refine mn_goto 4 dOp_openedOnes_30 (by decide) ?_
        exact ih (k + 1) (by omega) (by omega)
set_option maxRecDepth 100000 in
theorem c_O_ones {E : mn_En} {g : mn_H} {op td : Nat} {oA oL oW : Nat → Nat} (hO : mn_at g op (.inr (1, [.ref (op + 1), .ref (op + 2), .ref (op + 3), .int (nI td)]))) (hOa : mn_at g (op + 1) (.inl (0, 40, .inl (fun j => nI (oA j))))) (hOl : mn_at g (op + 2) (.inl (0, 40, .inl (fun j => nI (oL j))))) (hOw : mn_at g (op + 3) (.inl (0, 40, .inl (fun j => nI (oW j))))) (htd : td ≤ 40) : mn_R E MOp_openedOnes 0 0 0 0 0 [(0, .ref op)] [] g (mn_is (some (.int (nI (smW oW td)))) g) := by
  refine mn_iconst (v := 0) dOp_openedOnes_0 (by decide) ?_
  refine mn_istore_n (ls' := [(0, .ref op), (1, .int 0)]) dOp_openedOnes_1 rfl (by decide) rfl ?_
  refine mn_iconst (v := 0) dOp_openedOnes_2 (by decide) ?_
  refine mn_istore_n (ls' := [(0, .ref op), (1, .int 0), (2, .int 0)]) dOp_openedOnes_3 rfl (by decide) rfl ?_
  exact c_O_ones_l hO hOa hOl hOw htd (td + 1) 0 (by omega) (by omega)
set_option maxRecDepth 100000 in
theorem c_O_tell_bad {E : mn_En} {g : mn_H} {op td : Nat} {oA oL oW : Nat → Nat} (hO : mn_at g op (.inr (1, [.ref (op + 1), .ref (op + 2), .ref (op + 3), .int (nI td)]))) (hOa : mn_at g (op + 1) (.inl (0, 40, .inl (fun j => nI (oA j))))) (hOl : mn_at g (op + 2) (.inl (0, 40, .inl (fun j => nI (oL j))))) (hOw : mn_at g (op + 3) (.inl (0, 40, .inl (fun j => nI (oW j))))) (htd : td ≤ 40) {x y : Int32} (hx : x < 0 ∨ nI td ≤ x) : mn_R E MOp_tellOf 0 0 0 0 0 [(0, .ref op), (1, .int x), (2, .int y)] [] g (mn_is (some (.int (-1))) g) := by
  refine mn_iload_n 1 dOp_tellOf_0 rfl rfl ?_
  refine mn_if_lt 18 dOp_tellOf_1 (by decide) (fun c1 => ?_) (fun c1 => ?_)
  · refine mn_iconst (v := -1) dOp_tellOf_18 (by decide) ?_
    exact mn_iret rfl dOp_tellOf_19 ⟨rfl, rfl⟩
  · refine mn_iload_n 1 dOp_tellOf_4 rfl rfl ?_
    refine mn_aload_n 0 dOp_tellOf_5 rfl rfl ?_
    refine mn_get okOp 3 lOp_21 (by decide) hO rfl dOp_tellOf_6 ?_
    refine mn_icmp_ge 18 dOp_tellOf_9 (by decide) (fun c2 => ?_) (fun c2 => ?_)
    · refine mn_iconst (v := -1) dOp_tellOf_18 (by decide) ?_
      exact mn_iret rfl dOp_tellOf_19 ⟨rfl, rfl⟩
    · exact absurd hx (fun q => q.elim c1 c2)
set_option maxRecDepth 100000 in
theorem c_O_tell0 {E : mn_En} {g : mn_H} {op td : Nat} {oA oL oW : Nat → Nat} (hO : mn_at g op (.inr (1, [.ref (op + 1), .ref (op + 2), .ref (op + 3), .int (nI td)]))) (hOa : mn_at g (op + 1) (.inl (0, 40, .inl (fun j => nI (oA j))))) (hOl : mn_at g (op + 2) (.inl (0, 40, .inl (fun j => nI (oL j))))) (hOw : mn_at g (op + 3) (.inl (0, 40, .inl (fun j => nI (oW j))))) (htd : td ≤ 40) {k : Nat} (hk : k < td) : mn_R E MOp_tellOf 0 0 0 0 0 [(0, .ref op), (1, .int (nI k)), (2, .int 0)] [] g (mn_is (some (.int (nI (oA k)))) g) := by
  refine mn_iload_n 1 dOp_tellOf_0 rfl rfl ?_
  refine mn_if_lt 18 dOp_tellOf_1 (by decide) (fun c1 => ?_) (fun c1 => ?_)
  · exact absurd c1 (nI_pos (by omega))
  · refine mn_iload_n 1 dOp_tellOf_4 rfl rfl ?_
    refine mn_aload_n 0 dOp_tellOf_5 rfl rfl ?_
    refine mn_get okOp 3 lOp_21 (by decide) hO rfl dOp_tellOf_6 ?_
    refine mn_icmp_ge 18 dOp_tellOf_9 (by decide) (fun c2 => ?_) (fun c2 => ?_)
    · have c2 := (nI_leI (a := td) (b := k) (by omega) (by omega)).mp c2
      refine mn_iconst (v := -1) dOp_tellOf_18 (by decide) ?_
      exact mn_iret rfl dOp_tellOf_19 (absurd hk (by omega))
    · have c2 := mt (nI_leI (a := td) (b := k) (by omega) (by omega)).mpr c2
      refine mn_iload_n 1 dOp_tellOf_12 rfl rfl ?_
      refine mn_bipush (v := 40) dOp_tellOf_13 (by decide) ?_
      refine mn_icmp_lt 20 dOp_tellOf_15 (by decide) (fun c3 => ?_) (fun c3 => ?_)
      · have c3 := (nI_ltI (a := k) (b := 40) (by omega) (by omega)).mp c3
        refine mn_iload_n 2 dOp_tellOf_20 rfl rfl ?_
        refine mn_tableIn (off := 27) 48 dOp_tellOf_21 (by decide) (by decide) (by decide) (by decide) ?_
        refine mn_aload_n 0 dOp_tellOf_48 rfl rfl ?_
        refine mn_get okOp 0 lOp_9 (by decide) hO rfl dOp_tellOf_49 ?_
        refine mn_iload_n 1 dOp_tellOf_52 rfl rfl ?_
        refine mn_ialdN (j := k) hOa rfl (by omega) (by omega) dOp_tellOf_53 ?_
        exact mn_iret rfl dOp_tellOf_54 ⟨rfl, rfl⟩
      · have c3 := mt (nI_ltI (a := k) (b := 40) (by omega) (by omega)).mpr c3
        refine mn_iconst (v := -1) dOp_tellOf_18 (by decide) ?_
        exact mn_iret rfl dOp_tellOf_19 (absurd hk (by omega))
set_option maxRecDepth 100000 in
theorem c_O_tell1 {E : mn_En} {g : mn_H} {op td : Nat} {oA oL oW : Nat → Nat} (hO : mn_at g op (.inr (1, [.ref (op + 1), .ref (op + 2), .ref (op + 3), .int (nI td)]))) (hOa : mn_at g (op + 1) (.inl (0, 40, .inl (fun j => nI (oA j))))) (hOl : mn_at g (op + 2) (.inl (0, 40, .inl (fun j => nI (oL j))))) (hOw : mn_at g (op + 3) (.inl (0, 40, .inl (fun j => nI (oW j))))) (htd : td ≤ 40) {k : Nat} (hk : k < td) : mn_R E MOp_tellOf 0 0 0 0 0 [(0, .ref op), (1, .int (nI k)), (2, .int 1)] [] g (mn_is (some (.int (nI (oL k)))) g) := by
  refine mn_iload_n 1 dOp_tellOf_0 rfl rfl ?_
  refine mn_if_lt 18 dOp_tellOf_1 (by decide) (fun c1 => ?_) (fun c1 => ?_)
  · exact absurd c1 (nI_pos (by omega))
  · refine mn_iload_n 1 dOp_tellOf_4 rfl rfl ?_
    refine mn_aload_n 0 dOp_tellOf_5 rfl rfl ?_
    refine mn_get okOp 3 lOp_21 (by decide) hO rfl dOp_tellOf_6 ?_
    refine mn_icmp_ge 18 dOp_tellOf_9 (by decide) (fun c2 => ?_) (fun c2 => ?_)
    · have c2 := (nI_leI (a := td) (b := k) (by omega) (by omega)).mp c2
      refine mn_iconst (v := -1) dOp_tellOf_18 (by decide) ?_
      exact mn_iret rfl dOp_tellOf_19 (absurd hk (by omega))
    · have c2 := mt (nI_leI (a := td) (b := k) (by omega) (by omega)).mpr c2
      refine mn_iload_n 1 dOp_tellOf_12 rfl rfl ?_
      refine mn_bipush (v := 40) dOp_tellOf_13 (by decide) ?_
      refine mn_icmp_lt 20 dOp_tellOf_15 (by decide) (fun c3 => ?_) (fun c3 => ?_)
      · have c3 := (nI_ltI (a := k) (b := 40) (by omega) (by omega)).mp c3
        refine mn_iload_n 2 dOp_tellOf_20 rfl rfl ?_
        refine mn_tableIn (off := 34) 55 dOp_tellOf_21 (by decide) (by decide) (by decide) (by decide) ?_
        refine mn_aload_n 0 dOp_tellOf_55 rfl rfl ?_
        refine mn_get okOp 1 lOp_15 (by decide) hO rfl dOp_tellOf_56 ?_
        refine mn_iload_n 1 dOp_tellOf_59 rfl rfl ?_
        refine mn_ialdN (j := k) hOl rfl (by omega) (by omega) dOp_tellOf_60 ?_
        exact mn_iret rfl dOp_tellOf_61 ⟨rfl, rfl⟩
      · have c3 := mt (nI_ltI (a := k) (b := 40) (by omega) (by omega)).mpr c3
        refine mn_iconst (v := -1) dOp_tellOf_18 (by decide) ?_
        exact mn_iret rfl dOp_tellOf_19 (absurd hk (by omega))
set_option maxRecDepth 100000 in
theorem c_O_tell2 {E : mn_En} {g : mn_H} {op td : Nat} {oA oL oW : Nat → Nat} (hO : mn_at g op (.inr (1, [.ref (op + 1), .ref (op + 2), .ref (op + 3), .int (nI td)]))) (hOa : mn_at g (op + 1) (.inl (0, 40, .inl (fun j => nI (oA j))))) (hOl : mn_at g (op + 2) (.inl (0, 40, .inl (fun j => nI (oL j))))) (hOw : mn_at g (op + 3) (.inl (0, 40, .inl (fun j => nI (oW j))))) (htd : td ≤ 40) {k : Nat} (hk : k < td) : mn_R E MOp_tellOf 0 0 0 0 0 [(0, .ref op), (1, .int (nI k)), (2, .int 2)] [] g (mn_is (some (.int (nI (oW k)))) g) := by
  refine mn_iload_n 1 dOp_tellOf_0 rfl rfl ?_
  refine mn_if_lt 18 dOp_tellOf_1 (by decide) (fun c1 => ?_) (fun c1 => ?_)
  · exact absurd c1 (nI_pos (by omega))
  · refine mn_iload_n 1 dOp_tellOf_4 rfl rfl ?_
    refine mn_aload_n 0 dOp_tellOf_5 rfl rfl ?_
    refine mn_get okOp 3 lOp_21 (by decide) hO rfl dOp_tellOf_6 ?_
    refine mn_icmp_ge 18 dOp_tellOf_9 (by decide) (fun c2 => ?_) (fun c2 => ?_)
    · have c2 := (nI_leI (a := td) (b := k) (by omega) (by omega)).mp c2
      refine mn_iconst (v := -1) dOp_tellOf_18 (by decide) ?_
      exact mn_iret rfl dOp_tellOf_19 (absurd hk (by omega))
    · have c2 := mt (nI_leI (a := td) (b := k) (by omega) (by omega)).mpr c2
      refine mn_iload_n 1 dOp_tellOf_12 rfl rfl ?_
      refine mn_bipush (v := 40) dOp_tellOf_13 (by decide) ?_
      refine mn_icmp_lt 20 dOp_tellOf_15 (by decide) (fun c3 => ?_) (fun c3 => ?_)
      · have c3 := (nI_ltI (a := k) (b := 40) (by omega) (by omega)).mp c3
        refine mn_iload_n 2 dOp_tellOf_20 rfl rfl ?_
        refine mn_tableIn (off := 41) 62 dOp_tellOf_21 (by decide) (by decide) (by decide) (by decide) ?_
        refine mn_aload_n 0 dOp_tellOf_62 rfl rfl ?_
        refine mn_get okOp 2 lOp_18 (by decide) hO rfl dOp_tellOf_63 ?_
        refine mn_iload_n 1 dOp_tellOf_66 rfl rfl ?_
        refine mn_ialdN (j := k) hOw rfl (by omega) (by omega) dOp_tellOf_67 ?_
        exact mn_iret rfl dOp_tellOf_68 ⟨rfl, rfl⟩
      · have c3 := mt (nI_ltI (a := k) (b := 40) (by omega) (by omega)).mpr c3
        refine mn_iconst (v := -1) dOp_tellOf_18 (by decide) ?_
        exact mn_iret rfl dOp_tellOf_19 (absurd hk (by omega))
set_option maxRecDepth 100000 in
theorem c_O_tell_what {E : mn_En} {g : mn_H} {op td : Nat} {oA oL oW : Nat → Nat} (hO : mn_at g op (.inr (1, [.ref (op + 1), .ref (op + 2), .ref (op + 3), .int (nI td)]))) (hOa : mn_at g (op + 1) (.inl (0, 40, .inl (fun j => nI (oA j))))) (hOl : mn_at g (op + 2) (.inl (0, 40, .inl (fun j => nI (oL j))))) (hOw : mn_at g (op + 3) (.inl (0, 40, .inl (fun j => nI (oW j))))) (htd : td ≤ 40) {k : Nat} (hk : k < td) {y : Int32} (hwt : y.toInt < 0 ∨ 2 < y.toInt) : mn_R E MOp_tellOf 0 0 0 0 0 [(0, .ref op), (1, .int (nI k)), (2, .int y)] [] g (mn_is (some (.int (-1))) g) := by
  refine mn_iload_n 1 dOp_tellOf_0 rfl rfl ?_
  refine mn_if_lt 18 dOp_tellOf_1 (by decide) (fun c1 => ?_) (fun c1 => ?_)
  · exact absurd c1 (nI_pos (by omega))
  · refine mn_iload_n 1 dOp_tellOf_4 rfl rfl ?_
    refine mn_aload_n 0 dOp_tellOf_5 rfl rfl ?_
    refine mn_get okOp 3 lOp_21 (by decide) hO rfl dOp_tellOf_6 ?_
    refine mn_icmp_ge 18 dOp_tellOf_9 (by decide) (fun c2 => ?_) (fun c2 => ?_)
    · have c2 := (nI_leI (a := td) (b := k) (by omega) (by omega)).mp c2
      refine mn_iconst (v := -1) dOp_tellOf_18 (by decide) ?_
      exact mn_iret rfl dOp_tellOf_19 ⟨rfl, rfl⟩
    · have c2 := mt (nI_leI (a := td) (b := k) (by omega) (by omega)).mpr c2
      refine mn_iload_n 1 dOp_tellOf_12 rfl rfl ?_
      refine mn_bipush (v := 40) dOp_tellOf_13 (by decide) ?_
      refine mn_icmp_lt 20 dOp_tellOf_15 (by decide) (fun c3 => ?_) (fun c3 => ?_)
      · have c3 := (nI_ltI (a := k) (b := 40) (by omega) (by omega)).mp c3
        refine mn_iload_n 2 dOp_tellOf_20 rfl rfl ?_
        refine mn_tableOut 69 dOp_tellOf_21 hwt (by decide) ?_
        refine mn_iconst (v := -1) dOp_tellOf_69 (by decide) ?_
        exact mn_iret rfl dOp_tellOf_70 ⟨rfl, rfl⟩
      · have c3 := mt (nI_ltI (a := k) (b := 40) (by omega) (by omega)).mpr c3
        refine mn_iconst (v := -1) dOp_tellOf_18 (by decide) ?_
        exact mn_iret rfl dOp_tellOf_19 ⟨rfl, rfl⟩
