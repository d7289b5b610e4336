/-- a world that has grown; what was there stays, but for S -/
def mn_gw (S : Nat → Prop) (g g' : mn_H) : Prop := g.1 ≤ g'.1 ∧ ∀ q, q < g.1 → ¬ S q → g'.2 q = g.2 q
theorem mn_at.gw {g g' : mn_H} {a : Nat} {c : mn_C} {S : Nat → Prop} (h : mn_at g a c) (hf : mn_gw S g g') (hs : ¬ S a) : mn_at g' a c := ⟨h.1, Nat.lt_of_lt_of_le h.2.1 hf.1, by rw [hf.2 a h.2.1 hs]; exact h.2.2⟩
theorem mn_gw.rf {S : Nat → Prop} {g : mn_H} : mn_gw S g g := ⟨Nat.le_refl _, fun _ _ _ => rfl⟩
theorem mn_gw.tr {S S2 : Nat → Prop} {g g1 g2 : mn_H} (h1 : mn_gw S g g1) (h2 : mn_gw S2 g1 g2) (hs : ∀ q, q < g.1 → S2 q → S q) : mn_gw S g g2 := ⟨Nat.le_trans h1.1 h2.1, fun q hq hn => (h2.2 q (Nat.lt_of_lt_of_le hq h1.1) (fun x => hn (hs q hq x))).trans (h1.2 q hq hn)⟩
theorem mn_gw.push {S : Nat → Prop} {g g1 g2 : mn_H} {c : mn_C} (h : mn_gw S g g1) (e : g2 = mn_push g1 c) : mn_gw S g g2 := by
  subst e
  refine ⟨Nat.le_succ_of_le h.1, fun q hq hn => ?_⟩
  show (if q = g1.1 then c else g1.2 q) = g.2 q
  rw [if_neg (Nat.ne_of_lt (Nat.lt_of_lt_of_le hq h.1))]
  exact h.2 q hq hn
theorem mn_gw.set {S : Nat → Prop} {g g1 g2 : mn_H} {a : Nat} {c : mn_C} (h : mn_gw S g g1) (e : g2 = mn_set g1 a c) (hs : a < g.1 → S a) : mn_gw S g g2 := by
  subst e
  refine ⟨h.1, fun q hq hn => ?_⟩
  show (if q = a then c else g1.2 q) = g.2 q
  rw [if_neg (fun x => hn (by subst x; exact hs hq))]
  exact h.2 q hq hn
theorem EqP.gw {g g' : mn_H} {ee : Nat} {rw : Nat → Nat → Nat} {nu : Nat → Nat} {un gv : Nat} {S : Nat → Prop} (h : EqP g ee rw nu un gv) (hf : mn_gw S g g') (hs : ∀ q, ee ≤ q → q < ee + 6 → ¬ S q) : EqP g' ee rw nu un gv := by
  obtain ⟨h1, h2, h3, h4, h5⟩ := h
  exact ⟨h1.gw hf (hs _ (by omega) (by omega)), h2.gw hf (hs _ (by omega) (by omega)), fun i hi => (h3 i hi).gw hf (hs _ (by omega) (by omega)), h4.gw hf (hs _ (by omega) (by omega)), h5⟩
theorem SlP.gw {g g' : mn_H} {z : Nat} {pi ss : Nat → Nat} {sb : Nat → Nat → Nat} {S : Nat → Prop} (h : SlP g z pi ss sb) (hf : mn_gw S g g') (hs : ∀ q, z ≤ q → q < z + 122 → ¬ S q) : SlP g' z pi ss sb := by
  obtain ⟨hz, hzr, hv, hpi, hpj, hss, hsb⟩ := h
  refine ⟨hz.gw hf (hs _ (by omega) (by omega)), hzr.gw hf (hs _ (by omega) (by omega)), fun k hk => ?_, hpi, hpj, hss, hsb⟩
  have := hpi k hk
  exact ⟨(hv k hk).1.gw hf (hs _ (by omega) (by omega)), (hv k hk).2.gw hf (hs _ (by omega) (by omega))⟩
theorem mn_gw.fr {S : Nat → Prop} {g g' : mn_H} (h : mn_fr S g g') : mn_gw S g g' := ⟨Nat.le_of_eq h.1.symm, fun q _ hn => h.2 q hn⟩
set_option maxRecDepth 100000 in
theorem c_Ta_init {E : mn_En} {g : mn_H} {a : Nat} (h0 : mn_at g a (.inr (7, [.null, .int 0]))) (hn : g.1 = a + 1) : mn_R E MTa_init 1 20 1 60 0 [(0, .ref a)] [] g (fun x g' => x = none ∧ g'.1 = a + 1 + 1 ∧ mn_gw (fun q => q = a) g g' ∧ mn_at g' a (.inr (7, [.ref (a + 1), .int 0])) ∧ mn_at g' (a + 1) (.inl (0, 60, .inl (fun _ => 0)))) := by
  refine mn_aload_n 0 dTa_init_0 rfl rfl ?_
  refine mn_objInit lTa_3 oi_inst oi_code dTa_init_1 (Nat.le_of_ble_eq_true rfl) (by decide) (by decide) ?_
  refine mn_aload_n 0 dTa_init_4 rfl rfl ?_
  refine mn_bipush (v := 60) dTa_init_5 (by decide) ?_
  refine mn_newa (t := 0) (N := 60) rfl arr_int (by decide) rfl (by decide) (by decide) (by decide) dTa_init_7 ?_
  obtain ⟨g2, eg2⟩ : ∃ gg_, gg_ = mn_push g (.inl (0, 60, .inl (fun _ => 0))) := ⟨_, rfl⟩
  have hsg : g.1 = a + 1 := by omega
  rw [hsg]
  refine mn_R.toG eg2 ?_
  have hn_g2 : g2.1 = a + 1 + 1 := by rw [eg2]; show g.1 + 1 = _; rw [hsg]
  have h0_g2 : mn_at g2 a (.inr (7, [.null, .int 0])) := by rw [eg2]; exact h0.push
  have hw1_g2 : mn_at g2 (a + 1) (.inl (0, 60, .inl (fun _ => 0))) := by rw [eg2, ← hsg]; exact mn_at_new (by omega)
  clear h0 hsg
  refine mn_putF okTa 0 lTa_9 (by decide) rfl rfl rfl h0_g2 rfl rfl (Nat.le_of_ble_eq_true rfl) dTa_init_9 ?_
  obtain ⟨g3, eg3⟩ : ∃ gg_, gg_ = mn_set g2 a (.inr (7, [.ref (a + 1), .int 0])) := ⟨_, rfl⟩
  refine mn_R.toG eg3 ?_
  have h0_g3 : mn_at g3 a (.inr (7, [.ref (a + 1), .int 0])) := by rw [eg3]; exact h0_g2.same
  have hw1_g3 : mn_at g3 (a + 1) (.inl (0, 60, .inl (fun _ => 0))) := by rw [eg3]; exact hw1_g2.off (by omega)
  have hn_g3 := (show g3.1 = g2.1 by rw [eg3]; rfl).trans hn_g2
  clear h0_g2 hw1_g2 hn_g2
  exact mn_vret rfl dTa_init_12 ⟨rfl, by omega, ((mn_gw.rf.push eg2).set eg3 (fun _ => by show a = a; omega)), h0_g3, hw1_g3⟩
set_option maxRecDepth 100000 in
theorem c_Vo_init {E : mn_En} {g : mn_H} {v : Nat} (h0 : mn_at g v (.inr (8, [.null, .int 0]))) (hn : g.1 = v + 1) : mn_R E MVo_init 1 20 1 80 0 [(0, .ref v)] [] g (fun x g' => x = none ∧ g'.1 = v + 1 + 1 ∧ mn_gw (fun q => q = v) g g' ∧ mn_at g' v (.inr (8, [.ref (v + 1), .int 0])) ∧ mn_at g' (v + 1) (.inl (0, 80, .inl (fun _ => 0)))) := by
  refine mn_aload_n 0 dVo_init_0 rfl rfl ?_
  refine mn_objInit lVo_3 oi_inst oi_code dVo_init_1 (Nat.le_of_ble_eq_true rfl) (by decide) (by decide) ?_
  refine mn_aload_n 0 dVo_init_4 rfl rfl ?_
  refine mn_bipush (v := 80) dVo_init_5 (by decide) ?_
  refine mn_newa (t := 0) (N := 80) rfl arr_int (by decide) rfl (by decide) (by decide) (by decide) dVo_init_7 ?_
  obtain ⟨g2, eg2⟩ : ∃ gg_, gg_ = mn_push g (.inl (0, 80, .inl (fun _ => 0))) := ⟨_, rfl⟩
  have hsg : g.1 = v + 1 := by omega
  rw [hsg]
  refine mn_R.toG eg2 ?_
  have hn_g2 : g2.1 = v + 1 + 1 := by rw [eg2]; show g.1 + 1 = _; rw [hsg]
  have h0_g2 : mn_at g2 v (.inr (8, [.null, .int 0])) := by rw [eg2]; exact h0.push
  have hw1_g2 : mn_at g2 (v + 1) (.inl (0, 80, .inl (fun _ => 0))) := by rw [eg2, ← hsg]; exact mn_at_new (by omega)
  clear h0 hsg
  refine mn_putF okVo 0 lVo_9 (by decide) rfl rfl rfl h0_g2 rfl rfl (Nat.le_of_ble_eq_true rfl) dVo_init_9 ?_
  obtain ⟨g3, eg3⟩ : ∃ gg_, gg_ = mn_set g2 v (.inr (8, [.ref (v + 1), .int 0])) := ⟨_, rfl⟩
  refine mn_R.toG eg3 ?_
  have h0_g3 : mn_at g3 v (.inr (8, [.ref (v + 1), .int 0])) := by rw [eg3]; exact h0_g2.same
  have hw1_g3 : mn_at g3 (v + 1) (.inl (0, 80, .inl (fun _ => 0))) := by rw [eg3]; exact hw1_g2.off (by omega)
  have hn_g3 := (show g3.1 = g2.1 by rw [eg3]; rfl).trans hn_g2
  clear h0_g2 hw1_g2 hn_g2
  exact mn_vret rfl dVo_init_12 ⟨rfl, by omega, ((mn_gw.rf.push eg2).set eg3 (fun _ => by show v = v; omega)), h0_g3, hw1_g3⟩
set_option maxRecDepth 100000 in
theorem c_Op_init {E : mn_En} {g : mn_H} {op : Nat} (h0 : mn_at g op (.inr (1, [.null, .null, .null, .int 0]))) (hn : g.1 = op + 1) : mn_R E MOp_init 1 20 3 120 0 [(0, .ref op)] [] g (fun x g' => x = none ∧ g'.1 = op + 1 + 3 ∧ mn_gw (fun q => q = op) g g' ∧ mn_at g' op (.inr (1, [.ref (op + 1), .ref (op + 2), .ref (op + 3), .int 0])) ∧ mn_at g' (op + 1) (.inl (0, 40, .inl (fun _ => 0))) ∧ mn_at g' (op + 2) (.inl (0, 40, .inl (fun _ => 0))) ∧ mn_at g' (op + 3) (.inl (0, 40, .inl (fun _ => 0)))) := by
  refine mn_aload_n 0 dOp_init_0 rfl rfl ?_
  refine mn_objInit lOp_3 oi_inst oi_code dOp_init_1 (Nat.le_of_ble_eq_true rfl) (by decide) (by decide) ?_
  refine mn_aload_n 0 dOp_init_4 rfl rfl ?_
  refine mn_bipush (v := 40) dOp_init_5 (by decide) ?_
  refine mn_newa (t := 0) (N := 40) rfl arr_int (by decide) rfl (by decide) (by decide) (by decide) dOp_init_7 ?_
  obtain ⟨g2, eg2⟩ : ∃ gg_, gg_ = mn_push g (.inl (0, 40, .inl (fun _ => 0))) := ⟨_, rfl⟩
  have hsg : g.1 = op + 1 := by omega
  rw [hsg]
  refine mn_R.toG eg2 ?_
  have hn_g2 : g2.1 = op + 1 + 1 := by rw [eg2]; show g.1 + 1 = _; rw [hsg]
  have h0_g2 : mn_at g2 op (.inr (1, [.null, .null, .null, .int 0])) := by rw [eg2]; exact h0.push
  have hw1_g2 : mn_at g2 (op + 1) (.inl (0, 40, .inl (fun _ => 0))) := by rw [eg2, ← hsg]; exact mn_at_new (by omega)
  clear h0 hsg
  refine mn_putF okOp 0 lOp_9 (by decide) rfl rfl rfl h0_g2 rfl rfl (Nat.le_of_ble_eq_true rfl) dOp_init_9 ?_
  obtain ⟨g3, eg3⟩ : ∃ gg_, gg_ = mn_set g2 op (.inr (1, [.ref (op + 1), .null, .null, .int 0])) := ⟨_, rfl⟩
  refine mn_R.toG eg3 ?_
  have h0_g3 : mn_at g3 op (.inr (1, [.ref (op + 1), .null, .null, .int 0])) := by rw [eg3]; exact h0_g2.same
  have hw1_g3 : mn_at g3 (op + 1) (.inl (0, 40, .inl (fun _ => 0))) := by rw [eg3]; exact hw1_g2.off (by omega)
  have hn_g3 := (show g3.1 = g2.1 by rw [eg3]; rfl).trans hn_g2
  clear h0_g2 hw1_g2 hn_g2
  refine mn_aload_n 0 dOp_init_12 rfl rfl ?_
  refine mn_bipush (v := 40) dOp_init_13 (by decide) ?_
  refine mn_newa (t := 0) (N := 40) rfl arr_int (by decide) rfl (by decide) (by decide) (by decide) dOp_init_15 ?_
  obtain ⟨g5, eg5⟩ : ∃ gg_, gg_ = mn_push g3 (.inl (0, 40, .inl (fun _ => 0))) := ⟨_, rfl⟩
  have hsg3 : g3.1 = op + 2 := by omega
  rw [hsg3]
  refine mn_R.toG eg5 ?_
  have hn_g5 : g5.1 = op + 2 + 1 := by rw [eg5]; show g3.1 + 1 = _; rw [hsg3]
  have h0_g5 : mn_at g5 op (.inr (1, [.ref (op + 1), .null, .null, .int 0])) := by rw [eg5]; exact h0_g3.push
  have hw1_g5 : mn_at g5 (op + 1) (.inl (0, 40, .inl (fun _ => 0))) := by rw [eg5]; exact hw1_g3.push
  have hw4_g5 : mn_at g5 (op + 2) (.inl (0, 40, .inl (fun _ => 0))) := by rw [eg5, ← hsg3]; exact mn_at_new (by omega)
  clear h0_g3 hw1_g3 hn_g3 hsg3
  refine mn_putF okOp 1 lOp_15 (by decide) rfl rfl rfl h0_g5 rfl rfl (Nat.le_of_ble_eq_true rfl) dOp_init_17 ?_
  obtain ⟨g6, eg6⟩ : ∃ gg_, gg_ = mn_set g5 op (.inr (1, [.ref (op + 1), .ref (op + 2), .null, .int 0])) := ⟨_, rfl⟩
  refine mn_R.toG eg6 ?_
  have h0_g6 : mn_at g6 op (.inr (1, [.ref (op + 1), .ref (op + 2), .null, .int 0])) := by rw [eg6]; exact h0_g5.same
  have hw1_g6 : mn_at g6 (op + 1) (.inl (0, 40, .inl (fun _ => 0))) := by rw [eg6]; exact hw1_g5.off (by omega)
  have hw4_g6 : mn_at g6 (op + 2) (.inl (0, 40, .inl (fun _ => 0))) := by rw [eg6]; exact hw4_g5.off (by omega)
  have hn_g6 := (show g6.1 = g5.1 by rw [eg6]; rfl).trans hn_g5
  clear h0_g5 hw1_g5 hw4_g5 hn_g5
  refine mn_aload_n 0 dOp_init_20 rfl rfl ?_
  refine mn_bipush (v := 40) dOp_init_21 (by decide) ?_
  refine mn_newa (t := 0) (N := 40) rfl arr_int (by decide) rfl (by decide) (by decide) (by decide) dOp_init_23 ?_
  obtain ⟨g8, eg8⟩ : ∃ gg_, gg_ = mn_push g6 (.inl (0, 40, .inl (fun _ => 0))) := ⟨_, rfl⟩
  have hsg6 : g6.1 = op + 3 := by omega
  rw [hsg6]
  refine mn_R.toG eg8 ?_
  have hn_g8 : g8.1 = op + 3 + 1 := by rw [eg8]; show g6.1 + 1 = _; rw [hsg6]
  have h0_g8 : mn_at g8 op (.inr (1, [.ref (op + 1), .ref (op + 2), .null, .int 0])) := by rw [eg8]; exact h0_g6.push
  have hw1_g8 : mn_at g8 (op + 1) (.inl (0, 40, .inl (fun _ => 0))) := by rw [eg8]; exact hw1_g6.push
  have hw4_g8 : mn_at g8 (op + 2) (.inl (0, 40, .inl (fun _ => 0))) := by rw [eg8]; exact hw4_g6.push
  have hw7_g8 : mn_at g8 (op + 3) (.inl (0, 40, .inl (fun _ => 0))) := by rw [eg8, ← hsg6]; exact mn_at_new (by omega)
  clear h0_g6 hw1_g6 hw4_g6 hn_g6 hsg6
  refine mn_putF okOp 2 lOp_18 (by decide) rfl rfl rfl h0_g8 rfl rfl (Nat.le_of_ble_eq_true rfl) dOp_init_25 ?_
  obtain ⟨g9, eg9⟩ : ∃ gg_, gg_ = mn_set g8 op (.inr (1, [.ref (op + 1), .ref (op + 2), .ref (op + 3), .int 0])) := ⟨_, rfl⟩
  refine mn_R.toG eg9 ?_
  have h0_g9 : mn_at g9 op (.inr (1, [.ref (op + 1), .ref (op + 2), .ref (op + 3), .int 0])) := by rw [eg9]; exact h0_g8.same
  have hw1_g9 : mn_at g9 (op + 1) (.inl (0, 40, .inl (fun _ => 0))) := by rw [eg9]; exact hw1_g8.off (by omega)
  have hw4_g9 : mn_at g9 (op + 2) (.inl (0, 40, .inl (fun _ => 0))) := by rw [eg9]; exact hw4_g8.off (by omega)
  have hw7_g9 : mn_at g9 (op + 3) (.inl (0, 40, .inl (fun _ => 0))) := by rw [eg9]; exact hw7_g8.off (by omega)
  have hn_g9 := (show g9.1 = g8.1 by rw [eg9]; rfl).trans hn_g8
  clear h0_g8 hw1_g8 hw4_g8 hw7_g8 hn_g8
  exact mn_vret rfl dOp_init_28 ⟨rfl, by omega, ((((((mn_gw.rf.push eg2).set eg3 (fun _ => by show op = op; omega)).push eg5).set eg6 (fun _ => by show op = op; omega)).push eg8).set eg9 (fun _ => by show op = op; omega)), h0_g9, hw1_g9, hw4_g9, hw7_g9⟩
set_option maxRecDepth 100000 in
theorem c_Pc_init1340 {E : mn_En} {g : mn_H} {a : Nat} (h0 : mn_at g a (.inr (2, [.null, .null, .null, .int 0, .int 0]))) (hn : g.1 = a + 1) : mn_R E MPc_init 1 21 3 1460 0 [(0, .ref a), (1, .int 1340)] [] g (fun x g' => x = none ∧ g'.1 = a + 1 + 3 ∧ mn_gw (fun q => q = a) g g' ∧ mn_at g' a (.inr (2, [.ref (a + 3), .ref (a + 1), .ref (a + 2), .int 0, .int 0])) ∧ mn_at g' (a + 3) (.inl (0, 1340, .inl (fun _ => 0))) ∧ mn_at g' (a + 1) (.inl (0, 60, .inl (fun _ => 0))) ∧ mn_at g' (a + 2) (.inl (0, 60, .inl (fun _ => 0)))) := by
  refine mn_aload_n 0 dPc_init_0 rfl rfl ?_
  refine mn_objInit lPc_3 oi_inst oi_code dPc_init_1 (Nat.le_of_ble_eq_true rfl) (by decide) (by decide) ?_
  refine mn_aload_n 0 dPc_init_4 rfl rfl ?_
  refine mn_bipush (v := 60) dPc_init_5 (by decide) ?_
  refine mn_newa (t := 0) (N := 60) rfl arr_int (by decide) rfl (by decide) (by decide) (by decide) dPc_init_7 ?_
  obtain ⟨g2, eg2⟩ : ∃ gg_, gg_ = mn_push g (.inl (0, 60, .inl (fun _ => 0))) := ⟨_, rfl⟩
  have hsg : g.1 = a + 1 := by omega
  rw [hsg]
  refine mn_R.toG eg2 ?_
  have hn_g2 : g2.1 = a + 1 + 1 := by rw [eg2]; show g.1 + 1 = _; rw [hsg]
  have h0_g2 : mn_at g2 a (.inr (2, [.null, .null, .null, .int 0, .int 0])) := by rw [eg2]; exact h0.push
  have hw1_g2 : mn_at g2 (a + 1) (.inl (0, 60, .inl (fun _ => 0))) := by rw [eg2, ← hsg]; exact mn_at_new (by omega)
  clear h0 hsg
  refine mn_putF okPc 1 lPc_9 (by decide) rfl rfl rfl h0_g2 rfl rfl (Nat.le_of_ble_eq_true rfl) dPc_init_9 ?_
  obtain ⟨g3, eg3⟩ : ∃ gg_, gg_ = mn_set g2 a (.inr (2, [.null, .ref (a + 1), .null, .int 0, .int 0])) := ⟨_, rfl⟩
  refine mn_R.toG eg3 ?_
  have h0_g3 : mn_at g3 a (.inr (2, [.null, .ref (a + 1), .null, .int 0, .int 0])) := by rw [eg3]; exact h0_g2.same
  have hw1_g3 : mn_at g3 (a + 1) (.inl (0, 60, .inl (fun _ => 0))) := by rw [eg3]; exact hw1_g2.off (by omega)
  have hn_g3 := (show g3.1 = g2.1 by rw [eg3]; rfl).trans hn_g2
  clear h0_g2 hw1_g2 hn_g2
  refine mn_aload_n 0 dPc_init_12 rfl rfl ?_
  refine mn_bipush (v := 60) dPc_init_13 (by decide) ?_
  refine mn_newa (t := 0) (N := 60) rfl arr_int (by decide) rfl (by decide) (by decide) (by decide) dPc_init_15 ?_
  obtain ⟨g5, eg5⟩ : ∃ gg_, gg_ = mn_push g3 (.inl (0, 60, .inl (fun _ => 0))) := ⟨_, rfl⟩
  have hsg3 : g3.1 = a + 2 := by omega
  rw [hsg3]
  refine mn_R.toG eg5 ?_
  have hn_g5 : g5.1 = a + 2 + 1 := by rw [eg5]; show g3.1 + 1 = _; rw [hsg3]
  have h0_g5 : mn_at g5 a (.inr (2, [.null, .ref (a + 1), .null, .int 0, .int 0])) := by rw [eg5]; exact h0_g3.push
  have hw1_g5 : mn_at g5 (a + 1) (.inl (0, 60, .inl (fun _ => 0))) := by rw [eg5]; exact hw1_g3.push
  have hw4_g5 : mn_at g5 (a + 2) (.inl (0, 60, .inl (fun _ => 0))) := by rw [eg5, ← hsg3]; exact mn_at_new (by omega)
  clear h0_g3 hw1_g3 hn_g3 hsg3
  refine mn_putF okPc 2 lPc_15 (by decide) rfl rfl rfl h0_g5 rfl rfl (Nat.le_of_ble_eq_true rfl) dPc_init_17 ?_
  obtain ⟨g6, eg6⟩ : ∃ gg_, gg_ = mn_set g5 a (.inr (2, [.null, .ref (a + 1), .ref (a + 2), .int 0, .int 0])) := ⟨_, rfl⟩
  refine mn_R.toG eg6 ?_
  have h0_g6 : mn_at g6 a (.inr (2, [.null, .ref (a + 1), .ref (a + 2), .int 0, .int 0])) := by rw [eg6]; exact h0_g5.same
  have hw1_g6 : mn_at g6 (a + 1) (.inl (0, 60, .inl (fun _ => 0))) := by rw [eg6]; exact hw1_g5.off (by omega)
  have hw4_g6 : mn_at g6 (a + 2) (.inl (0, 60, .inl (fun _ => 0))) := by rw [eg6]; exact hw4_g5.off (by omega)
  have hn_g6 := (show g6.1 = g5.1 by rw [eg6]; rfl).trans hn_g5
  clear h0_g5 hw1_g5 hw4_g5 hn_g5
  refine mn_aload_n 0 dPc_init_20 rfl rfl ?_
  refine mn_iconst (v := 0) dPc_init_21 (by decide) ?_
  refine mn_iload_n 1 dPc_init_22 rfl rfl ?_
  refine mn_max (z := 1340) (by decide) lPc_18 max_st math_ini max_code (Nat.le_of_ble_eq_true rfl) (by decide) (by decide) dPc_init_23 ?_
  refine mn_newa (t := 0) (N := 1340) rfl arr_int (by decide) rfl (by decide) (by decide) (by decide) dPc_init_26 ?_
  obtain ⟨g8, eg8⟩ : ∃ gg_, gg_ = mn_push g6 (.inl (0, 1340, .inl (fun _ => 0))) := ⟨_, rfl⟩
  have hsg6 : g6.1 = a + 3 := by omega
  rw [hsg6]
  refine mn_R.toG eg8 ?_
  have hn_g8 : g8.1 = a + 3 + 1 := by rw [eg8]; show g6.1 + 1 = _; rw [hsg6]
  have h0_g8 : mn_at g8 a (.inr (2, [.null, .ref (a + 1), .ref (a + 2), .int 0, .int 0])) := by rw [eg8]; exact h0_g6.push
  have hw1_g8 : mn_at g8 (a + 1) (.inl (0, 60, .inl (fun _ => 0))) := by rw [eg8]; exact hw1_g6.push
  have hw4_g8 : mn_at g8 (a + 2) (.inl (0, 60, .inl (fun _ => 0))) := by rw [eg8]; exact hw4_g6.push
  have hw7_g8 : mn_at g8 (a + 3) (.inl (0, 1340, .inl (fun _ => 0))) := by rw [eg8, ← hsg6]; exact mn_at_new (by omega)
  clear h0_g6 hw1_g6 hw4_g6 hn_g6 hsg6
  refine mn_putF okPc 0 lPc_24 (by decide) rfl rfl rfl h0_g8 rfl rfl (Nat.le_of_ble_eq_true rfl) dPc_init_28 ?_
  obtain ⟨g9, eg9⟩ : ∃ gg_, gg_ = mn_set g8 a (.inr (2, [.ref (a + 3), .ref (a + 1), .ref (a + 2), .int 0, .int 0])) := ⟨_, rfl⟩
  refine mn_R.toG eg9 ?_
  have h0_g9 : mn_at g9 a (.inr (2, [.ref (a + 3), .ref (a + 1), .ref (a + 2), .int 0, .int 0])) := by rw [eg9]; exact h0_g8.same
  have hw1_g9 : mn_at g9 (a + 1) (.inl (0, 60, .inl (fun _ => 0))) := by rw [eg9]; exact hw1_g8.off (by omega)
  have hw4_g9 : mn_at g9 (a + 2) (.inl (0, 60, .inl (fun _ => 0))) := by rw [eg9]; exact hw4_g8.off (by omega)
  have hw7_g9 : mn_at g9 (a + 3) (.inl (0, 1340, .inl (fun _ => 0))) := by rw [eg9]; exact hw7_g8.off (by omega)
  have hn_g9 := (show g9.1 = g8.1 by rw [eg9]; rfl).trans hn_g8
  clear h0_g8 hw1_g8 hw4_g8 hw7_g8 hn_g8
  exact mn_vret rfl dPc_init_31 ⟨rfl, by omega, ((((((mn_gw.rf.push eg2).set eg3 (fun _ => by show a = a; omega)).push eg5).set eg6 (fun _ => by show a = a; omega)).push eg8).set eg9 (fun _ => by show a = a; omega)), h0_g9, hw7_g9, hw1_g9, hw4_g9⟩
set_option maxRecDepth 100000 in
theorem c_Pc_init4080 {E : mn_En} {g : mn_H} {a : Nat} (h0 : mn_at g a (.inr (2, [.null, .null, .null, .int 0, .int 0]))) (hn : g.1 = a + 1) : mn_R E MPc_init 1 21 3 4200 0 [(0, .ref a), (1, .int 4080)] [] g (fun x g' => x = none ∧ g'.1 = a + 1 + 3 ∧ mn_gw (fun q => q = a) g g' ∧ mn_at g' a (.inr (2, [.ref (a + 3), .ref (a + 1), .ref (a + 2), .int 0, .int 0])) ∧ mn_at g' (a + 3) (.inl (0, 4080, .inl (fun _ => 0))) ∧ mn_at g' (a + 1) (.inl (0, 60, .inl (fun _ => 0))) ∧ mn_at g' (a + 2) (.inl (0, 60, .inl (fun _ => 0)))) := by
  refine mn_aload_n 0 dPc_init_0 rfl rfl ?_
  refine mn_objInit lPc_3 oi_inst oi_code dPc_init_1 (Nat.le_of_ble_eq_true rfl) (by decide) (by decide) ?_
  refine mn_aload_n 0 dPc_init_4 rfl rfl ?_
  refine mn_bipush (v := 60) dPc_init_5 (by decide) ?_
  refine mn_newa (t := 0) (N := 60) rfl arr_int (by decide) rfl (by decide) (by decide) (by decide) dPc_init_7 ?_
  obtain ⟨g2, eg2⟩ : ∃ gg_, gg_ = mn_push g (.inl (0, 60, .inl (fun _ => 0))) := ⟨_, rfl⟩
  have hsg : g.1 = a + 1 := by omega
  rw [hsg]
  refine mn_R.toG eg2 ?_
  have hn_g2 : g2.1 = a + 1 + 1 := by rw [eg2]; show g.1 + 1 = _; rw [hsg]
  have h0_g2 : mn_at g2 a (.inr (2, [.null, .null, .null, .int 0, .int 0])) := by rw [eg2]; exact h0.push
  have hw1_g2 : mn_at g2 (a + 1) (.inl (0, 60, .inl (fun _ => 0))) := by rw [eg2, ← hsg]; exact mn_at_new (by omega)
  clear h0 hsg
  refine mn_putF okPc 1 lPc_9 (by decide) rfl rfl rfl h0_g2 rfl rfl (Nat.le_of_ble_eq_true rfl) dPc_init_9 ?_
  obtain ⟨g3, eg3⟩ : ∃ gg_, gg_ = mn_set g2 a (.inr (2, [.null, .ref (a + 1), .null, .int 0, .int 0])) := ⟨_, rfl⟩
  refine mn_R.toG eg3 ?_
  have h0_g3 : mn_at g3 a (.inr (2, [.null, .ref (a + 1), .null, .int 0, .int 0])) := by rw [eg3]; exact h0_g2.same
  have hw1_g3 : mn_at g3 (a + 1) (.inl (0, 60, .inl (fun _ => 0))) := by rw [eg3]; exact hw1_g2.off (by omega)
  have hn_g3 := (show g3.1 = g2.1 by rw [eg3]; rfl).trans hn_g2
  clear h0_g2 hw1_g2 hn_g2
  refine mn_aload_n 0 dPc_init_12 rfl rfl ?_
  refine mn_bipush (v := 60) dPc_init_13 (by decide) ?_
  refine mn_newa (t := 0) (N := 60) rfl arr_int (by decide) rfl (by decide) (by decide) (by decide) dPc_init_15 ?_
  obtain ⟨g5, eg5⟩ : ∃ gg_, gg_ = mn_push g3 (.inl (0, 60, .inl (fun _ => 0))) := ⟨_, rfl⟩
  have hsg3 : g3.1 = a + 2 := by omega
  rw [hsg3]
  refine mn_R.toG eg5 ?_
  have hn_g5 : g5.1 = a + 2 + 1 := by rw [eg5]; show g3.1 + 1 = _; rw [hsg3]
  have h0_g5 : mn_at g5 a (.inr (2, [.null, .ref (a + 1), .null, .int 0, .int 0])) := by rw [eg5]; exact h0_g3.push
  have hw1_g5 : mn_at g5 (a + 1) (.inl (0, 60, .inl (fun _ => 0))) := by rw [eg5]; exact hw1_g3.push
  have hw4_g5 : mn_at g5 (a + 2) (.inl (0, 60, .inl (fun _ => 0))) := by rw [eg5, ← hsg3]; exact mn_at_new (by omega)
  clear h0_g3 hw1_g3 hn_g3 hsg3
  refine mn_putF okPc 2 lPc_15 (by decide) rfl rfl rfl h0_g5 rfl rfl (Nat.le_of_ble_eq_true rfl) dPc_init_17 ?_
  obtain ⟨g6, eg6⟩ : ∃ gg_, gg_ = mn_set g5 a (.inr (2, [.null, .ref (a + 1), .ref (a + 2), .int 0, .int 0])) := ⟨_, rfl⟩
  refine mn_R.toG eg6 ?_
  have h0_g6 : mn_at g6 a (.inr (2, [.null, .ref (a + 1), .ref (a + 2), .int 0, .int 0])) := by rw [eg6]; exact h0_g5.same
  have hw1_g6 : mn_at g6 (a + 1) (.inl (0, 60, .inl (fun _ => 0))) := by rw [eg6]; exact hw1_g5.off (by omega)
  have hw4_g6 : mn_at g6 (a + 2) (.inl (0, 60, .inl (fun _ => 0))) := by rw [eg6]; exact hw4_g5.off (by omega)
  have hn_g6 := (show g6.1 = g5.1 by rw [eg6]; rfl).trans hn_g5
  clear h0_g5 hw1_g5 hw4_g5 hn_g5
  refine mn_aload_n 0 dPc_init_20 rfl rfl ?_
  refine mn_iconst (v := 0) dPc_init_21 (by decide) ?_
  refine mn_iload_n 1 dPc_init_22 rfl rfl ?_
  refine mn_max (z := 4080) (by decide) lPc_18 max_st math_ini max_code (Nat.le_of_ble_eq_true rfl) (by decide) (by decide) dPc_init_23 ?_
  refine mn_newa (t := 0) (N := 4080) rfl arr_int (by decide) rfl (by decide) (by decide) (by decide) dPc_init_26 ?_
  obtain ⟨g8, eg8⟩ : ∃ gg_, gg_ = mn_push g6 (.inl (0, 4080, .inl (fun _ => 0))) := ⟨_, rfl⟩
  have hsg6 : g6.1 = a + 3 := by omega
  rw [hsg6]
  refine mn_R.toG eg8 ?_
  have hn_g8 : g8.1 = a + 3 + 1 := by rw [eg8]; show g6.1 + 1 = _; rw [hsg6]
  have h0_g8 : mn_at g8 a (.inr (2, [.null, .ref (a + 1), .ref (a + 2), .int 0, .int 0])) := by rw [eg8]; exact h0_g6.push
  have hw1_g8 : mn_at g8 (a + 1) (.inl (0, 60, .inl (fun _ => 0))) := by rw [eg8]; exact hw1_g6.push
  have hw4_g8 : mn_at g8 (a + 2) (.inl (0, 60, .inl (fun _ => 0))) := by rw [eg8]; exact hw4_g6.push
  have hw7_g8 : mn_at g8 (a + 3) (.inl (0, 4080, .inl (fun _ => 0))) := by rw [eg8, ← hsg6]; exact mn_at_new (by omega)
  clear h0_g6 hw1_g6 hw4_g6 hn_g6 hsg6
  refine mn_putF okPc 0 lPc_24 (by decide) rfl rfl rfl h0_g8 rfl rfl (Nat.le_of_ble_eq_true rfl) dPc_init_28 ?_
  obtain ⟨g9, eg9⟩ : ∃ gg_, gg_ = mn_set g8 a (.inr (2, [.ref (a + 3), .ref (a + 1), .ref (a + 2), .int 0, .int 0])) := ⟨_, rfl⟩
  refine mn_R.toG eg9 ?_
  have h0_g9 : mn_at g9 a (.inr (2, [.ref (a + 3), .ref (a + 1), .ref (a + 2), .int 0, .int 0])) := by rw [eg9]; exact h0_g8.same
  have hw1_g9 : mn_at g9 (a + 1) (.inl (0, 60, .inl (fun _ => 0))) := by rw [eg9]; exact hw1_g8.off (by omega)
  have hw4_g9 : mn_at g9 (a + 2) (.inl (0, 60, .inl (fun _ => 0))) := by rw [eg9]; exact hw4_g8.off (by omega)
  have hw7_g9 : mn_at g9 (a + 3) (.inl (0, 4080, .inl (fun _ => 0))) := by rw [eg9]; exact hw7_g8.off (by omega)
  have hn_g9 := (show g9.1 = g8.1 by rw [eg9]; rfl).trans hn_g8
  clear h0_g8 hw1_g8 hw4_g8 hw7_g8 hn_g8
  exact mn_vret rfl dPc_init_31 ⟨rfl, by omega, ((((((mn_gw.rf.push eg2).set eg3 (fun _ => by show a = a; omega)).push eg5).set eg6 (fun _ => by show a = a; omega)).push eg8).set eg9 (fun _ => by show a = a; omega)), h0_g9, hw7_g9, hw1_g9, hw4_g9⟩
set_option maxRecDepth 100000 in
theorem c_St_init {E : mn_En} {g : mn_H} {s : Nat} (h0 : mn_at g s (.inr (6, [.null, .null, .int 0, .int 0]))) (hn : g.1 = s + 1) : mn_R E MSt_init 2 42 5 1485 0 [(0, .ref s)] [] g (fun x g' => x = none ∧ g'.1 = s + 1 + 5 ∧ mn_gw (fun q => q = s) g g' ∧ mn_at g' s (.inr (6, [.ref (s + 1), .ref (s + 5), .int 0, .int 0])) ∧ mn_at g' (s + 1) (.inr (2, [.ref (s + 1 + 3), .ref (s + 1 + 1), .ref (s + 1 + 2), .int 0, .int 0])) ∧ mn_at g' (s + 1 + 3) (.inl (0, 1340, .inl (fun _ => 0))) ∧ mn_at g' (s + 1 + 1) (.inl (0, 60, .inl (fun _ => 0))) ∧ mn_at g' (s + 1 + 2) (.inl (0, 60, .inl (fun _ => 0))) ∧ mn_at g' (s + 5) (.inl (0, 20, .inl (fun _ => 0)))) := by
  refine mn_aload_n 0 dSt_init_0 rfl rfl ?_
  refine mn_objInit lSt_3 oi_inst oi_code dSt_init_1 (Nat.le_of_ble_eq_true rfl) (by decide) (by decide) ?_
  refine mn_aload_n 0 dSt_init_4 rfl rfl ?_
  refine mn_new okPc [.null, .null, .null, .int 0, .int 0] lSt_9 inst_Pc ini_Pc rfl (by decide) (by decide) dSt_init_5 ?_
  obtain ⟨g2, eg2⟩ : ∃ gg_, gg_ = mn_push g (.inr (2, [.null, .null, .null, .int 0, .int 0])) := ⟨_, rfl⟩
  have hsg : g.1 = s + 1 := by omega
  rw [hsg]
  refine mn_R.toG eg2 ?_
  have hn_g2 : g2.1 = s + 1 + 1 := by rw [eg2]; show g.1 + 1 = _; rw [hsg]
  have h0_g2 : mn_at g2 s (.inr (6, [.null, .null, .int 0, .int 0])) := by rw [eg2]; exact h0.push
  have hw1_g2 : mn_at g2 (s + 1) (.inr (2, [.null, .null, .null, .int 0, .int 0])) := by rw [eg2, ← hsg]; exact mn_at_new (by omega)
  clear h0 hsg
  refine mn_dup dSt_init_8 rfl ?_
  refine mn_sipush (v := 1340) dSt_init_9 (by decide) ?_
  refine mn_callI (d' := 1) (w' := 21) (nc' := 3) (ns' := 1460) (As := [.int 1340]) (st := [.ref (s + 1), .ref s]) okPc_init lSt_13 dSt_init_12 rfl rfl (Nat.le_of_ble_eq_true rfl) (Nat.le_of_ble_eq_true rfl) (by decide) (c_Pc_init1340 hw1_g2 (by omega)) (fun v g3 hq => ?_)
  obtain ⟨rfl, hn_g3, fg3, hpa_g3, hpb_g3, hpl_g3, hps_g3⟩ := hq
  show mn_R E MSt_init 2 42 _ _ 15 [(0, .ref s)] [.ref (s + 1), .ref s] g3 _
  have h0_g3 := h0_g2.gw fg3 (fun h => by have h9 : s = (s + 1) := h; omega)
  clear h0_g2 hw1_g2 hn_g2
  refine mn_putF okSt 0 lSt_16 (by decide) rfl rfl rfl h0_g3 rfl rfl (Nat.le_of_ble_eq_true rfl) dSt_init_15 ?_
  obtain ⟨g4, eg4⟩ : ∃ gg_, gg_ = mn_set g3 s (.inr (6, [.ref (s + 1), .null, .int 0, .int 0])) := ⟨_, rfl⟩
  refine mn_R.toG eg4 ?_
  have h0_g4 : mn_at g4 s (.inr (6, [.ref (s + 1), .null, .int 0, .int 0])) := by rw [eg4]; exact h0_g3.same
  have hpa_g4 : mn_at g4 (s + 1) (.inr (2, [.ref (s + 1 + 3), .ref (s + 1 + 1), .ref (s + 1 + 2), .int 0, .int 0])) := by rw [eg4]; exact hpa_g3.off (by omega)
  have hpb_g4 : mn_at g4 (s + 1 + 3) (.inl (0, 1340, .inl (fun _ => 0))) := by rw [eg4]; exact hpb_g3.off (by omega)
  have hpl_g4 : mn_at g4 (s + 1 + 1) (.inl (0, 60, .inl (fun _ => 0))) := by rw [eg4]; exact hpl_g3.off (by omega)
  have hps_g4 : mn_at g4 (s + 1 + 2) (.inl (0, 60, .inl (fun _ => 0))) := by rw [eg4]; exact hps_g3.off (by omega)
  have hn_g4 := (show g4.1 = g3.1 by rw [eg4]; rfl).trans hn_g3
  clear h0_g3 hpa_g3 hpb_g3 hpl_g3 hps_g3 hn_g3
  refine mn_aload_n 0 dSt_init_18 rfl rfl ?_
  refine mn_bipush (v := 20) dSt_init_19 (by decide) ?_
  refine mn_newa (t := 0) (N := 20) rfl arr_int (by decide) rfl (by decide) (by decide) (by decide) dSt_init_21 ?_
  obtain ⟨g6, eg6⟩ : ∃ gg_, gg_ = mn_push g4 (.inl (0, 20, .inl (fun _ => 0))) := ⟨_, rfl⟩
  have hsg4 : g4.1 = s + 5 := by omega
  rw [hsg4]
  refine mn_R.toG eg6 ?_
  have hn_g6 : g6.1 = s + 5 + 1 := by rw [eg6]; show g4.1 + 1 = _; rw [hsg4]
  have h0_g6 : mn_at g6 s (.inr (6, [.ref (s + 1), .null, .int 0, .int 0])) := by rw [eg6]; exact h0_g4.push
  have hpa_g6 : mn_at g6 (s + 1) (.inr (2, [.ref (s + 1 + 3), .ref (s + 1 + 1), .ref (s + 1 + 2), .int 0, .int 0])) := by rw [eg6]; exact hpa_g4.push
  have hpb_g6 : mn_at g6 (s + 1 + 3) (.inl (0, 1340, .inl (fun _ => 0))) := by rw [eg6]; exact hpb_g4.push
  have hpl_g6 : mn_at g6 (s + 1 + 1) (.inl (0, 60, .inl (fun _ => 0))) := by rw [eg6]; exact hpl_g4.push
  have hps_g6 : mn_at g6 (s + 1 + 2) (.inl (0, 60, .inl (fun _ => 0))) := by rw [eg6]; exact hps_g4.push
  have hw5_g6 : mn_at g6 (s + 5) (.inl (0, 20, .inl (fun _ => 0))) := by rw [eg6, ← hsg4]; exact mn_at_new (by omega)
  clear h0_g4 hpa_g4 hpb_g4 hpl_g4 hps_g4 hn_g4 hsg4
  refine mn_putF okSt 1 lSt_20 (by decide) rfl rfl rfl h0_g6 rfl rfl (Nat.le_of_ble_eq_true rfl) dSt_init_23 ?_
  obtain ⟨g7, eg7⟩ : ∃ gg_, gg_ = mn_set g6 s (.inr (6, [.ref (s + 1), .ref (s + 5), .int 0, .int 0])) := ⟨_, rfl⟩
  refine mn_R.toG eg7 ?_
  have h0_g7 : mn_at g7 s (.inr (6, [.ref (s + 1), .ref (s + 5), .int 0, .int 0])) := by rw [eg7]; exact h0_g6.same
  have hpa_g7 : mn_at g7 (s + 1) (.inr (2, [.ref (s + 1 + 3), .ref (s + 1 + 1), .ref (s + 1 + 2), .int 0, .int 0])) := by rw [eg7]; exact hpa_g6.off (by omega)
  have hpb_g7 : mn_at g7 (s + 1 + 3) (.inl (0, 1340, .inl (fun _ => 0))) := by rw [eg7]; exact hpb_g6.off (by omega)
  have hpl_g7 : mn_at g7 (s + 1 + 1) (.inl (0, 60, .inl (fun _ => 0))) := by rw [eg7]; exact hpl_g6.off (by omega)
  have hps_g7 : mn_at g7 (s + 1 + 2) (.inl (0, 60, .inl (fun _ => 0))) := by rw [eg7]; exact hps_g6.off (by omega)
  have hw5_g7 : mn_at g7 (s + 5) (.inl (0, 20, .inl (fun _ => 0))) := by rw [eg7]; exact hw5_g6.off (by omega)
  have hn_g7 := (show g7.1 = g6.1 by rw [eg7]; rfl).trans hn_g6
  clear h0_g6 hpa_g6 hpb_g6 hpl_g6 hps_g6 hw5_g6 hn_g6
  exact mn_vret rfl dSt_init_26 ⟨rfl, by omega, (((((mn_gw.rf.push eg2).tr fg3 (fun q _ h => by have h9 : q = s + 1 := h; show q = s; omega)).set eg4 (fun _ => by show s = s; omega)).push eg6).set eg7 (fun _ => by show s = s; omega)), h0_g7, hpa_g7, hpb_g7, hpl_g7, hps_g7, hw5_g7⟩
set_option maxRecDepth 100000 in
theorem c_Ru_init {E : mn_En} {g : mn_H} {u : Nat} (h0 : mn_at g u (.inr (4, [.int 0, .int 0, .int 0]))) (hn : g.1 = u + 1) : mn_R E MRu_init 1 20 0 0 0 [(0, .ref u)] [] g (fun x g' => x = none ∧ g'.1 = u + 1 + 0 ∧ mn_gw (fun q => q = u) g g' ∧ mn_at g' u (.inr (4, [.int 32, .int 0, .int 0]))) := by
  refine mn_aload_n 0 dRu_init_0 rfl rfl ?_
  refine mn_objInit lRu_3 oi_inst oi_code dRu_init_1 (Nat.le_of_ble_eq_true rfl) (by decide) (by decide) ?_
  refine mn_aload_n 0 dRu_init_4 rfl rfl ?_
  refine mn_bipush (v := 32) dRu_init_5 (by decide) ?_
  refine mn_putf okRu 0 lRu_9 (by decide) rfl h0 rfl rfl (Nat.le_of_ble_eq_true rfl) dRu_init_7 ?_
  obtain ⟨g1, eg1⟩ : ∃ gg_, gg_ = mn_set g u (.inr (4, [.int 32, .int 0, .int 0])) := ⟨_, rfl⟩
  refine mn_R.toG eg1 ?_
  have h0_g1 : mn_at g1 u (.inr (4, [.int 32, .int 0, .int 0])) := by rw [eg1]; exact h0.same
  have hn_g1 := (show g1.1 = g.1 by rw [eg1]; rfl).trans hn
  clear h0
  exact mn_vret rfl dRu_init_10 ⟨rfl, by omega, (mn_gw.rf.set eg1 (fun _ => by show u = u; omega)), h0_g1⟩
set_option maxRecDepth 100000 in
theorem c_Wr_init {E : mn_En} {g : mn_H} {y : Nat} (h0 : mn_at g y (.inr (9, [.null]))) (hn : g.1 = y + 1) : mn_R E MWr_init 2 40 2 82 0 [(0, .ref y)] [] g (fun x g' => x = none ∧ g'.1 = y + 1 + 2 ∧ mn_gw (fun q => q = y) g g' ∧ mn_at g' y (.inr (9, [.ref (y + 1)])) ∧ mn_at g' (y + 1) (.inr (8, [.ref (y + 1 + 1), .int 0])) ∧ mn_at g' (y + 1 + 1) (.inl (0, 80, .inl (fun _ => 0)))) := by
  refine mn_aload_n 0 dWr_init_0 rfl rfl ?_
  refine mn_objInit lWr_3 oi_inst oi_code dWr_init_1 (Nat.le_of_ble_eq_true rfl) (by decide) (by decide) ?_
  refine mn_aload_n 0 dWr_init_4 rfl rfl ?_
  refine mn_new okVo [.null, .int 0] lWr_9 inst_Vo ini_Vo rfl (by decide) (by decide) dWr_init_5 ?_
  obtain ⟨g2, eg2⟩ : ∃ gg_, gg_ = mn_push g (.inr (8, [.null, .int 0])) := ⟨_, rfl⟩
  have hsg : g.1 = y + 1 := by omega
  rw [hsg]
  refine mn_R.toG eg2 ?_
  have hn_g2 : g2.1 = y + 1 + 1 := by rw [eg2]; show g.1 + 1 = _; rw [hsg]
  have h0_g2 : mn_at g2 y (.inr (9, [.null])) := by rw [eg2]; exact h0.push
  have hw1_g2 : mn_at g2 (y + 1) (.inr (8, [.null, .int 0])) := by rw [eg2, ← hsg]; exact mn_at_new (by omega)
  clear h0 hsg
  refine mn_dup dWr_init_8 rfl ?_
  refine mn_callIN (d' := 1) (w' := 20) (nc' := 1) (ns' := 80) (As := []) (st := [.ref (y + 1), .ref y]) okVo_init lWr_11 dWr_init_9 rfl rfl (Nat.le_of_ble_eq_true rfl) (Nat.le_of_ble_eq_true rfl) (by decide) (c_Vo_init hw1_g2 (by omega)) (fun v g3 hq => ?_)
  obtain ⟨rfl, hn_g3, fg3, hva_g3, hvb_g3⟩ := hq
  show mn_R E MWr_init 2 40 _ _ 12 [(0, .ref y)] [.ref (y + 1), .ref y] g3 _
  have h0_g3 := h0_g2.gw fg3 (fun h => by have h9 : y = (y + 1) := h; omega)
  clear h0_g2 hw1_g2 hn_g2
  refine mn_putF okWr 0 lWr_12 (by decide) rfl rfl rfl h0_g3 rfl rfl (Nat.le_of_ble_eq_true rfl) dWr_init_12 ?_
  obtain ⟨g4, eg4⟩ : ∃ gg_, gg_ = mn_set g3 y (.inr (9, [.ref (y + 1)])) := ⟨_, rfl⟩
  refine mn_R.toG eg4 ?_
  have h0_g4 : mn_at g4 y (.inr (9, [.ref (y + 1)])) := by rw [eg4]; exact h0_g3.same
  have hva_g4 : mn_at g4 (y + 1) (.inr (8, [.ref (y + 1 + 1), .int 0])) := by rw [eg4]; exact hva_g3.off (by omega)
  have hvb_g4 : mn_at g4 (y + 1 + 1) (.inl (0, 80, .inl (fun _ => 0))) := by rw [eg4]; exact hvb_g3.off (by omega)
  have hn_g4 := (show g4.1 = g3.1 by rw [eg4]; rfl).trans hn_g3
  clear h0_g3 hva_g3 hvb_g3 hn_g3
  exact mn_vret rfl dWr_init_15 ⟨rfl, by omega, (((mn_gw.rf.push eg2).tr fg3 (fun q _ h => by have h9 : q = y + 1 := h; show q = y; omega)).set eg4 (fun _ => by show y = y; omega)), h0_g4, hva_g4, hvb_g4⟩
theorem sl_up (z i : Nat) : va_up (fun k => if k < i then some (z + 2 + 2 * k) else none) i (some (z + 2 + 2 * i)) = fun k => if k < i + 1 then some (z + 2 + 2 * k) else none := by
  funext k
  unfold va_up
  by_cases h : k = i
  · rw [if_pos h, if_pos (by omega), h]
  · rw [if_neg h]
    show (if k < i then some (z + 2 + 2 * k) else none) = _
    by_cases h2 : k < i
    · rw [if_pos h2, if_pos (by omega)]
    · rw [if_neg h2, if_neg (by omega)]
set_option maxRecDepth 100000 in
theorem c_Sl_init_l {E : mn_En} {g : mn_H} {z : Nat} : ∀ (fu i : Nat) (g0 : mn_H) (nc ns : Nat), i ≤ 60 → 60 - i < fu → 2 * (60 - i) ≤ nc → 82 * (60 - i) ≤ ns → g0.1 = z + 2 + 2 * i → mn_gw (fun q => q = z ∨ q = z + 1) g g0 → mn_at g0 z (.inr (5, [.ref (z + 1)])) → mn_at g0 (z + 1) (.inl (1, 60, .inr (.inr (.inr (.inr (fun k => if k < i then some (z + 2 + 2 * k) else none)))))) → (∀ k, k < i → mn_at g0 (z + 2 + 2 * k) (.inr (8, [.ref (z + 2 + 2 * k + 1), .int 0])) ∧ mn_at g0 (z + 2 + 2 * k + 1) (.inl (0, 80, .inl (fun _ => 0)))) → mn_R E MSl_init 2 40 nc ns 15 [(0, .ref z), (1, .int (nI i))] [] g0 (fun x g' => x = none ∧ g'.1 = z + 2 + 120 ∧ mn_gw (fun q => q = z ∨ q = z + 1) g g' ∧ mn_at g' z (.inr (5, [.ref (z + 1)])) ∧ mn_at g' (z + 1) (.inl (1, 60, .inr (.inr (.inr (.inr (fun k => if k < 60 then some (z + 2 + 2 * k) else none)))))) ∧ ∀ k, k < 60 → mn_at g' (z + 2 + 2 * k) (.inr (8, [.ref (z + 2 + 2 * k + 1), .int 0])) ∧ mn_at g' (z + 2 + 2 * k + 1) (.inl (0, 80, .inl (fun _ => 0)))) := by
  intro fu
  induction fu with
  | zero => intro i g0 nc ns h1 h2; exact absurd h2 (by omega)
  | succ fu ih =>
    intro i g0 nc ns h1 h2 hnc hns hn hgw hz hzr hvv
    refine mn_iload_n 1 dSl_init_15 rfl rfl ?_
    refine mn_bipush (v := 60) dSl_init_16 (by decide) ?_
    refine mn_icmp_ge 40 dSl_init_18 (by decide) (fun c1 => ?_) (fun c1 => ?_)
    · have c1 := (nI_leI (a := 60) (b := i) (by omega) (by omega)).mp c1
      exact mn_vret rfl dSl_init_40 (by obtain rfl : i = 60 := (by omega); exact ⟨rfl, by omega, hgw, hz, hzr, hvv⟩)
    · have c1 := mt (nI_leI (a := 60) (b := i) (by omega) (by omega)).mpr c1
      refine mn_aload_n 0 dSl_init_21 rfl rfl ?_
      refine mn_get okSl 0 lSl_11 (by decide) hz rfl dSl_init_22 ?_
      refine mn_iload_n 1 dSl_init_25 rfl rfl ?_
      refine mn_new okVo [.null, .int 0] lSl_9 inst_Vo ini_Vo rfl (by omega) (by omega) dSl_init_26 ?_
      obtain ⟨g3, eg3⟩ : ∃ gg_, gg_ = mn_push g0 (.inr (8, [.null, .int 0])) := ⟨_, rfl⟩
      have hsg0 : g0.1 = z + 2 + 2 * i := by omega
      rw [hsg0]
      refine mn_R.toG eg3 ?_
      have hn_g3 : g3.1 = z + 2 + 2 * i + 1 := by rw [eg3]; show g0.1 + 1 = _; rw [hsg0]
      have hz_g3 : mn_at g3 z (.inr (5, [.ref (z + 1)])) := by rw [eg3]; exact hz.push
      have hzr_g3 : mn_at g3 (z + 1) (.inl (1, 60, .inr (.inr (.inr (.inr (fun k => if k < i then some (z + 2 + 2 * k) else none)))))) := by rw [eg3]; exact hzr.push
      have hw2_g3 : mn_at g3 (z + 2 + 2 * i) (.inr (8, [.null, .int 0])) := by rw [eg3, ← hsg0]; exact mn_at_new (by omega)
      clear hz hzr hsg0
      refine mn_dup dSl_init_29 rfl ?_
      refine mn_callIN (d' := 1) (w' := 20) (nc' := 1) (ns' := 80) (As := []) (st := [.ref (z + 2 + 2 * i), .int (nI i), .ref (z + 1)]) okVo_init lSl_17 dSl_init_30 rfl rfl (Nat.le_of_ble_eq_true rfl) (Nat.le_of_ble_eq_true rfl) ⟨by decide, by decide, by omega, by omega⟩ (c_Vo_init hw2_g3 (by omega)) (fun v g4 hq => ?_)
      obtain ⟨rfl, hn_g4, fg4, hva_g4, hvb_g4⟩ := hq
      show mn_R E MSl_init 2 40 _ _ 33 [(0, .ref z), (1, .int (nI i))] [.ref (z + 2 + 2 * i), .int (nI i), .ref (z + 1)] g4 _
      have hz_g4 := hz_g3.gw fg4 (fun h => by have h9 : z = (z + 2 + 2 * i) := h; omega)
      have hzr_g4 := hzr_g3.gw fg4 (fun h => by have h9 : (z + 1) = (z + 2 + 2 * i) := h; omega)
      clear hz_g3 hzr_g3 hw2_g3 hn_g3
      refine mn_aastN (j := i) (ci := 8) hzr_g4 rfl rfl hva_g4 (by omega) (by omega) dSl_init_33 ?_
      obtain ⟨g5, eg5⟩ : ∃ gg_, gg_ = mn_set g4 (z + 1) (.inl (1, 60, .inr (.inr (.inr (.inr (va_up (fun k => if k < i then some (z + 2 + 2 * k) else none) i (some (z + 2 + 2 * i)))))))) := ⟨_, rfl⟩
      refine mn_R.toG eg5 ?_
      have hz_g5 : mn_at g5 z (.inr (5, [.ref (z + 1)])) := by rw [eg5]; exact hz_g4.off (by omega)
      have hzr_g5 : mn_at g5 (z + 1) (.inl (1, 60, .inr (.inr (.inr (.inr (va_up (fun k => if k < i then some (z + 2 + 2 * k) else none) i (some (z + 2 + 2 * i)))))))) := by rw [eg5]; exact hzr_g4.same
      have hva_g5 : mn_at g5 (z + 2 + 2 * i) (.inr (8, [.ref (z + 2 + 2 * i + 1), .int 0])) := by rw [eg5]; exact hva_g4.off (by omega)
      have hvb_g5 : mn_at g5 (z + 2 + 2 * i + 1) (.inl (0, 80, .inl (fun _ => 0))) := by rw [eg5]; exact hvb_g4.off (by omega)
      have hn_g5 := (show g5.1 = g4.1 by rw [eg5]; rfl).trans hn_g4
      clear hz_g4 hzr_g4 hva_g4 hvb_g4 hn_g4
      refine mn_iinc (v := nI (i + 1)) (ls' := [(0, .ref z), (1, .int (nI (i + 1)))]) 1 dSl_init_34 rfl (nI_add i 1) (by decide) rfl ?_
      refine mn_goto 15 dSl_init_37 (by decide) ?_
      have hzr9 : mn_at g5 (z + 1) (.inl (1, 60, .inr (.inr (.inr (.inr (fun k => if k < i + 1 then some (z + 2 + 2 * k) else none)))))) := by rw [← sl_up]; exact hzr_g5
      have fr9 : mn_gw (fun q => q = z + 1) g0 g5 := (((mn_gw.rf.push eg3).tr fg4 (fun q h8 h => by have h9 : q = z + 2 + 2 * i := h; show q = z + 1; omega)).set eg5 (fun h8 => by show (z + 1) = z + 1; omega))
      refine ih (i + 1) g5 _ _ (by omega) (by omega) (by omega) (by omega) (by omega) (hgw.tr fr9 (fun q _ h => by have h9 : q = z + 1 := h; show q = z ∨ q = z + 1; omega)) hz_g5 hzr9 (fun k hk => ?_)
      rcases Nat.lt_or_ge k i with hki | hki
      · exact ⟨(hvv k hki).1.gw fr9 (fun h => by have h9 : z + 2 + 2 * k = z + 1 := h; omega), (hvv k hki).2.gw fr9 (fun h => by have h9 : z + 2 + 2 * k + 1 = z + 1 := h; omega)⟩
      · obtain rfl : k = i := (by omega); exact ⟨hva_g5, hvb_g5⟩
set_option maxRecDepth 100000 in
theorem c_Sl_init {E : mn_En} {g : mn_H} {z : Nat} (h0 : mn_at g z (.inr (5, [.null]))) (hn : g.1 = z + 1) : mn_R E MSl_init 2 40 121 4980 0 [(0, .ref z)] [] g (fun x g' => x = none ∧ g'.1 = z + 1 + 121 ∧ mn_gw (fun q => q = z) g g' ∧ mn_at g' z (.inr (5, [.ref (z + 1)])) ∧ mn_at g' (z + 1) (.inl (1, 60, .inr (.inr (.inr (.inr (fun k => if k < 60 then some (z + 2 + 2 * k) else none)))))) ∧ ∀ k, k < 60 → mn_at g' (z + 2 + 2 * k) (.inr (8, [.ref (z + 2 + 2 * k + 1), .int 0])) ∧ mn_at g' (z + 2 + 2 * k + 1) (.inl (0, 80, .inl (fun _ => 0)))) := by
  refine mn_aload_n 0 dSl_init_0 rfl rfl ?_
  refine mn_objInit lSl_3 oi_inst oi_code dSl_init_1 (Nat.le_of_ble_eq_true rfl) (by decide) (by decide) ?_
  refine mn_aload_n 0 dSl_init_4 rfl rfl ?_
  refine mn_bipush (v := 60) dSl_init_5 (by decide) ?_
  refine mn_newq (t := 1) (N := 60) rfl lSl_9 over_Vo (by decide) rfl (by decide) (by decide) (by decide) dSl_init_7 ?_
  obtain ⟨g2, eg2⟩ : ∃ gg_, gg_ = mn_push g (.inl (1, 60, .inr (.inr (.inr (.inr (fun _ => none)))))) := ⟨_, rfl⟩
  have hsg : g.1 = z + 1 := by omega
  rw [hsg]
  refine mn_R.toG eg2 ?_
  have hn_g2 : g2.1 = z + 1 + 1 := by rw [eg2]; show g.1 + 1 = _; rw [hsg]
  have h0_g2 : mn_at g2 z (.inr (5, [.null])) := by rw [eg2]; exact h0.push
  have hw1_g2 : mn_at g2 (z + 1) (.inl (1, 60, .inr (.inr (.inr (.inr (fun _ => none)))))) := by rw [eg2, ← hsg]; exact mn_at_new (by omega)
  clear h0 hsg
  refine mn_putF okSl 0 lSl_11 (by decide) rfl rfl rfl h0_g2 rfl rfl (Nat.le_of_ble_eq_true rfl) dSl_init_10 ?_
  obtain ⟨g3, eg3⟩ : ∃ gg_, gg_ = mn_set g2 z (.inr (5, [.ref (z + 1)])) := ⟨_, rfl⟩
  refine mn_R.toG eg3 ?_
  have h0_g3 : mn_at g3 z (.inr (5, [.ref (z + 1)])) := by rw [eg3]; exact h0_g2.same
  have hw1_g3 : mn_at g3 (z + 1) (.inl (1, 60, .inr (.inr (.inr (.inr (fun _ => none)))))) := by rw [eg3]; exact hw1_g2.off (by omega)
  have hn_g3 := (show g3.1 = g2.1 by rw [eg3]; rfl).trans hn_g2
  clear h0_g2 hw1_g2 hn_g2
  refine mn_iconst (v := 0) dSl_init_13 (by decide) ?_
  refine mn_istore_n (ls' := [(0, .ref z), (1, .int 0)]) dSl_init_14 rfl (by decide) rfl ?_
  have hq9 : mn_at g3 (z + 1) (.inl (1, 60, .inr (.inr (.inr (.inr (fun k => if k < 0 then some (z + 2 + 2 * k) else none)))))) := by rw [show (fun k => if k < 0 then some (z + 2 + 2 * k) else none) = (fun _ : Nat => (none : Option Nat)) from funext fun k => if_neg (Nat.not_lt_zero k)]; exact hw1_g3
  refine mn_R.post (c_Sl_init_l (g := g3) 61 0 g3 _ _ (by omega) (by omega) (by decide) (by decide) (by omega) mn_gw.rf h0_g3 hq9 (fun k hk => absurd hk (by omega))) (fun x g' hq => ⟨hq.1, by have := hq.2.1; omega, ((mn_gw.rf.push eg2).set eg3 (fun _ => by show z = z; omega)).tr hq.2.2.1 (fun q h8 h => by have h9 : q = z ∨ q = z + 1 := h; show q = z; omega), hq.2.2.2⟩)
set_option maxRecDepth 100000 in
theorem c_Eq_init {E : mn_En} {g : mn_H} {ee : Nat} (h0 : mn_at g ee (.inr (0, [.null, .null, .int 0, .int 0]))) (hn : g.1 = ee + 1) : mn_R E MEq_init 1 20 5 255 0 [(0, .ref ee)] [] g (fun x g' => x = none ∧ g'.1 = ee + 1 + 5 ∧ mn_gw (fun q => q = ee) g g' ∧ mn_at g' ee (.inr (0, [.ref (ee + 1), .ref (ee + 5), .int 0, .int 0])) ∧ mn_at g' (ee + 1) (.inl (2, 3, .inr (.inr (.inr (.inr (mz_q (ee + 1))))))) ∧ mn_at g' (ee + 2) (.inl (0, 83, .inl (fun _ => 0))) ∧ mn_at g' (ee + 3) (.inl (0, 83, .inl (fun _ => 0))) ∧ mn_at g' (ee + 4) (.inl (0, 83, .inl (fun _ => 0))) ∧ mn_at g' (ee + 5) (.inl (0, 3, .inl (fun _ => 0)))) := by
  refine mn_aload_n 0 dEq_init_0 rfl rfl ?_
  refine mn_objInit lEq_3 oi_inst oi_code dEq_init_1 (Nat.le_of_ble_eq_true rfl) (by decide) (by decide) ?_
  refine mn_aload_n 0 dEq_init_4 rfl rfl ?_
  refine mn_iconst (v := 3) dEq_init_5 (by decide) ?_
  refine mn_bipush (v := 83) dEq_init_6 (by decide) ?_
  refine mn_mna lEq_9 over_int arr_int (by decide) (by decide) dEq_init_8 ?_
  have hsq : g.1 = ee + 1 := by omega
  rw [hsq]
  obtain ⟨g1, eg1⟩ : ∃ gg_, gg_ = mn_push g (.inl (2, 3, .inr (.inr (.inr (.inr (mz_q (ee + 1))))))) := ⟨_, rfl⟩
  have hsg := hsq
  have hn_g1 : g1.1 = ee + 1 + 1 := by rw [eg1]; show g.1 + 1 = _; rw [hsg]
  have h0_g1 : mn_at g1 ee (.inr (0, [.null, .null, .int 0, .int 0])) := by rw [eg1]; exact h0.push
  have he1_g1 : mn_at g1 (ee + 1) (.inl (2, 3, .inr (.inr (.inr (.inr (mz_q (ee + 1))))))) := by rw [eg1, ← hsg]; exact mn_at_new (by omega)
  obtain ⟨g2, eg2⟩ : ∃ gg_, gg_ = mn_push g1 (.inl (0, 83, .inl (fun _ => 0))) := ⟨_, rfl⟩
  have hsg1 : g1.1 = ee + 2 := by omega
  have hn_g2 : g2.1 = ee + 2 + 1 := by rw [eg2]; show g1.1 + 1 = _; rw [hsg1]
  have h0_g2 : mn_at g2 ee (.inr (0, [.null, .null, .int 0, .int 0])) := by rw [eg2]; exact h0_g1.push
  have he1_g2 : mn_at g2 (ee + 1) (.inl (2, 3, .inr (.inr (.inr (.inr (mz_q (ee + 1))))))) := by rw [eg2]; exact he1_g1.push
  have he2_g2 : mn_at g2 (ee + 2) (.inl (0, 83, .inl (fun _ => 0))) := by rw [eg2, ← hsg1]; exact mn_at_new (by omega)
  obtain ⟨g3, eg3⟩ : ∃ gg_, gg_ = mn_push g2 (.inl (0, 83, .inl (fun _ => 0))) := ⟨_, rfl⟩
  have hsg2 : g2.1 = ee + 3 := by omega
  have hn_g3 : g3.1 = ee + 3 + 1 := by rw [eg3]; show g2.1 + 1 = _; rw [hsg2]
  have h0_g3 : mn_at g3 ee (.inr (0, [.null, .null, .int 0, .int 0])) := by rw [eg3]; exact h0_g2.push
  have he1_g3 : mn_at g3 (ee + 1) (.inl (2, 3, .inr (.inr (.inr (.inr (mz_q (ee + 1))))))) := by rw [eg3]; exact he1_g2.push
  have he2_g3 : mn_at g3 (ee + 2) (.inl (0, 83, .inl (fun _ => 0))) := by rw [eg3]; exact he2_g2.push
  have he3_g3 : mn_at g3 (ee + 3) (.inl (0, 83, .inl (fun _ => 0))) := by rw [eg3, ← hsg2]; exact mn_at_new (by omega)
  obtain ⟨g4, eg4⟩ : ∃ gg_, gg_ = mn_push g3 (.inl (0, 83, .inl (fun _ => 0))) := ⟨_, rfl⟩
  have hsg3 : g3.1 = ee + 4 := by omega
  have hn_g4 : g4.1 = ee + 4 + 1 := by rw [eg4]; show g3.1 + 1 = _; rw [hsg3]
  have h0_g4 : mn_at g4 ee (.inr (0, [.null, .null, .int 0, .int 0])) := by rw [eg4]; exact h0_g3.push
  have he1_g4 : mn_at g4 (ee + 1) (.inl (2, 3, .inr (.inr (.inr (.inr (mz_q (ee + 1))))))) := by rw [eg4]; exact he1_g3.push
  have he2_g4 : mn_at g4 (ee + 2) (.inl (0, 83, .inl (fun _ => 0))) := by rw [eg4]; exact he2_g3.push
  have he3_g4 : mn_at g4 (ee + 3) (.inl (0, 83, .inl (fun _ => 0))) := by rw [eg4]; exact he3_g3.push
  have he4_g4 : mn_at g4 (ee + 4) (.inl (0, 83, .inl (fun _ => 0))) := by rw [eg4, ← hsg3]; exact mn_at_new (by omega)
  refine mn_R.toG (eg4.trans (by rw [eg3, eg2, eg1])) ?_
  refine mn_putF okEq 0 lEq_11 (by decide) rfl rfl rfl h0_g4 rfl rfl (Nat.le_of_ble_eq_true rfl) dEq_init_12 ?_
  obtain ⟨g5, eg5⟩ : ∃ gg_, gg_ = mn_set g4 ee (.inr (0, [.ref (ee + 1), .null, .int 0, .int 0])) := ⟨_, rfl⟩
  refine mn_R.toG eg5 ?_
  have h0_g5 : mn_at g5 ee (.inr (0, [.ref (ee + 1), .null, .int 0, .int 0])) := by rw [eg5]; exact h0_g4.same
  have he1_g5 : mn_at g5 (ee + 1) (.inl (2, 3, .inr (.inr (.inr (.inr (mz_q (ee + 1))))))) := by rw [eg5]; exact he1_g4.off (by omega)
  have he2_g5 : mn_at g5 (ee + 2) (.inl (0, 83, .inl (fun _ => 0))) := by rw [eg5]; exact he2_g4.off (by omega)
  have he3_g5 : mn_at g5 (ee + 3) (.inl (0, 83, .inl (fun _ => 0))) := by rw [eg5]; exact he3_g4.off (by omega)
  have he4_g5 : mn_at g5 (ee + 4) (.inl (0, 83, .inl (fun _ => 0))) := by rw [eg5]; exact he4_g4.off (by omega)
  have hn_g5 := (show g5.1 = g4.1 by rw [eg5]; rfl).trans hn_g4
  clear h0_g4 he1_g4 he2_g4 he3_g4 he4_g4 hn_g4
  refine mn_aload_n 0 dEq_init_15 rfl rfl ?_
  refine mn_iconst (v := 3) dEq_init_16 (by decide) ?_
  refine mn_newa (t := 0) (N := 3) rfl arr_int (by decide) rfl (by decide) (by decide) (by decide) dEq_init_17 ?_
  obtain ⟨g7, eg7⟩ : ∃ gg_, gg_ = mn_push g5 (.inl (0, 3, .inl (fun _ => 0))) := ⟨_, rfl⟩
  have hsg5 : g5.1 = ee + 5 := by omega
  rw [hsg5]
  refine mn_R.toG eg7 ?_
  have hn_g7 : g7.1 = ee + 5 + 1 := by rw [eg7]; show g5.1 + 1 = _; rw [hsg5]
  have h0_g7 : mn_at g7 ee (.inr (0, [.ref (ee + 1), .null, .int 0, .int 0])) := by rw [eg7]; exact h0_g5.push
  have he1_g7 : mn_at g7 (ee + 1) (.inl (2, 3, .inr (.inr (.inr (.inr (mz_q (ee + 1))))))) := by rw [eg7]; exact he1_g5.push
  have he2_g7 : mn_at g7 (ee + 2) (.inl (0, 83, .inl (fun _ => 0))) := by rw [eg7]; exact he2_g5.push
  have he3_g7 : mn_at g7 (ee + 3) (.inl (0, 83, .inl (fun _ => 0))) := by rw [eg7]; exact he3_g5.push
  have he4_g7 : mn_at g7 (ee + 4) (.inl (0, 83, .inl (fun _ => 0))) := by rw [eg7]; exact he4_g5.push
  have hw6_g7 : mn_at g7 (ee + 5) (.inl (0, 3, .inl (fun _ => 0))) := by rw [eg7, ← hsg5]; exact mn_at_new (by omega)
  clear h0_g5 he1_g5 he2_g5 he3_g5 he4_g5 hn_g5 hsg5
  refine mn_putF okEq 1 lEq_16 (by decide) rfl rfl rfl h0_g7 rfl rfl (Nat.le_of_ble_eq_true rfl) dEq_init_19 ?_
  obtain ⟨g8, eg8⟩ : ∃ gg_, gg_ = mn_set g7 ee (.inr (0, [.ref (ee + 1), .ref (ee + 5), .int 0, .int 0])) := ⟨_, rfl⟩
  refine mn_R.toG eg8 ?_
  have h0_g8 : mn_at g8 ee (.inr (0, [.ref (ee + 1), .ref (ee + 5), .int 0, .int 0])) := by rw [eg8]; exact h0_g7.same
  have he1_g8 : mn_at g8 (ee + 1) (.inl (2, 3, .inr (.inr (.inr (.inr (mz_q (ee + 1))))))) := by rw [eg8]; exact he1_g7.off (by omega)
  have he2_g8 : mn_at g8 (ee + 2) (.inl (0, 83, .inl (fun _ => 0))) := by rw [eg8]; exact he2_g7.off (by omega)
  have he3_g8 : mn_at g8 (ee + 3) (.inl (0, 83, .inl (fun _ => 0))) := by rw [eg8]; exact he3_g7.off (by omega)
  have he4_g8 : mn_at g8 (ee + 4) (.inl (0, 83, .inl (fun _ => 0))) := by rw [eg8]; exact he4_g7.off (by omega)
  have hw6_g8 : mn_at g8 (ee + 5) (.inl (0, 3, .inl (fun _ => 0))) := by rw [eg8]; exact hw6_g7.off (by omega)
  have hn_g8 := (show g8.1 = g7.1 by rw [eg8]; rfl).trans hn_g7
  clear h0_g7 he1_g7 he2_g7 he3_g7 he4_g7 hw6_g7 hn_g7
  exact mn_vret rfl dEq_init_22 ⟨rfl, by omega, (((((((mn_gw.rf.push eg1).push eg2).push eg3).push eg4).set eg5 (fun _ => by show ee = ee; omega)).push eg7).set eg8 (fun _ => by show ee = ee; omega)), h0_g8, he1_g8, he2_g8, he3_g8, he4_g8, hw6_g8⟩
theorem c_Eq_initP {E : mn_En} {g : mn_H} {ee : Nat} (h0 : mn_at g ee (.inr (0, [.null, .null, .int 0, .int 0]))) (hn : g.1 = ee + 1) : mn_R E MEq_init 1 20 5 255 0 [(0, .ref ee)] [] g (fun x g' => x = none ∧ g'.1 = ee + 1 + 5 ∧ mn_gw (fun q => q = ee) g g' ∧ EqP g' ee (fun _ _ => 0) (fun _ => 0) 0 0) := by
  refine mn_R.post (c_Eq_init h0 hn) (fun x g' hq => ?_)
  obtain ⟨q1, q2, q3, q4, q5, q6, q7, q8, q9⟩ := hq
  refine ⟨q1, q2, q3, q4, ?_, fun i hi => ?_, q9, fun _ _ => (by decide : 0 < 256), by decide, by decide, fun _ => (by decide : 0 < 60)⟩
  · rw [show eq_q ee = mz_q (ee + 1) from funext fun j => by unfold eq_q mz_q; rw [show ee + 1 + (j + 1) = ee + 2 + j by omega]]
    exact q5
  · have hi3 : i = 0 ∨ i = 1 ∨ i = 2 := by omega
    rcases hi3 with h | h | h
    · subst h; exact q6
    · subst h; exact q7
    · subst h; exact q8
theorem c_Sl_initP {E : mn_En} {g : mn_H} {z : Nat} (h0 : mn_at g z (.inr (5, [.null]))) (hn : g.1 = z + 1) : mn_R E MSl_init 2 40 121 4980 0 [(0, .ref z)] [] g (fun x g' => x = none ∧ g'.1 = z + 1 + 121 ∧ mn_gw (fun q => q = z) g g' ∧ SlP g' z (fun k => k) (fun _ => 0) (fun _ _ => 0)) := by
  refine mn_R.post (c_Sl_init h0 hn) (fun x g' hq => ?_)
  obtain ⟨q1, q2, q3, q4, q5, q6⟩ := hq
  exact ⟨q1, q2, q3, q4, q5, q6, fun _ h => h, fun _ _ _ _ h => h, fun _ => (by decide : 0 ≤ 80), fun _ _ => (by decide : 0 < 256)⟩
set_option maxRecDepth 100000 in
theorem c_Rd_init {E : mn_En} {g : mn_H} {rd : Nat} (h0 : mn_at g rd (.inr (3, [.null, .null, .null, .int 0, .int 0, .int 0, .int 0, .int 0]))) (hn : g.1 = rd + 1) : mn_R E MRd_init 2 42 11 4527 0 [(0, .ref rd)] [] g (fun x g' => x = none ∧ g'.1 = rd + 1 + 11 ∧ mn_gw (fun q => q = rd) g g' ∧ mn_at g' rd (.inr (3, [.ref (rd + 1), .ref (rd + 5), .ref (rd + 6), .int 0, .int 0, .int 0, .int 0, .int 0])) ∧ mn_at g' (rd + 1) (.inr (2, [.ref (rd + 1 + 3), .ref (rd + 1 + 1), .ref (rd + 1 + 2), .int 0, .int 0])) ∧ mn_at g' (rd + 1 + 3) (.inl (0, 4080, .inl (fun _ => 0))) ∧ mn_at g' (rd + 1 + 1) (.inl (0, 60, .inl (fun _ => 0))) ∧ mn_at g' (rd + 1 + 2) (.inl (0, 60, .inl (fun _ => 0))) ∧ mn_at g' (rd + 5) (.inl (0, 63, .inl (fun _ => 0))) ∧ EqP g' (rd + 6) (fun _ _ => 0) (fun _ => 0) 0 0) := by
  refine mn_aload_n 0 dRd_init_0 rfl rfl ?_
  refine mn_objInit lRd_3 oi_inst oi_code dRd_init_1 (Nat.le_of_ble_eq_true rfl) (by decide) (by decide) ?_
  refine mn_aload_n 0 dRd_init_4 rfl rfl ?_
  refine mn_new okPc [.null, .null, .null, .int 0, .int 0] lRd_9 inst_Pc ini_Pc rfl (by decide) (by decide) dRd_init_5 ?_
  obtain ⟨g2, eg2⟩ : ∃ gg_, gg_ = mn_push g (.inr (2, [.null, .null, .null, .int 0, .int 0])) := ⟨_, rfl⟩
  have hsg : g.1 = rd + 1 := by omega
  rw [hsg]
  refine mn_R.toG eg2 ?_
  have hn_g2 : g2.1 = rd + 1 + 1 := by rw [eg2]; show g.1 + 1 = _; rw [hsg]
  have h0_g2 : mn_at g2 rd (.inr (3, [.null, .null, .null, .int 0, .int 0, .int 0, .int 0, .int 0])) := by rw [eg2]; exact h0.push
  have hw1_g2 : mn_at g2 (rd + 1) (.inr (2, [.null, .null, .null, .int 0, .int 0])) := by rw [eg2, ← hsg]; exact mn_at_new (by omega)
  clear h0 hsg
  refine mn_dup dRd_init_8 rfl ?_
  refine mn_sipush (v := 4080) dRd_init_9 (by decide) ?_
  refine mn_callI (d' := 1) (w' := 21) (nc' := 3) (ns' := 4200) (As := [.int 4080]) (st := [.ref (rd + 1), .ref rd]) okPc_init lRd_11 dRd_init_12 rfl rfl (Nat.le_of_ble_eq_true rfl) (Nat.le_of_ble_eq_true rfl) (by decide) (c_Pc_init4080 hw1_g2 (by omega)) (fun v g3 hq => ?_)
  obtain ⟨rfl, hn_g3, fg3, hpa_g3, hpb_g3, hpl_g3, hps_g3⟩ := hq
  show mn_R E MRd_init 2 42 _ _ 15 [(0, .ref rd)] [.ref (rd + 1), .ref rd] g3 _
  have h0_g3 := h0_g2.gw fg3 (fun h => by have h9 : rd = (rd + 1) := h; omega)
  clear h0_g2 hw1_g2 hn_g2
  refine mn_putF okRd 0 lRd_14 (by decide) rfl rfl rfl h0_g3 rfl rfl (Nat.le_of_ble_eq_true rfl) dRd_init_15 ?_
  obtain ⟨g4, eg4⟩ : ∃ gg_, gg_ = mn_set g3 rd (.inr (3, [.ref (rd + 1), .null, .null, .int 0, .int 0, .int 0, .int 0, .int 0])) := ⟨_, rfl⟩
  refine mn_R.toG eg4 ?_
  have h0_g4 : mn_at g4 rd (.inr (3, [.ref (rd + 1), .null, .null, .int 0, .int 0, .int 0, .int 0, .int 0])) := by rw [eg4]; exact h0_g3.same
  have hpa_g4 : mn_at g4 (rd + 1) (.inr (2, [.ref (rd + 1 + 3), .ref (rd + 1 + 1), .ref (rd + 1 + 2), .int 0, .int 0])) := by rw [eg4]; exact hpa_g3.off (by omega)
  have hpb_g4 : mn_at g4 (rd + 1 + 3) (.inl (0, 4080, .inl (fun _ => 0))) := by rw [eg4]; exact hpb_g3.off (by omega)
  have hpl_g4 : mn_at g4 (rd + 1 + 1) (.inl (0, 60, .inl (fun _ => 0))) := by rw [eg4]; exact hpl_g3.off (by omega)
  have hps_g4 : mn_at g4 (rd + 1 + 2) (.inl (0, 60, .inl (fun _ => 0))) := by rw [eg4]; exact hps_g3.off (by omega)
  have hn_g4 := (show g4.1 = g3.1 by rw [eg4]; rfl).trans hn_g3
  clear h0_g3 hpa_g3 hpb_g3 hpl_g3 hps_g3 hn_g3
  refine mn_aload_n 0 dRd_init_18 rfl rfl ?_
  refine mn_bipush (v := 63) dRd_init_19 (by decide) ?_
  refine mn_newa (t := 0) (N := 63) rfl arr_int (by decide) rfl (by decide) (by decide) (by decide) dRd_init_21 ?_
  obtain ⟨g6, eg6⟩ : ∃ gg_, gg_ = mn_push g4 (.inl (0, 63, .inl (fun _ => 0))) := ⟨_, rfl⟩
  have hsg4 : g4.1 = rd + 5 := by omega
  rw [hsg4]
  refine mn_R.toG eg6 ?_
  have hn_g6 : g6.1 = rd + 5 + 1 := by rw [eg6]; show g4.1 + 1 = _; rw [hsg4]
  have h0_g6 : mn_at g6 rd (.inr (3, [.ref (rd + 1), .null, .null, .int 0, .int 0, .int 0, .int 0, .int 0])) := by rw [eg6]; exact h0_g4.push
  have hpa_g6 : mn_at g6 (rd + 1) (.inr (2, [.ref (rd + 1 + 3), .ref (rd + 1 + 1), .ref (rd + 1 + 2), .int 0, .int 0])) := by rw [eg6]; exact hpa_g4.push
  have hpb_g6 : mn_at g6 (rd + 1 + 3) (.inl (0, 4080, .inl (fun _ => 0))) := by rw [eg6]; exact hpb_g4.push
  have hpl_g6 : mn_at g6 (rd + 1 + 1) (.inl (0, 60, .inl (fun _ => 0))) := by rw [eg6]; exact hpl_g4.push
  have hps_g6 : mn_at g6 (rd + 1 + 2) (.inl (0, 60, .inl (fun _ => 0))) := by rw [eg6]; exact hps_g4.push
  have hw5_g6 : mn_at g6 (rd + 5) (.inl (0, 63, .inl (fun _ => 0))) := by rw [eg6, ← hsg4]; exact mn_at_new (by omega)
  clear h0_g4 hpa_g4 hpb_g4 hpl_g4 hps_g4 hn_g4 hsg4
  refine mn_putF okRd 1 lRd_20 (by decide) rfl rfl rfl h0_g6 rfl rfl (Nat.le_of_ble_eq_true rfl) dRd_init_23 ?_
  obtain ⟨g7, eg7⟩ : ∃ gg_, gg_ = mn_set g6 rd (.inr (3, [.ref (rd + 1), .ref (rd + 5), .null, .int 0, .int 0, .int 0, .int 0, .int 0])) := ⟨_, rfl⟩
  refine mn_R.toG eg7 ?_
  have h0_g7 : mn_at g7 rd (.inr (3, [.ref (rd + 1), .ref (rd + 5), .null, .int 0, .int 0, .int 0, .int 0, .int 0])) := by rw [eg7]; exact h0_g6.same
  have hpa_g7 : mn_at g7 (rd + 1) (.inr (2, [.ref (rd + 1 + 3), .ref (rd + 1 + 1), .ref (rd + 1 + 2), .int 0, .int 0])) := by rw [eg7]; exact hpa_g6.off (by omega)
  have hpb_g7 : mn_at g7 (rd + 1 + 3) (.inl (0, 4080, .inl (fun _ => 0))) := by rw [eg7]; exact hpb_g6.off (by omega)
  have hpl_g7 : mn_at g7 (rd + 1 + 1) (.inl (0, 60, .inl (fun _ => 0))) := by rw [eg7]; exact hpl_g6.off (by omega)
  have hps_g7 : mn_at g7 (rd + 1 + 2) (.inl (0, 60, .inl (fun _ => 0))) := by rw [eg7]; exact hps_g6.off (by omega)
  have hw5_g7 : mn_at g7 (rd + 5) (.inl (0, 63, .inl (fun _ => 0))) := by rw [eg7]; exact hw5_g6.off (by omega)
  have hn_g7 := (show g7.1 = g6.1 by rw [eg7]; rfl).trans hn_g6
  clear h0_g6 hpa_g6 hpb_g6 hpl_g6 hps_g6 hw5_g6 hn_g6
  refine mn_aload_n 0 dRd_init_26 rfl rfl ?_
  refine mn_new okEq [.null, .null, .int 0, .int 0] lRd_24 inst_Eq ini_Eq rfl (by decide) (by decide) dRd_init_27 ?_
  obtain ⟨g9, eg9⟩ : ∃ gg_, gg_ = mn_push g7 (.inr (0, [.null, .null, .int 0, .int 0])) := ⟨_, rfl⟩
  have hsg7 : g7.1 = rd + 6 := by omega
  rw [hsg7]
  refine mn_R.toG eg9 ?_
  have hn_g9 : g9.1 = rd + 6 + 1 := by rw [eg9]; show g7.1 + 1 = _; rw [hsg7]
  have h0_g9 : mn_at g9 rd (.inr (3, [.ref (rd + 1), .ref (rd + 5), .null, .int 0, .int 0, .int 0, .int 0, .int 0])) := by rw [eg9]; exact h0_g7.push
  have hpa_g9 : mn_at g9 (rd + 1) (.inr (2, [.ref (rd + 1 + 3), .ref (rd + 1 + 1), .ref (rd + 1 + 2), .int 0, .int 0])) := by rw [eg9]; exact hpa_g7.push
  have hpb_g9 : mn_at g9 (rd + 1 + 3) (.inl (0, 4080, .inl (fun _ => 0))) := by rw [eg9]; exact hpb_g7.push
  have hpl_g9 : mn_at g9 (rd + 1 + 1) (.inl (0, 60, .inl (fun _ => 0))) := by rw [eg9]; exact hpl_g7.push
  have hps_g9 : mn_at g9 (rd + 1 + 2) (.inl (0, 60, .inl (fun _ => 0))) := by rw [eg9]; exact hps_g7.push
  have hw5_g9 : mn_at g9 (rd + 5) (.inl (0, 63, .inl (fun _ => 0))) := by rw [eg9]; exact hw5_g7.push
  have hw8_g9 : mn_at g9 (rd + 6) (.inr (0, [.null, .null, .int 0, .int 0])) := by rw [eg9, ← hsg7]; exact mn_at_new (by omega)
  clear h0_g7 hpa_g7 hpb_g7 hpl_g7 hps_g7 hw5_g7 hn_g7 hsg7
  refine mn_dup dRd_init_30 rfl ?_
  refine mn_callIN (d' := 1) (w' := 20) (nc' := 5) (ns' := 255) (As := []) (st := [.ref (rd + 6), .ref rd]) okEq_init lRd_26 dRd_init_31 rfl rfl (Nat.le_of_ble_eq_true rfl) (Nat.le_of_ble_eq_true rfl) (by decide) (c_Eq_initP hw8_g9 (by omega)) (fun v g10 hq => ?_)
  obtain ⟨rfl, hn_g10, fg10, hE_g10⟩ := hq
  show mn_R E MRd_init 2 42 _ _ 34 [(0, .ref rd)] [.ref (rd + 6), .ref rd] g10 _
  have h0_g10 := h0_g9.gw fg10 (fun h => by have h9 : rd = (rd + 6) := h; omega)
  have hpa_g10 := hpa_g9.gw fg10 (fun h => by have h9 : (rd + 1) = (rd + 6) := h; omega)
  have hpb_g10 := hpb_g9.gw fg10 (fun h => by have h9 : (rd + 1 + 3) = (rd + 6) := h; omega)
  have hpl_g10 := hpl_g9.gw fg10 (fun h => by have h9 : (rd + 1 + 1) = (rd + 6) := h; omega)
  have hps_g10 := hps_g9.gw fg10 (fun h => by have h9 : (rd + 1 + 2) = (rd + 6) := h; omega)
  have hw5_g10 := hw5_g9.gw fg10 (fun h => by have h9 : (rd + 5) = (rd + 6) := h; omega)
  clear h0_g9 hpa_g9 hpb_g9 hpl_g9 hps_g9 hw5_g9 hw8_g9 hn_g9
  refine mn_putF okRd 2 lRd_27 (by decide) rfl rfl rfl h0_g10 rfl rfl (Nat.le_of_ble_eq_true rfl) dRd_init_34 ?_
  obtain ⟨g11, eg11⟩ : ∃ gg_, gg_ = mn_set g10 rd (.inr (3, [.ref (rd + 1), .ref (rd + 5), .ref (rd + 6), .int 0, .int 0, .int 0, .int 0, .int 0])) := ⟨_, rfl⟩
  refine mn_R.toG eg11 ?_
  have h0_g11 : mn_at g11 rd (.inr (3, [.ref (rd + 1), .ref (rd + 5), .ref (rd + 6), .int 0, .int 0, .int 0, .int 0, .int 0])) := by rw [eg11]; exact h0_g10.same
  have hpa_g11 : mn_at g11 (rd + 1) (.inr (2, [.ref (rd + 1 + 3), .ref (rd + 1 + 1), .ref (rd + 1 + 2), .int 0, .int 0])) := by rw [eg11]; exact hpa_g10.off (by omega)
  have hpb_g11 : mn_at g11 (rd + 1 + 3) (.inl (0, 4080, .inl (fun _ => 0))) := by rw [eg11]; exact hpb_g10.off (by omega)
  have hpl_g11 : mn_at g11 (rd + 1 + 1) (.inl (0, 60, .inl (fun _ => 0))) := by rw [eg11]; exact hpl_g10.off (by omega)
  have hps_g11 : mn_at g11 (rd + 1 + 2) (.inl (0, 60, .inl (fun _ => 0))) := by rw [eg11]; exact hps_g10.off (by omega)
  have hw5_g11 : mn_at g11 (rd + 5) (.inl (0, 63, .inl (fun _ => 0))) := by rw [eg11]; exact hw5_g10.off (by omega)
  have hE_g11 : EqP g11 (rd + 6) (fun _ _ => 0) (fun _ => 0) 0 0 := by rw [eg11]; exact hE_g10.fr (mn_fr_set (S := fun q => q = rd) rfl) (fun q q1 q2 h => by have h9 : q = rd := h; omega)
  have hn_g11 := (show g11.1 = g10.1 by rw [eg11]; rfl).trans hn_g10
  clear h0_g10 hpa_g10 hpb_g10 hpl_g10 hps_g10 hw5_g10 hn_g10
  exact mn_vret rfl dRd_init_37 ⟨rfl, by omega, ((((((((mn_gw.rf.push eg2).tr fg3 (fun q _ h => by have h9 : q = rd + 1 := h; show q = rd; omega)).set eg4 (fun _ => by show rd = rd; omega)).push eg6).set eg7 (fun _ => by show rd = rd; omega)).push eg9).tr fg10 (fun q _ h => by have h9 : q = rd + 6 := h; show q = rd; omega)).set eg11 (fun _ => by show rd = rd; omega)), h0_g11, hpa_g11, hpb_g11, hpl_g11, hps_g11, hw5_g11, hE_g11⟩
set_option maxRecDepth 100000 in
theorem c_Mo_init {E : mn_En} {g : mn_H} {mo : Nat} (h0 : mn_at g mo (.inr (11, [.int 0, .null, .int 0, .null, .null, .int 0, .int 0, .int 0, .int 0, .null, .null, .null, .int 0, .int 0, .int 0, .int 0, .int 0, .null, .null, .null, .null, .int 0, .int 0, .null, .null, .null, .null, .null, .null]))) (hn : g.1 = mo + 1) : mn_R E MMo_init 1 20 16 11468 0 [(0, .ref mo)] [] g (fun x g' => x = none ∧ g'.1 = mo + 1 + 16 ∧ mn_gw (fun q => q = mo) g g' ∧ mn_at g' mo (.inr (11, [.int 0, .ref (mo + 1), .int 0, .ref (mo + 2), .ref (mo + 3), .int 0, .int 32, .int 0, .int 0, .ref (mo + 4), .ref (mo + 5), .ref (mo + 6), .int 0, .int 0, .int 0, .int 0, .int 0, .ref (mo + 7), .ref (mo + 8), .ref (mo + 9), .ref (mo + 10), .int 0, .int 0, .ref (mo + 11), .ref (mo + 12), .ref (mo + 13), .ref (mo + 14), .ref (mo + 15), .ref (mo + 16)])) ∧ mn_at g' (mo + 1) (.inl (0, 60, .inl (fun _ => 0))) ∧ mn_at g' (mo + 2) (.inl (0, 1260, .inl (fun _ => 0))) ∧ mn_at g' (mo + 3) (.inl (0, 21, .inl (fun _ => 0))) ∧ mn_at g' (mo + 4) (.inl (0, 4800, .inl (fun _ => 0))) ∧ mn_at g' (mo + 5) (.inl (0, 60, .inl (fun _ => 0))) ∧ mn_at g' (mo + 6) (.inl (0, 80, .inl (fun _ => 0))) ∧ mn_at g' (mo + 7) (.inl (0, 64, .inl (fun _ => 0))) ∧ mn_at g' (mo + 8) (.inl (0, 64, .inl (fun _ => 0))) ∧ mn_at g' (mo + 9) (.inl (0, 64, .inl (fun _ => 0))) ∧ mn_at g' (mo + 10) (.inl (0, 4800, .inl (fun _ => 0))) ∧ mn_at g' (mo + 11) (.inl (0, 40, .inl (fun _ => 0))) ∧ mn_at g' (mo + 12) (.inl (0, 40, .inl (fun _ => 0))) ∧ mn_at g' (mo + 13) (.inl (0, 40, .inl (fun _ => 0))) ∧ mn_at g' (mo + 14) (.inl (0, 60, .inl (fun _ => 0))) ∧ mn_at g' (mo + 15) (.inl (0, 3, .inl (fun _ => 0))) ∧ mn_at g' (mo + 16) (.inl (0, 12, .inl (fun _ => 0)))) := by
  refine mn_aload_n 0 dMo_init_0 rfl rfl ?_
  refine mn_objInit lMo_7 oi_inst oi_code dMo_init_1 (Nat.le_of_ble_eq_true rfl) (by decide) (by decide) ?_
  refine mn_aload_n 0 dMo_init_4 rfl rfl ?_
  refine mn_bipush (v := 60) dMo_init_5 (by decide) ?_
  refine mn_newa (t := 0) (N := 60) rfl arr_int (by decide) rfl (by decide) (by decide) (by decide) dMo_init_7 ?_
  obtain ⟨g2, eg2⟩ : ∃ gg_, gg_ = mn_push g (.inl (0, 60, .inl (fun _ => 0))) := ⟨_, rfl⟩
  have hsg : g.1 = mo + 1 := by omega
  rw [hsg]
  refine mn_R.toG eg2 ?_
  have hn_g2 : g2.1 = mo + 1 + 1 := by rw [eg2]; show g.1 + 1 = _; rw [hsg]
  have h0_g2 : mn_at g2 mo (.inr (11, [.int 0, .null, .int 0, .null, .null, .int 0, .int 0, .int 0, .int 0, .null, .null, .null, .int 0, .int 0, .int 0, .int 0, .int 0, .null, .null, .null, .null, .int 0, .int 0, .null, .null, .null, .null, .null, .null])) := by rw [eg2]; exact h0.push
  have hw1_g2 : mn_at g2 (mo + 1) (.inl (0, 60, .inl (fun _ => 0))) := by rw [eg2, ← hsg]; exact mn_at_new (by omega)
  clear h0 hsg
  refine mn_putF okMo 1 lMo_13 (by decide) rfl rfl rfl h0_g2 rfl rfl (Nat.le_of_ble_eq_true rfl) dMo_init_9 ?_
  obtain ⟨g3, eg3⟩ : ∃ gg_, gg_ = mn_set g2 mo (.inr (11, [.int 0, .ref (mo + 1), .int 0, .null, .null, .int 0, .int 0, .int 0, .int 0, .null, .null, .null, .int 0, .int 0, .int 0, .int 0, .int 0, .null, .null, .null, .null, .int 0, .int 0, .null, .null, .null, .null, .null, .null])) := ⟨_, rfl⟩
  refine mn_R.toG eg3 ?_
  have h0_g3 : mn_at g3 mo (.inr (11, [.int 0, .ref (mo + 1), .int 0, .null, .null, .int 0, .int 0, .int 0, .int 0, .null, .null, .null, .int 0, .int 0, .int 0, .int 0, .int 0, .null, .null, .null, .null, .int 0, .int 0, .null, .null, .null, .null, .null, .null])) := by rw [eg3]; exact h0_g2.same
  have hw1_g3 : mn_at g3 (mo + 1) (.inl (0, 60, .inl (fun _ => 0))) := by rw [eg3]; exact hw1_g2.off (by omega)
  have hn_g3 := (show g3.1 = g2.1 by rw [eg3]; rfl).trans hn_g2
  clear h0_g2 hw1_g2 hn_g2
  refine mn_aload_n 0 dMo_init_12 rfl rfl ?_
  refine mn_sipush (v := 1260) dMo_init_13 (by decide) ?_
  refine mn_newa (t := 0) (N := 1260) rfl arr_int (by decide) rfl (by decide) (by decide) (by decide) dMo_init_16 ?_
  obtain ⟨g5, eg5⟩ : ∃ gg_, gg_ = mn_push g3 (.inl (0, 1260, .inl (fun _ => 0))) := ⟨_, rfl⟩
  have hsg3 : g3.1 = mo + 2 := by omega
  rw [hsg3]
  refine mn_R.toG eg5 ?_
  have hn_g5 : g5.1 = mo + 2 + 1 := by rw [eg5]; show g3.1 + 1 = _; rw [hsg3]
  have h0_g5 : mn_at g5 mo (.inr (11, [.int 0, .ref (mo + 1), .int 0, .null, .null, .int 0, .int 0, .int 0, .int 0, .null, .null, .null, .int 0, .int 0, .int 0, .int 0, .int 0, .null, .null, .null, .null, .int 0, .int 0, .null, .null, .null, .null, .null, .null])) := by rw [eg5]; exact h0_g3.push
  have hw1_g5 : mn_at g5 (mo + 1) (.inl (0, 60, .inl (fun _ => 0))) := by rw [eg5]; exact hw1_g3.push
  have hw4_g5 : mn_at g5 (mo + 2) (.inl (0, 1260, .inl (fun _ => 0))) := by rw [eg5, ← hsg3]; exact mn_at_new (by omega)
  clear h0_g3 hw1_g3 hn_g3 hsg3
  refine mn_putF okMo 3 lMo_17 (by decide) rfl rfl rfl h0_g5 rfl rfl (Nat.le_of_ble_eq_true rfl) dMo_init_18 ?_
  obtain ⟨g6, eg6⟩ : ∃ gg_, gg_ = mn_set g5 mo (.inr (11, [.int 0, .ref (mo + 1), .int 0, .ref (mo + 2), .null, .int 0, .int 0, .int 0, .int 0, .null, .null, .null, .int 0, .int 0, .int 0, .int 0, .int 0, .null, .null, .null, .null, .int 0, .int 0, .null, .null, .null, .null, .null, .null])) := ⟨_, rfl⟩
  refine mn_R.toG eg6 ?_
  have h0_g6 : mn_at g6 mo (.inr (11, [.int 0, .ref (mo + 1), .int 0, .ref (mo + 2), .null, .int 0, .int 0, .int 0, .int 0, .null, .null, .null, .int 0, .int 0, .int 0, .int 0, .int 0, .null, .null, .null, .null, .int 0, .int 0, .null, .null, .null, .null, .null, .null])) := by rw [eg6]; exact h0_g5.same
  have hw1_g6 : mn_at g6 (mo + 1) (.inl (0, 60, .inl (fun _ => 0))) := by rw [eg6]; exact hw1_g5.off (by omega)
  have hw4_g6 : mn_at g6 (mo + 2) (.inl (0, 1260, .inl (fun _ => 0))) := by rw [eg6]; exact hw4_g5.off (by omega)
  have hn_g6 := (show g6.1 = g5.1 by rw [eg6]; rfl).trans hn_g5
  clear h0_g5 hw1_g5 hw4_g5 hn_g5
  refine mn_aload_n 0 dMo_init_21 rfl rfl ?_
  refine mn_bipush (v := 21) dMo_init_22 (by decide) ?_
  refine mn_newa (t := 0) (N := 21) rfl arr_int (by decide) rfl (by decide) (by decide) (by decide) dMo_init_24 ?_
  obtain ⟨g8, eg8⟩ : ∃ gg_, gg_ = mn_push g6 (.inl (0, 21, .inl (fun _ => 0))) := ⟨_, rfl⟩
  have hsg6 : g6.1 = mo + 3 := by omega
  rw [hsg6]
  refine mn_R.toG eg8 ?_
  have hn_g8 : g8.1 = mo + 3 + 1 := by rw [eg8]; show g6.1 + 1 = _; rw [hsg6]
  have h0_g8 : mn_at g8 mo (.inr (11, [.int 0, .ref (mo + 1), .int 0, .ref (mo + 2), .null, .int 0, .int 0, .int 0, .int 0, .null, .null, .null, .int 0, .int 0, .int 0, .int 0, .int 0, .null, .null, .null, .null, .int 0, .int 0, .null, .null, .null, .null, .null, .null])) := by rw [eg8]; exact h0_g6.push
  have hw1_g8 : mn_at g8 (mo + 1) (.inl (0, 60, .inl (fun _ => 0))) := by rw [eg8]; exact hw1_g6.push
  have hw4_g8 : mn_at g8 (mo + 2) (.inl (0, 1260, .inl (fun _ => 0))) := by rw [eg8]; exact hw4_g6.push
  have hw7_g8 : mn_at g8 (mo + 3) (.inl (0, 21, .inl (fun _ => 0))) := by rw [eg8, ← hsg6]; exact mn_at_new (by omega)
  clear h0_g6 hw1_g6 hw4_g6 hn_g6 hsg6
  refine mn_putF okMo 4 lMo_20 (by decide) rfl rfl rfl h0_g8 rfl rfl (Nat.le_of_ble_eq_true rfl) dMo_init_26 ?_
  obtain ⟨g9, eg9⟩ : ∃ gg_, gg_ = mn_set g8 mo (.inr (11, [.int 0, .ref (mo + 1), .int 0, .ref (mo + 2), .ref (mo + 3), .int 0, .int 0, .int 0, .int 0, .null, .null, .null, .int 0, .int 0, .int 0, .int 0, .int 0, .null, .null, .null, .null, .int 0, .int 0, .null, .null, .null, .null, .null, .null])) := ⟨_, rfl⟩
  refine mn_R.toG eg9 ?_
  have h0_g9 : mn_at g9 mo (.inr (11, [.int 0, .ref (mo + 1), .int 0, .ref (mo + 2), .ref (mo + 3), .int 0, .int 0, .int 0, .int 0, .null, .null, .null, .int 0, .int 0, .int 0, .int 0, .int 0, .null, .null, .null, .null, .int 0, .int 0, .null, .null, .null, .null, .null, .null])) := by rw [eg9]; exact h0_g8.same
  have hw1_g9 : mn_at g9 (mo + 1) (.inl (0, 60, .inl (fun _ => 0))) := by rw [eg9]; exact hw1_g8.off (by omega)
  have hw4_g9 : mn_at g9 (mo + 2) (.inl (0, 1260, .inl (fun _ => 0))) := by rw [eg9]; exact hw4_g8.off (by omega)
  have hw7_g9 : mn_at g9 (mo + 3) (.inl (0, 21, .inl (fun _ => 0))) := by rw [eg9]; exact hw7_g8.off (by omega)
  have hn_g9 := (show g9.1 = g8.1 by rw [eg9]; rfl).trans hn_g8
  clear h0_g8 hw1_g8 hw4_g8 hw7_g8 hn_g8
  refine mn_aload_n 0 dMo_init_29 rfl rfl ?_
  refine mn_bipush (v := 32) dMo_init_30 (by decide) ?_
  refine mn_putf okMo 6 lMo_23 (by decide) rfl h0_g9 rfl rfl (Nat.le_of_ble_eq_true rfl) dMo_init_32 ?_
  obtain ⟨g10, eg10⟩ : ∃ gg_, gg_ = mn_set g9 mo (.inr (11, [.int 0, .ref (mo + 1), .int 0, .ref (mo + 2), .ref (mo + 3), .int 0, .int 32, .int 0, .int 0, .null, .null, .null, .int 0, .int 0, .int 0, .int 0, .int 0, .null, .null, .null, .null, .int 0, .int 0, .null, .null, .null, .null, .null, .null])) := ⟨_, rfl⟩
  refine mn_R.toG eg10 ?_
  have h0_g10 : mn_at g10 mo (.inr (11, [.int 0, .ref (mo + 1), .int 0, .ref (mo + 2), .ref (mo + 3), .int 0, .int 32, .int 0, .int 0, .null, .null, .null, .int 0, .int 0, .int 0, .int 0, .int 0, .null, .null, .null, .null, .int 0, .int 0, .null, .null, .null, .null, .null, .null])) := by rw [eg10]; exact h0_g9.same
  have hw1_g10 : mn_at g10 (mo + 1) (.inl (0, 60, .inl (fun _ => 0))) := by rw [eg10]; exact hw1_g9.off (by omega)
  have hw4_g10 : mn_at g10 (mo + 2) (.inl (0, 1260, .inl (fun _ => 0))) := by rw [eg10]; exact hw4_g9.off (by omega)
  have hw7_g10 : mn_at g10 (mo + 3) (.inl (0, 21, .inl (fun _ => 0))) := by rw [eg10]; exact hw7_g9.off (by omega)
  have hn_g10 := (show g10.1 = g9.1 by rw [eg10]; rfl).trans hn_g9
  clear h0_g9 hw1_g9 hw4_g9 hw7_g9 hn_g9
  refine mn_aload_n 0 dMo_init_35 rfl rfl ?_
  refine mn_sipush (v := 4800) dMo_init_36 (by decide) ?_
  refine mn_newa (t := 0) (N := 4800) rfl arr_int (by decide) rfl (by decide) (by decide) (by decide) dMo_init_39 ?_
  obtain ⟨g12, eg12⟩ : ∃ gg_, gg_ = mn_push g10 (.inl (0, 4800, .inl (fun _ => 0))) := ⟨_, rfl⟩
  have hsg10 : g10.1 = mo + 4 := by omega
  rw [hsg10]
  refine mn_R.toG eg12 ?_
  have hn_g12 : g12.1 = mo + 4 + 1 := by rw [eg12]; show g10.1 + 1 = _; rw [hsg10]
  have h0_g12 : mn_at g12 mo (.inr (11, [.int 0, .ref (mo + 1), .int 0, .ref (mo + 2), .ref (mo + 3), .int 0, .int 32, .int 0, .int 0, .null, .null, .null, .int 0, .int 0, .int 0, .int 0, .int 0, .null, .null, .null, .null, .int 0, .int 0, .null, .null, .null, .null, .null, .null])) := by rw [eg12]; exact h0_g10.push
  have hw1_g12 : mn_at g12 (mo + 1) (.inl (0, 60, .inl (fun _ => 0))) := by rw [eg12]; exact hw1_g10.push
  have hw4_g12 : mn_at g12 (mo + 2) (.inl (0, 1260, .inl (fun _ => 0))) := by rw [eg12]; exact hw4_g10.push
  have hw7_g12 : mn_at g12 (mo + 3) (.inl (0, 21, .inl (fun _ => 0))) := by rw [eg12]; exact hw7_g10.push
  have hw11_g12 : mn_at g12 (mo + 4) (.inl (0, 4800, .inl (fun _ => 0))) := by rw [eg12, ← hsg10]; exact mn_at_new (by omega)
  clear h0_g10 hw1_g10 hw4_g10 hw7_g10 hn_g10 hsg10
  refine mn_putF okMo 9 lMo_26 (by decide) rfl rfl rfl h0_g12 rfl rfl (Nat.le_of_ble_eq_true rfl) dMo_init_41 ?_
  obtain ⟨g13, eg13⟩ : ∃ gg_, gg_ = mn_set g12 mo (.inr (11, [.int 0, .ref (mo + 1), .int 0, .ref (mo + 2), .ref (mo + 3), .int 0, .int 32, .int 0, .int 0, .ref (mo + 4), .null, .null, .int 0, .int 0, .int 0, .int 0, .int 0, .null, .null, .null, .null, .int 0, .int 0, .null, .null, .null, .null, .null, .null])) := ⟨_, rfl⟩
  refine mn_R.toG eg13 ?_
  have h0_g13 : mn_at g13 mo (.inr (11, [.int 0, .ref (mo + 1), .int 0, .ref (mo + 2), .ref (mo + 3), .int 0, .int 32, .int 0, .int 0, .ref (mo + 4), .null, .null, .int 0, .int 0, .int 0, .int 0, .int 0, .null, .null, .null, .null, .int 0, .int 0, .null, .null, .null, .null, .null, .null])) := by rw [eg13]; exact h0_g12.same
  have hw1_g13 : mn_at g13 (mo + 1) (.inl (0, 60, .inl (fun _ => 0))) := by rw [eg13]; exact hw1_g12.off (by omega)
  have hw4_g13 : mn_at g13 (mo + 2) (.inl (0, 1260, .inl (fun _ => 0))) := by rw [eg13]; exact hw4_g12.off (by omega)
  have hw7_g13 : mn_at g13 (mo + 3) (.inl (0, 21, .inl (fun _ => 0))) := by rw [eg13]; exact hw7_g12.off (by omega)
  have hw11_g13 : mn_at g13 (mo + 4) (.inl (0, 4800, .inl (fun _ => 0))) := by rw [eg13]; exact hw11_g12.off (by omega)
  have hn_g13 := (show g13.1 = g12.1 by rw [eg13]; rfl).trans hn_g12
  clear h0_g12 hw1_g12 hw4_g12 hw7_g12 hw11_g12 hn_g12
  refine mn_aload_n 0 dMo_init_44 rfl rfl ?_
  refine mn_bipush (v := 60) dMo_init_45 (by decide) ?_
  refine mn_newa (t := 0) (N := 60) rfl arr_int (by decide) rfl (by decide) (by decide) (by decide) dMo_init_47 ?_
  obtain ⟨g15, eg15⟩ : ∃ gg_, gg_ = mn_push g13 (.inl (0, 60, .inl (fun _ => 0))) := ⟨_, rfl⟩
  have hsg13 : g13.1 = mo + 5 := by omega
  rw [hsg13]
  refine mn_R.toG eg15 ?_
  have hn_g15 : g15.1 = mo + 5 + 1 := by rw [eg15]; show g13.1 + 1 = _; rw [hsg13]
  have h0_g15 : mn_at g15 mo (.inr (11, [.int 0, .ref (mo + 1), .int 0, .ref (mo + 2), .ref (mo + 3), .int 0, .int 32, .int 0, .int 0, .ref (mo + 4), .null, .null, .int 0, .int 0, .int 0, .int 0, .int 0, .null, .null, .null, .null, .int 0, .int 0, .null, .null, .null, .null, .null, .null])) := by rw [eg15]; exact h0_g13.push
  have hw1_g15 : mn_at g15 (mo + 1) (.inl (0, 60, .inl (fun _ => 0))) := by rw [eg15]; exact hw1_g13.push
  have hw4_g15 : mn_at g15 (mo + 2) (.inl (0, 1260, .inl (fun _ => 0))) := by rw [eg15]; exact hw4_g13.push
  have hw7_g15 : mn_at g15 (mo + 3) (.inl (0, 21, .inl (fun _ => 0))) := by rw [eg15]; exact hw7_g13.push
  have hw11_g15 : mn_at g15 (mo + 4) (.inl (0, 4800, .inl (fun _ => 0))) := by rw [eg15]; exact hw11_g13.push
  have hw14_g15 : mn_at g15 (mo + 5) (.inl (0, 60, .inl (fun _ => 0))) := by rw [eg15, ← hsg13]; exact mn_at_new (by omega)
  clear h0_g13 hw1_g13 hw4_g13 hw7_g13 hw11_g13 hn_g13 hsg13
  refine mn_putF okMo 10 lMo_29 (by decide) rfl rfl rfl h0_g15 rfl rfl (Nat.le_of_ble_eq_true rfl) dMo_init_49 ?_
  obtain ⟨g16, eg16⟩ : ∃ gg_, gg_ = mn_set g15 mo (.inr (11, [.int 0, .ref (mo + 1), .int 0, .ref (mo + 2), .ref (mo + 3), .int 0, .int 32, .int 0, .int 0, .ref (mo + 4), .ref (mo + 5), .null, .int 0, .int 0, .int 0, .int 0, .int 0, .null, .null, .null, .null, .int 0, .int 0, .null, .null, .null, .null, .null, .null])) := ⟨_, rfl⟩
  refine mn_R.toG eg16 ?_
  have h0_g16 : mn_at g16 mo (.inr (11, [.int 0, .ref (mo + 1), .int 0, .ref (mo + 2), .ref (mo + 3), .int 0, .int 32, .int 0, .int 0, .ref (mo + 4), .ref (mo + 5), .null, .int 0, .int 0, .int 0, .int 0, .int 0, .null, .null, .null, .null, .int 0, .int 0, .null, .null, .null, .null, .null, .null])) := by rw [eg16]; exact h0_g15.same
  have hw1_g16 : mn_at g16 (mo + 1) (.inl (0, 60, .inl (fun _ => 0))) := by rw [eg16]; exact hw1_g15.off (by omega)
  have hw4_g16 : mn_at g16 (mo + 2) (.inl (0, 1260, .inl (fun _ => 0))) := by rw [eg16]; exact hw4_g15.off (by omega)
  have hw7_g16 : mn_at g16 (mo + 3) (.inl (0, 21, .inl (fun _ => 0))) := by rw [eg16]; exact hw7_g15.off (by omega)
  have hw11_g16 : mn_at g16 (mo + 4) (.inl (0, 4800, .inl (fun _ => 0))) := by rw [eg16]; exact hw11_g15.off (by omega)
  have hw14_g16 : mn_at g16 (mo + 5) (.inl (0, 60, .inl (fun _ => 0))) := by rw [eg16]; exact hw14_g15.off (by omega)
  have hn_g16 := (show g16.1 = g15.1 by rw [eg16]; rfl).trans hn_g15
  clear h0_g15 hw1_g15 hw4_g15 hw7_g15 hw11_g15 hw14_g15 hn_g15
  refine mn_aload_n 0 dMo_init_52 rfl rfl ?_
  refine mn_bipush (v := 80) dMo_init_53 (by decide) ?_
  refine mn_newa (t := 0) (N := 80) rfl arr_int (by decide) rfl (by decide) (by decide) (by decide) dMo_init_55 ?_
  obtain ⟨g18, eg18⟩ : ∃ gg_, gg_ = mn_push g16 (.inl (0, 80, .inl (fun _ => 0))) := ⟨_, rfl⟩
  have hsg16 : g16.1 = mo + 6 := by omega
  rw [hsg16]
  refine mn_R.toG eg18 ?_
  have hn_g18 : g18.1 = mo + 6 + 1 := by rw [eg18]; show g16.1 + 1 = _; rw [hsg16]
  have h0_g18 : mn_at g18 mo (.inr (11, [.int 0, .ref (mo + 1), .int 0, .ref (mo + 2), .ref (mo + 3), .int 0, .int 32, .int 0, .int 0, .ref (mo + 4), .ref (mo + 5), .null, .int 0, .int 0, .int 0, .int 0, .int 0, .null, .null, .null, .null, .int 0, .int 0, .null, .null, .null, .null, .null, .null])) := by rw [eg18]; exact h0_g16.push
  have hw1_g18 : mn_at g18 (mo + 1) (.inl (0, 60, .inl (fun _ => 0))) := by rw [eg18]; exact hw1_g16.push
  have hw4_g18 : mn_at g18 (mo + 2) (.inl (0, 1260, .inl (fun _ => 0))) := by rw [eg18]; exact hw4_g16.push
  have hw7_g18 : mn_at g18 (mo + 3) (.inl (0, 21, .inl (fun _ => 0))) := by rw [eg18]; exact hw7_g16.push
  have hw11_g18 : mn_at g18 (mo + 4) (.inl (0, 4800, .inl (fun _ => 0))) := by rw [eg18]; exact hw11_g16.push
  have hw14_g18 : mn_at g18 (mo + 5) (.inl (0, 60, .inl (fun _ => 0))) := by rw [eg18]; exact hw14_g16.push
  have hw17_g18 : mn_at g18 (mo + 6) (.inl (0, 80, .inl (fun _ => 0))) := by rw [eg18, ← hsg16]; exact mn_at_new (by omega)
  clear h0_g16 hw1_g16 hw4_g16 hw7_g16 hw11_g16 hw14_g16 hn_g16 hsg16
  refine mn_putF okMo 11 lMo_32 (by decide) rfl rfl rfl h0_g18 rfl rfl (Nat.le_of_ble_eq_true rfl) dMo_init_57 ?_
  obtain ⟨g19, eg19⟩ : ∃ gg_, gg_ = mn_set g18 mo (.inr (11, [.int 0, .ref (mo + 1), .int 0, .ref (mo + 2), .ref (mo + 3), .int 0, .int 32, .int 0, .int 0, .ref (mo + 4), .ref (mo + 5), .ref (mo + 6), .int 0, .int 0, .int 0, .int 0, .int 0, .null, .null, .null, .null, .int 0, .int 0, .null, .null, .null, .null, .null, .null])) := ⟨_, rfl⟩
  refine mn_R.toG eg19 ?_
  have h0_g19 : mn_at g19 mo (.inr (11, [.int 0, .ref (mo + 1), .int 0, .ref (mo + 2), .ref (mo + 3), .int 0, .int 32, .int 0, .int 0, .ref (mo + 4), .ref (mo + 5), .ref (mo + 6), .int 0, .int 0, .int 0, .int 0, .int 0, .null, .null, .null, .null, .int 0, .int 0, .null, .null, .null, .null, .null, .null])) := by rw [eg19]; exact h0_g18.same
  have hw1_g19 : mn_at g19 (mo + 1) (.inl (0, 60, .inl (fun _ => 0))) := by rw [eg19]; exact hw1_g18.off (by omega)
  have hw4_g19 : mn_at g19 (mo + 2) (.inl (0, 1260, .inl (fun _ => 0))) := by rw [eg19]; exact hw4_g18.off (by omega)
  have hw7_g19 : mn_at g19 (mo + 3) (.inl (0, 21, .inl (fun _ => 0))) := by rw [eg19]; exact hw7_g18.off (by omega)
  have hw11_g19 : mn_at g19 (mo + 4) (.inl (0, 4800, .inl (fun _ => 0))) := by rw [eg19]; exact hw11_g18.off (by omega)
  have hw14_g19 : mn_at g19 (mo + 5) (.inl (0, 60, .inl (fun _ => 0))) := by rw [eg19]; exact hw14_g18.off (by omega)
  have hw17_g19 : mn_at g19 (mo + 6) (.inl (0, 80, .inl (fun _ => 0))) := by rw [eg19]; exact hw17_g18.off (by omega)
  have hn_g19 := (show g19.1 = g18.1 by rw [eg19]; rfl).trans hn_g18
  clear h0_g18 hw1_g18 hw4_g18 hw7_g18 hw11_g18 hw14_g18 hw17_g18 hn_g18
  refine mn_aload_n 0 dMo_init_60 rfl rfl ?_
  refine mn_bipush (v := 64) dMo_init_61 (by decide) ?_
  refine mn_newa (t := 0) (N := 64) rfl arr_int (by decide) rfl (by decide) (by decide) (by decide) dMo_init_63 ?_
  obtain ⟨g21, eg21⟩ : ∃ gg_, gg_ = mn_push g19 (.inl (0, 64, .inl (fun _ => 0))) := ⟨_, rfl⟩
  have hsg19 : g19.1 = mo + 7 := by omega
  rw [hsg19]
  refine mn_R.toG eg21 ?_
  have hn_g21 : g21.1 = mo + 7 + 1 := by rw [eg21]; show g19.1 + 1 = _; rw [hsg19]
  have h0_g21 : mn_at g21 mo (.inr (11, [.int 0, .ref (mo + 1), .int 0, .ref (mo + 2), .ref (mo + 3), .int 0, .int 32, .int 0, .int 0, .ref (mo + 4), .ref (mo + 5), .ref (mo + 6), .int 0, .int 0, .int 0, .int 0, .int 0, .null, .null, .null, .null, .int 0, .int 0, .null, .null, .null, .null, .null, .null])) := by rw [eg21]; exact h0_g19.push
  have hw1_g21 : mn_at g21 (mo + 1) (.inl (0, 60, .inl (fun _ => 0))) := by rw [eg21]; exact hw1_g19.push
  have hw4_g21 : mn_at g21 (mo + 2) (.inl (0, 1260, .inl (fun _ => 0))) := by rw [eg21]; exact hw4_g19.push
  have hw7_g21 : mn_at g21 (mo + 3) (.inl (0, 21, .inl (fun _ => 0))) := by rw [eg21]; exact hw7_g19.push
  have hw11_g21 : mn_at g21 (mo + 4) (.inl (0, 4800, .inl (fun _ => 0))) := by rw [eg21]; exact hw11_g19.push
  have hw14_g21 : mn_at g21 (mo + 5) (.inl (0, 60, .inl (fun _ => 0))) := by rw [eg21]; exact hw14_g19.push
  have hw17_g21 : mn_at g21 (mo + 6) (.inl (0, 80, .inl (fun _ => 0))) := by rw [eg21]; exact hw17_g19.push
  have hw20_g21 : mn_at g21 (mo + 7) (.inl (0, 64, .inl (fun _ => 0))) := by rw [eg21, ← hsg19]; exact mn_at_new (by omega)
  clear h0_g19 hw1_g19 hw4_g19 hw7_g19 hw11_g19 hw14_g19 hw17_g19 hn_g19 hsg19
  refine mn_putF okMo 17 lMo_35 (by decide) rfl rfl rfl h0_g21 rfl rfl (Nat.le_of_ble_eq_true rfl) dMo_init_65 ?_
  obtain ⟨g22, eg22⟩ : ∃ gg_, gg_ = mn_set g21 mo (.inr (11, [.int 0, .ref (mo + 1), .int 0, .ref (mo + 2), .ref (mo + 3), .int 0, .int 32, .int 0, .int 0, .ref (mo + 4), .ref (mo + 5), .ref (mo + 6), .int 0, .int 0, .int 0, .int 0, .int 0, .ref (mo + 7), .null, .null, .null, .int 0, .int 0, .null, .null, .null, .null, .null, .null])) := ⟨_, rfl⟩
  refine mn_R.toG eg22 ?_
  have h0_g22 : mn_at g22 mo (.inr (11, [.int 0, .ref (mo + 1), .int 0, .ref (mo + 2), .ref (mo + 3), .int 0, .int 32, .int 0, .int 0, .ref (mo + 4), .ref (mo + 5), .ref (mo + 6), .int 0, .int 0, .int 0, .int 0, .int 0, .ref (mo + 7), .null, .null, .null, .int 0, .int 0, .null, .null, .null, .null, .null, .null])) := by rw [eg22]; exact h0_g21.same
  have hw1_g22 : mn_at g22 (mo + 1) (.inl (0, 60, .inl (fun _ => 0))) := by rw [eg22]; exact hw1_g21.off (by omega)
  have hw4_g22 : mn_at g22 (mo + 2) (.inl (0, 1260, .inl (fun _ => 0))) := by rw [eg22]; exact hw4_g21.off (by omega)
  have hw7_g22 : mn_at g22 (mo + 3) (.inl (0, 21, .inl (fun _ => 0))) := by rw [eg22]; exact hw7_g21.off (by omega)
  have hw11_g22 : mn_at g22 (mo + 4) (.inl (0, 4800, .inl (fun _ => 0))) := by rw [eg22]; exact hw11_g21.off (by omega)
  have hw14_g22 : mn_at g22 (mo + 5) (.inl (0, 60, .inl (fun _ => 0))) := by rw [eg22]; exact hw14_g21.off (by omega)
  have hw17_g22 : mn_at g22 (mo + 6) (.inl (0, 80, .inl (fun _ => 0))) := by rw [eg22]; exact hw17_g21.off (by omega)
  have hw20_g22 : mn_at g22 (mo + 7) (.inl (0, 64, .inl (fun _ => 0))) := by rw [eg22]; exact hw20_g21.off (by omega)
  have hn_g22 := (show g22.1 = g21.1 by rw [eg22]; rfl).trans hn_g21
  clear h0_g21 hw1_g21 hw4_g21 hw7_g21 hw11_g21 hw14_g21 hw17_g21 hw20_g21 hn_g21
  refine mn_aload_n 0 dMo_init_68 rfl rfl ?_
  refine mn_bipush (v := 64) dMo_init_69 (by decide) ?_
  refine mn_newa (t := 0) (N := 64) rfl arr_int (by decide) rfl (by decide) (by decide) (by decide) dMo_init_71 ?_
  obtain ⟨g24, eg24⟩ : ∃ gg_, gg_ = mn_push g22 (.inl (0, 64, .inl (fun _ => 0))) := ⟨_, rfl⟩
  have hsg22 : g22.1 = mo + 8 := by omega
  rw [hsg22]
  refine mn_R.toG eg24 ?_
  have hn_g24 : g24.1 = mo + 8 + 1 := by rw [eg24]; show g22.1 + 1 = _; rw [hsg22]
  have h0_g24 : mn_at g24 mo (.inr (11, [.int 0, .ref (mo + 1), .int 0, .ref (mo + 2), .ref (mo + 3), .int 0, .int 32, .int 0, .int 0, .ref (mo + 4), .ref (mo + 5), .ref (mo + 6), .int 0, .int 0, .int 0, .int 0, .int 0, .ref (mo + 7), .null, .null, .null, .int 0, .int 0, .null, .null, .null, .null, .null, .null])) := by rw [eg24]; exact h0_g22.push
  have hw1_g24 : mn_at g24 (mo + 1) (.inl (0, 60, .inl (fun _ => 0))) := by rw [eg24]; exact hw1_g22.push
  have hw4_g24 : mn_at g24 (mo + 2) (.inl (0, 1260, .inl (fun _ => 0))) := by rw [eg24]; exact hw4_g22.push
  have hw7_g24 : mn_at g24 (mo + 3) (.inl (0, 21, .inl (fun _ => 0))) := by rw [eg24]; exact hw7_g22.push
  have hw11_g24 : mn_at g24 (mo + 4) (.inl (0, 4800, .inl (fun _ => 0))) := by rw [eg24]; exact hw11_g22.push
  have hw14_g24 : mn_at g24 (mo + 5) (.inl (0, 60, .inl (fun _ => 0))) := by rw [eg24]; exact hw14_g22.push
  have hw17_g24 : mn_at g24 (mo + 6) (.inl (0, 80, .inl (fun _ => 0))) := by rw [eg24]; exact hw17_g22.push
  have hw20_g24 : mn_at g24 (mo + 7) (.inl (0, 64, .inl (fun _ => 0))) := by rw [eg24]; exact hw20_g22.push
  have hw23_g24 : mn_at g24 (mo + 8) (.inl (0, 64, .inl (fun _ => 0))) := by rw [eg24, ← hsg22]; exact mn_at_new (by omega)
  clear h0_g22 hw1_g22 hw4_g22 hw7_g22 hw11_g22 hw14_g22 hw17_g22 hw20_g22 hn_g22 hsg22
  refine mn_putF okMo 18 lMo_38 (by decide) rfl rfl rfl h0_g24 rfl rfl (Nat.le_of_ble_eq_true rfl) dMo_init_73 ?_
  obtain ⟨g25, eg25⟩ : ∃ gg_, gg_ = mn_set g24 mo (.inr (11, [.int 0, .ref (mo + 1), .int 0, .ref (mo + 2), .ref (mo + 3), .int 0, .int 32, .int 0, .int 0, .ref (mo + 4), .ref (mo + 5), .ref (mo + 6), .int 0, .int 0, .int 0, .int 0, .int 0, .ref (mo + 7), .ref (mo + 8), .null, .null, .int 0, .int 0, .null, .null, .null, .null, .null, .null])) := ⟨_, rfl⟩
  refine mn_R.toG eg25 ?_
  have h0_g25 : mn_at g25 mo (.inr (11, [.int 0, .ref (mo + 1), .int 0, .ref (mo + 2), .ref (mo + 3), .int 0, .int 32, .int 0, .int 0, .ref (mo + 4), .ref (mo + 5), .ref (mo + 6), .int 0, .int 0, .int 0, .int 0, .int 0, .ref (mo + 7), .ref (mo + 8), .null, .null, .int 0, .int 0, .null, .null, .null, .null, .null, .null])) := by rw [eg25]; exact h0_g24.same
  have hw1_g25 : mn_at g25 (mo + 1) (.inl (0, 60, .inl (fun _ => 0))) := by rw [eg25]; exact hw1_g24.off (by omega)
  have hw4_g25 : mn_at g25 (mo + 2) (.inl (0, 1260, .inl (fun _ => 0))) := by rw [eg25]; exact hw4_g24.off (by omega)
  have hw7_g25 : mn_at g25 (mo + 3) (.inl (0, 21, .inl (fun _ => 0))) := by rw [eg25]; exact hw7_g24.off (by omega)
  have hw11_g25 : mn_at g25 (mo + 4) (.inl (0, 4800, .inl (fun _ => 0))) := by rw [eg25]; exact hw11_g24.off (by omega)
  have hw14_g25 : mn_at g25 (mo + 5) (.inl (0, 60, .inl (fun _ => 0))) := by rw [eg25]; exact hw14_g24.off (by omega)
  have hw17_g25 : mn_at g25 (mo + 6) (.inl (0, 80, .inl (fun _ => 0))) := by rw [eg25]; exact hw17_g24.off (by omega)
  have hw20_g25 : mn_at g25 (mo + 7) (.inl (0, 64, .inl (fun _ => 0))) := by rw [eg25]; exact hw20_g24.off (by omega)
  have hw23_g25 : mn_at g25 (mo + 8) (.inl (0, 64, .inl (fun _ => 0))) := by rw [eg25]; exact hw23_g24.off (by omega)
  have hn_g25 := (show g25.1 = g24.1 by rw [eg25]; rfl).trans hn_g24
  clear h0_g24 hw1_g24 hw4_g24 hw7_g24 hw11_g24 hw14_g24 hw17_g24 hw20_g24 hw23_g24 hn_g24
  refine mn_aload_n 0 dMo_init_76 rfl rfl ?_
  refine mn_bipush (v := 64) dMo_init_77 (by decide) ?_
  refine mn_newa (t := 0) (N := 64) rfl arr_int (by decide) rfl (by decide) (by decide) (by decide) dMo_init_79 ?_
  obtain ⟨g27, eg27⟩ : ∃ gg_, gg_ = mn_push g25 (.inl (0, 64, .inl (fun _ => 0))) := ⟨_, rfl⟩
  have hsg25 : g25.1 = mo + 9 := by omega
  rw [hsg25]
  refine mn_R.toG eg27 ?_
  have hn_g27 : g27.1 = mo + 9 + 1 := by rw [eg27]; show g25.1 + 1 = _; rw [hsg25]
  have h0_g27 : mn_at g27 mo (.inr (11, [.int 0, .ref (mo + 1), .int 0, .ref (mo + 2), .ref (mo + 3), .int 0, .int 32, .int 0, .int 0, .ref (mo + 4), .ref (mo + 5), .ref (mo + 6), .int 0, .int 0, .int 0, .int 0, .int 0, .ref (mo + 7), .ref (mo + 8), .null, .null, .int 0, .int 0, .null, .null, .null, .null, .null, .null])) := by rw [eg27]; exact h0_g25.push
  have hw1_g27 : mn_at g27 (mo + 1) (.inl (0, 60, .inl (fun _ => 0))) := by rw [eg27]; exact hw1_g25.push
  have hw4_g27 : mn_at g27 (mo + 2) (.inl (0, 1260, .inl (fun _ => 0))) := by rw [eg27]; exact hw4_g25.push
  have hw7_g27 : mn_at g27 (mo + 3) (.inl (0, 21, .inl (fun _ => 0))) := by rw [eg27]; exact hw7_g25.push
  have hw11_g27 : mn_at g27 (mo + 4) (.inl (0, 4800, .inl (fun _ => 0))) := by rw [eg27]; exact hw11_g25.push
  have hw14_g27 : mn_at g27 (mo + 5) (.inl (0, 60, .inl (fun _ => 0))) := by rw [eg27]; exact hw14_g25.push
  have hw17_g27 : mn_at g27 (mo + 6) (.inl (0, 80, .inl (fun _ => 0))) := by rw [eg27]; exact hw17_g25.push
  have hw20_g27 : mn_at g27 (mo + 7) (.inl (0, 64, .inl (fun _ => 0))) := by rw [eg27]; exact hw20_g25.push
  have hw23_g27 : mn_at g27 (mo + 8) (.inl (0, 64, .inl (fun _ => 0))) := by rw [eg27]; exact hw23_g25.push
  have hw26_g27 : mn_at g27 (mo + 9) (.inl (0, 64, .inl (fun _ => 0))) := by rw [eg27, ← hsg25]; exact mn_at_new (by omega)
  clear h0_g25 hw1_g25 hw4_g25 hw7_g25 hw11_g25 hw14_g25 hw17_g25 hw20_g25 hw23_g25 hn_g25 hsg25
  refine mn_putF okMo 19 lMo_41 (by decide) rfl rfl rfl h0_g27 rfl rfl (Nat.le_of_ble_eq_true rfl) dMo_init_81 ?_
  obtain ⟨g28, eg28⟩ : ∃ gg_, gg_ = mn_set g27 mo (.inr (11, [.int 0, .ref (mo + 1), .int 0, .ref (mo + 2), .ref (mo + 3), .int 0, .int 32, .int 0, .int 0, .ref (mo + 4), .ref (mo + 5), .ref (mo + 6), .int 0, .int 0, .int 0, .int 0, .int 0, .ref (mo + 7), .ref (mo + 8), .ref (mo + 9), .null, .int 0, .int 0, .null, .null, .null, .null, .null, .null])) := ⟨_, rfl⟩
  refine mn_R.toG eg28 ?_
  have h0_g28 : mn_at g28 mo (.inr (11, [.int 0, .ref (mo + 1), .int 0, .ref (mo + 2), .ref (mo + 3), .int 0, .int 32, .int 0, .int 0, .ref (mo + 4), .ref (mo + 5), .ref (mo + 6), .int 0, .int 0, .int 0, .int 0, .int 0, .ref (mo + 7), .ref (mo + 8), .ref (mo + 9), .null, .int 0, .int 0, .null, .null, .null, .null, .null, .null])) := by rw [eg28]; exact h0_g27.same
  have hw1_g28 : mn_at g28 (mo + 1) (.inl (0, 60, .inl (fun _ => 0))) := by rw [eg28]; exact hw1_g27.off (by omega)
  have hw4_g28 : mn_at g28 (mo + 2) (.inl (0, 1260, .inl (fun _ => 0))) := by rw [eg28]; exact hw4_g27.off (by omega)
  have hw7_g28 : mn_at g28 (mo + 3) (.inl (0, 21, .inl (fun _ => 0))) := by rw [eg28]; exact hw7_g27.off (by omega)
  have hw11_g28 : mn_at g28 (mo + 4) (.inl (0, 4800, .inl (fun _ => 0))) := by rw [eg28]; exact hw11_g27.off (by omega)
  have hw14_g28 : mn_at g28 (mo + 5) (.inl (0, 60, .inl (fun _ => 0))) := by rw [eg28]; exact hw14_g27.off (by omega)
  have hw17_g28 : mn_at g28 (mo + 6) (.inl (0, 80, .inl (fun _ => 0))) := by rw [eg28]; exact hw17_g27.off (by omega)
  have hw20_g28 : mn_at g28 (mo + 7) (.inl (0, 64, .inl (fun _ => 0))) := by rw [eg28]; exact hw20_g27.off (by omega)
  have hw23_g28 : mn_at g28 (mo + 8) (.inl (0, 64, .inl (fun _ => 0))) := by rw [eg28]; exact hw23_g27.off (by omega)
  have hw26_g28 : mn_at g28 (mo + 9) (.inl (0, 64, .inl (fun _ => 0))) := by rw [eg28]; exact hw26_g27.off (by omega)
  have hn_g28 := (show g28.1 = g27.1 by rw [eg28]; rfl).trans hn_g27
  clear h0_g27 hw1_g27 hw4_g27 hw7_g27 hw11_g27 hw14_g27 hw17_g27 hw20_g27 hw23_g27 hw26_g27 hn_g27
  refine mn_aload_n 0 dMo_init_84 rfl rfl ?_
  refine mn_sipush (v := 4800) dMo_init_85 (by decide) ?_
  refine mn_newa (t := 0) (N := 4800) rfl arr_int (by decide) rfl (by decide) (by decide) (by decide) dMo_init_88 ?_
  obtain ⟨g30, eg30⟩ : ∃ gg_, gg_ = mn_push g28 (.inl (0, 4800, .inl (fun _ => 0))) := ⟨_, rfl⟩
  have hsg28 : g28.1 = mo + 10 := by omega
  rw [hsg28]
  refine mn_R.toG eg30 ?_
  have hn_g30 : g30.1 = mo + 10 + 1 := by rw [eg30]; show g28.1 + 1 = _; rw [hsg28]
  have h0_g30 : mn_at g30 mo (.inr (11, [.int 0, .ref (mo + 1), .int 0, .ref (mo + 2), .ref (mo + 3), .int 0, .int 32, .int 0, .int 0, .ref (mo + 4), .ref (mo + 5), .ref (mo + 6), .int 0, .int 0, .int 0, .int 0, .int 0, .ref (mo + 7), .ref (mo + 8), .ref (mo + 9), .null, .int 0, .int 0, .null, .null, .null, .null, .null, .null])) := by rw [eg30]; exact h0_g28.push
  have hw1_g30 : mn_at g30 (mo + 1) (.inl (0, 60, .inl (fun _ => 0))) := by rw [eg30]; exact hw1_g28.push
  have hw4_g30 : mn_at g30 (mo + 2) (.inl (0, 1260, .inl (fun _ => 0))) := by rw [eg30]; exact hw4_g28.push
  have hw7_g30 : mn_at g30 (mo + 3) (.inl (0, 21, .inl (fun _ => 0))) := by rw [eg30]; exact hw7_g28.push
  have hw11_g30 : mn_at g30 (mo + 4) (.inl (0, 4800, .inl (fun _ => 0))) := by rw [eg30]; exact hw11_g28.push
  have hw14_g30 : mn_at g30 (mo + 5) (.inl (0, 60, .inl (fun _ => 0))) := by rw [eg30]; exact hw14_g28.push
  have hw17_g30 : mn_at g30 (mo + 6) (.inl (0, 80, .inl (fun _ => 0))) := by rw [eg30]; exact hw17_g28.push
  have hw20_g30 : mn_at g30 (mo + 7) (.inl (0, 64, .inl (fun _ => 0))) := by rw [eg30]; exact hw20_g28.push
  have hw23_g30 : mn_at g30 (mo + 8) (.inl (0, 64, .inl (fun _ => 0))) := by rw [eg30]; exact hw23_g28.push
  have hw26_g30 : mn_at g30 (mo + 9) (.inl (0, 64, .inl (fun _ => 0))) := by rw [eg30]; exact hw26_g28.push
  have hw29_g30 : mn_at g30 (mo + 10) (.inl (0, 4800, .inl (fun _ => 0))) := by rw [eg30, ← hsg28]; exact mn_at_new (by omega)
  clear h0_g28 hw1_g28 hw4_g28 hw7_g28 hw11_g28 hw14_g28 hw17_g28 hw20_g28 hw23_g28 hw26_g28 hn_g28 hsg28
  refine mn_putF okMo 20 lMo_44 (by decide) rfl rfl rfl h0_g30 rfl rfl (Nat.le_of_ble_eq_true rfl) dMo_init_90 ?_
  obtain ⟨g31, eg31⟩ : ∃ gg_, gg_ = mn_set g30 mo (.inr (11, [.int 0, .ref (mo + 1), .int 0, .ref (mo + 2), .ref (mo + 3), .int 0, .int 32, .int 0, .int 0, .ref (mo + 4), .ref (mo + 5), .ref (mo + 6), .int 0, .int 0, .int 0, .int 0, .int 0, .ref (mo + 7), .ref (mo + 8), .ref (mo + 9), .ref (mo + 10), .int 0, .int 0, .null, .null, .null, .null, .null, .null])) := ⟨_, rfl⟩
  refine mn_R.toG eg31 ?_
  have h0_g31 : mn_at g31 mo (.inr (11, [.int 0, .ref (mo + 1), .int 0, .ref (mo + 2), .ref (mo + 3), .int 0, .int 32, .int 0, .int 0, .ref (mo + 4), .ref (mo + 5), .ref (mo + 6), .int 0, .int 0, .int 0, .int 0, .int 0, .ref (mo + 7), .ref (mo + 8), .ref (mo + 9), .ref (mo + 10), .int 0, .int 0, .null, .null, .null, .null, .null, .null])) := by rw [eg31]; exact h0_g30.same
  have hw1_g31 : mn_at g31 (mo + 1) (.inl (0, 60, .inl (fun _ => 0))) := by rw [eg31]; exact hw1_g30.off (by omega)
  have hw4_g31 : mn_at g31 (mo + 2) (.inl (0, 1260, .inl (fun _ => 0))) := by rw [eg31]; exact hw4_g30.off (by omega)
  have hw7_g31 : mn_at g31 (mo + 3) (.inl (0, 21, .inl (fun _ => 0))) := by rw [eg31]; exact hw7_g30.off (by omega)
  have hw11_g31 : mn_at g31 (mo + 4) (.inl (0, 4800, .inl (fun _ => 0))) := by rw [eg31]; exact hw11_g30.off (by omega)
  have hw14_g31 : mn_at g31 (mo + 5) (.inl (0, 60, .inl (fun _ => 0))) := by rw [eg31]; exact hw14_g30.off (by omega)
  have hw17_g31 : mn_at g31 (mo + 6) (.inl (0, 80, .inl (fun _ => 0))) := by rw [eg31]; exact hw17_g30.off (by omega)
  have hw20_g31 : mn_at g31 (mo + 7) (.inl (0, 64, .inl (fun _ => 0))) := by rw [eg31]; exact hw20_g30.off (by omega)
  have hw23_g31 : mn_at g31 (mo + 8) (.inl (0, 64, .inl (fun _ => 0))) := by rw [eg31]; exact hw23_g30.off (by omega)
  have hw26_g31 : mn_at g31 (mo + 9) (.inl (0, 64, .inl (fun _ => 0))) := by rw [eg31]; exact hw26_g30.off (by omega)
  have hw29_g31 : mn_at g31 (mo + 10) (.inl (0, 4800, .inl (fun _ => 0))) := by rw [eg31]; exact hw29_g30.off (by omega)
  have hn_g31 := (show g31.1 = g30.1 by rw [eg31]; rfl).trans hn_g30
  clear h0_g30 hw1_g30 hw4_g30 hw7_g30 hw11_g30 hw14_g30 hw17_g30 hw20_g30 hw23_g30 hw26_g30 hw29_g30 hn_g30
  refine mn_aload_n 0 dMo_init_93 rfl rfl ?_
  refine mn_bipush (v := 40) dMo_init_94 (by decide) ?_
  refine mn_newa (t := 0) (N := 40) rfl arr_int (by decide) rfl (by decide) (by decide) (by decide) dMo_init_96 ?_
  obtain ⟨g33, eg33⟩ : ∃ gg_, gg_ = mn_push g31 (.inl (0, 40, .inl (fun _ => 0))) := ⟨_, rfl⟩
  have hsg31 : g31.1 = mo + 11 := by omega
  rw [hsg31]
  refine mn_R.toG eg33 ?_
  have hn_g33 : g33.1 = mo + 11 + 1 := by rw [eg33]; show g31.1 + 1 = _; rw [hsg31]
  have h0_g33 : mn_at g33 mo (.inr (11, [.int 0, .ref (mo + 1), .int 0, .ref (mo + 2), .ref (mo + 3), .int 0, .int 32, .int 0, .int 0, .ref (mo + 4), .ref (mo + 5), .ref (mo + 6), .int 0, .int 0, .int 0, .int 0, .int 0, .ref (mo + 7), .ref (mo + 8), .ref (mo + 9), .ref (mo + 10), .int 0, .int 0, .null, .null, .null, .null, .null, .null])) := by rw [eg33]; exact h0_g31.push
  have hw1_g33 : mn_at g33 (mo + 1) (.inl (0, 60, .inl (fun _ => 0))) := by rw [eg33]; exact hw1_g31.push
  have hw4_g33 : mn_at g33 (mo + 2) (.inl (0, 1260, .inl (fun _ => 0))) := by rw [eg33]; exact hw4_g31.push
  have hw7_g33 : mn_at g33 (mo + 3) (.inl (0, 21, .inl (fun _ => 0))) := by rw [eg33]; exact hw7_g31.push
  have hw11_g33 : mn_at g33 (mo + 4) (.inl (0, 4800, .inl (fun _ => 0))) := by rw [eg33]; exact hw11_g31.push
  have hw14_g33 : mn_at g33 (mo + 5) (.inl (0, 60, .inl (fun _ => 0))) := by rw [eg33]; exact hw14_g31.push
  have hw17_g33 : mn_at g33 (mo + 6) (.inl (0, 80, .inl (fun _ => 0))) := by rw [eg33]; exact hw17_g31.push
  have hw20_g33 : mn_at g33 (mo + 7) (.inl (0, 64, .inl (fun _ => 0))) := by rw [eg33]; exact hw20_g31.push
  have hw23_g33 : mn_at g33 (mo + 8) (.inl (0, 64, .inl (fun _ => 0))) := by rw [eg33]; exact hw23_g31.push
  have hw26_g33 : mn_at g33 (mo + 9) (.inl (0, 64, .inl (fun _ => 0))) := by rw [eg33]; exact hw26_g31.push
  have hw29_g33 : mn_at g33 (mo + 10) (.inl (0, 4800, .inl (fun _ => 0))) := by rw [eg33]; exact hw29_g31.push
  have hw32_g33 : mn_at g33 (mo + 11) (.inl (0, 40, .inl (fun _ => 0))) := by rw [eg33, ← hsg31]; exact mn_at_new (by omega)
  clear h0_g31 hw1_g31 hw4_g31 hw7_g31 hw11_g31 hw14_g31 hw17_g31 hw20_g31 hw23_g31 hw26_g31 hw29_g31 hn_g31 hsg31
  refine mn_putF okMo 23 lMo_47 (by decide) rfl rfl rfl h0_g33 rfl rfl (Nat.le_of_ble_eq_true rfl) dMo_init_98 ?_
  obtain ⟨g34, eg34⟩ : ∃ gg_, gg_ = mn_set g33 mo (.inr (11, [.int 0, .ref (mo + 1), .int 0, .ref (mo + 2), .ref (mo + 3), .int 0, .int 32, .int 0, .int 0, .ref (mo + 4), .ref (mo + 5), .ref (mo + 6), .int 0, .int 0, .int 0, .int 0, .int 0, .ref (mo + 7), .ref (mo + 8), .ref (mo + 9), .ref (mo + 10), .int 0, .int 0, .ref (mo + 11), .null, .null, .null, .null, .null])) := ⟨_, rfl⟩
  refine mn_R.toG eg34 ?_
  have h0_g34 : mn_at g34 mo (.inr (11, [.int 0, .ref (mo + 1), .int 0, .ref (mo + 2), .ref (mo + 3), .int 0, .int 32, .int 0, .int 0, .ref (mo + 4), .ref (mo + 5), .ref (mo + 6), .int 0, .int 0, .int 0, .int 0, .int 0, .ref (mo + 7), .ref (mo + 8), .ref (mo + 9), .ref (mo + 10), .int 0, .int 0, .ref (mo + 11), .null, .null, .null, .null, .null])) := by rw [eg34]; exact h0_g33.same
  have hw1_g34 : mn_at g34 (mo + 1) (.inl (0, 60, .inl (fun _ => 0))) := by rw [eg34]; exact hw1_g33.off (by omega)
  have hw4_g34 : mn_at g34 (mo + 2) (.inl (0, 1260, .inl (fun _ => 0))) := by rw [eg34]; exact hw4_g33.off (by omega)
  have hw7_g34 : mn_at g34 (mo + 3) (.inl (0, 21, .inl (fun _ => 0))) := by rw [eg34]; exact hw7_g33.off (by omega)
  have hw11_g34 : mn_at g34 (mo + 4) (.inl (0, 4800, .inl (fun _ => 0))) := by rw [eg34]; exact hw11_g33.off (by omega)
  have hw14_g34 : mn_at g34 (mo + 5) (.inl (0, 60, .inl (fun _ => 0))) := by rw [eg34]; exact hw14_g33.off (by omega)
  have hw17_g34 : mn_at g34 (mo + 6) (.inl (0, 80, .inl (fun _ => 0))) := by rw [eg34]; exact hw17_g33.off (by omega)
  have hw20_g34 : mn_at g34 (mo + 7) (.inl (0, 64, .inl (fun _ => 0))) := by rw [eg34]; exact hw20_g33.off (by omega)
  have hw23_g34 : mn_at g34 (mo + 8) (.inl (0, 64, .inl (fun _ => 0))) := by rw [eg34]; exact hw23_g33.off (by omega)
  have hw26_g34 : mn_at g34 (mo + 9) (.inl (0, 64, .inl (fun _ => 0))) := by rw [eg34]; exact hw26_g33.off (by omega)
  have hw29_g34 : mn_at g34 (mo + 10) (.inl (0, 4800, .inl (fun _ => 0))) := by rw [eg34]; exact hw29_g33.off (by omega)
  have hw32_g34 : mn_at g34 (mo + 11) (.inl (0, 40, .inl (fun _ => 0))) := by rw [eg34]; exact hw32_g33.off (by omega)
  have hn_g34 := (show g34.1 = g33.1 by rw [eg34]; rfl).trans hn_g33
  clear h0_g33 hw1_g33 hw4_g33 hw7_g33 hw11_g33 hw14_g33 hw17_g33 hw20_g33 hw23_g33 hw26_g33 hw29_g33 hw32_g33 hn_g33
  refine mn_aload_n 0 dMo_init_101 rfl rfl ?_
  refine mn_bipush (v := 40) dMo_init_102 (by decide) ?_
  refine mn_newa (t := 0) (N := 40) rfl arr_int (by decide) rfl (by decide) (by decide) (by decide) dMo_init_104 ?_
  obtain ⟨g36, eg36⟩ : ∃ gg_, gg_ = mn_push g34 (.inl (0, 40, .inl (fun _ => 0))) := ⟨_, rfl⟩
  have hsg34 : g34.1 = mo + 12 := by omega
  rw [hsg34]
  refine mn_R.toG eg36 ?_
  have hn_g36 : g36.1 = mo + 12 + 1 := by rw [eg36]; show g34.1 + 1 = _; rw [hsg34]
  have h0_g36 : mn_at g36 mo (.inr (11, [.int 0, .ref (mo + 1), .int 0, .ref (mo + 2), .ref (mo + 3), .int 0, .int 32, .int 0, .int 0, .ref (mo + 4), .ref (mo + 5), .ref (mo + 6), .int 0, .int 0, .int 0, .int 0, .int 0, .ref (mo + 7), .ref (mo + 8), .ref (mo + 9), .ref (mo + 10), .int 0, .int 0, .ref (mo + 11), .null, .null, .null, .null, .null])) := by rw [eg36]; exact h0_g34.push
  have hw1_g36 : mn_at g36 (mo + 1) (.inl (0, 60, .inl (fun _ => 0))) := by rw [eg36]; exact hw1_g34.push
  have hw4_g36 : mn_at g36 (mo + 2) (.inl (0, 1260, .inl (fun _ => 0))) := by rw [eg36]; exact hw4_g34.push
  have hw7_g36 : mn_at g36 (mo + 3) (.inl (0, 21, .inl (fun _ => 0))) := by rw [eg36]; exact hw7_g34.push
  have hw11_g36 : mn_at g36 (mo + 4) (.inl (0, 4800, .inl (fun _ => 0))) := by rw [eg36]; exact hw11_g34.push
  have hw14_g36 : mn_at g36 (mo + 5) (.inl (0, 60, .inl (fun _ => 0))) := by rw [eg36]; exact hw14_g34.push
  have hw17_g36 : mn_at g36 (mo + 6) (.inl (0, 80, .inl (fun _ => 0))) := by rw [eg36]; exact hw17_g34.push
  have hw20_g36 : mn_at g36 (mo + 7) (.inl (0, 64, .inl (fun _ => 0))) := by rw [eg36]; exact hw20_g34.push
  have hw23_g36 : mn_at g36 (mo + 8) (.inl (0, 64, .inl (fun _ => 0))) := by rw [eg36]; exact hw23_g34.push
  have hw26_g36 : mn_at g36 (mo + 9) (.inl (0, 64, .inl (fun _ => 0))) := by rw [eg36]; exact hw26_g34.push
  have hw29_g36 : mn_at g36 (mo + 10) (.inl (0, 4800, .inl (fun _ => 0))) := by rw [eg36]; exact hw29_g34.push
  have hw32_g36 : mn_at g36 (mo + 11) (.inl (0, 40, .inl (fun _ => 0))) := by rw [eg36]; exact hw32_g34.push
  have hw35_g36 : mn_at g36 (mo + 12) (.inl (0, 40, .inl (fun _ => 0))) := by rw [eg36, ← hsg34]; exact mn_at_new (by omega)
  clear h0_g34 hw1_g34 hw4_g34 hw7_g34 hw11_g34 hw14_g34 hw17_g34 hw20_g34 hw23_g34 hw26_g34 hw29_g34 hw32_g34 hn_g34 hsg34
  refine mn_putF okMo 24 lMo_50 (by decide) rfl rfl rfl h0_g36 rfl rfl (Nat.le_of_ble_eq_true rfl) dMo_init_106 ?_
  obtain ⟨g37, eg37⟩ : ∃ gg_, gg_ = mn_set g36 mo (.inr (11, [.int 0, .ref (mo + 1), .int 0, .ref (mo + 2), .ref (mo + 3), .int 0, .int 32, .int 0, .int 0, .ref (mo + 4), .ref (mo + 5), .ref (mo + 6), .int 0, .int 0, .int 0, .int 0, .int 0, .ref (mo + 7), .ref (mo + 8), .ref (mo + 9), .ref (mo + 10), .int 0, .int 0, .ref (mo + 11), .ref (mo + 12), .null, .null, .null, .null])) := ⟨_, rfl⟩
  refine mn_R.toG eg37 ?_
  have h0_g37 : mn_at g37 mo (.inr (11, [.int 0, .ref (mo + 1), .int 0, .ref (mo + 2), .ref (mo + 3), .int 0, .int 32, .int 0, .int 0, .ref (mo + 4), .ref (mo + 5), .ref (mo + 6), .int 0, .int 0, .int 0, .int 0, .int 0, .ref (mo + 7), .ref (mo + 8), .ref (mo + 9), .ref (mo + 10), .int 0, .int 0, .ref (mo + 11), .ref (mo + 12), .null, .null, .null, .null])) := by rw [eg37]; exact h0_g36.same
  have hw1_g37 : mn_at g37 (mo + 1) (.inl (0, 60, .inl (fun _ => 0))) := by rw [eg37]; exact hw1_g36.off (by omega)
  have hw4_g37 : mn_at g37 (mo + 2) (.inl (0, 1260, .inl (fun _ => 0))) := by rw [eg37]; exact hw4_g36.off (by omega)
  have hw7_g37 : mn_at g37 (mo + 3) (.inl (0, 21, .inl (fun _ => 0))) := by rw [eg37]; exact hw7_g36.off (by omega)
  have hw11_g37 : mn_at g37 (mo + 4) (.inl (0, 4800, .inl (fun _ => 0))) := by rw [eg37]; exact hw11_g36.off (by omega)
  have hw14_g37 : mn_at g37 (mo + 5) (.inl (0, 60, .inl (fun _ => 0))) := by rw [eg37]; exact hw14_g36.off (by omega)
  have hw17_g37 : mn_at g37 (mo + 6) (.inl (0, 80, .inl (fun _ => 0))) := by rw [eg37]; exact hw17_g36.off (by omega)
  have hw20_g37 : mn_at g37 (mo + 7) (.inl (0, 64, .inl (fun _ => 0))) := by rw [eg37]; exact hw20_g36.off (by omega)
  have hw23_g37 : mn_at g37 (mo + 8) (.inl (0, 64, .inl (fun _ => 0))) := by rw [eg37]; exact hw23_g36.off (by omega)
  have hw26_g37 : mn_at g37 (mo + 9) (.inl (0, 64, .inl (fun _ => 0))) := by rw [eg37]; exact hw26_g36.off (by omega)
  have hw29_g37 : mn_at g37 (mo + 10) (.inl (0, 4800, .inl (fun _ => 0))) := by rw [eg37]; exact hw29_g36.off (by omega)
  have hw32_g37 : mn_at g37 (mo + 11) (.inl (0, 40, .inl (fun _ => 0))) := by rw [eg37]; exact hw32_g36.off (by omega)
  have hw35_g37 : mn_at g37 (mo + 12) (.inl (0, 40, .inl (fun _ => 0))) := by rw [eg37]; exact hw35_g36.off (by omega)
  have hn_g37 := (show g37.1 = g36.1 by rw [eg37]; rfl).trans hn_g36
  clear h0_g36 hw1_g36 hw4_g36 hw7_g36 hw11_g36 hw14_g36 hw17_g36 hw20_g36 hw23_g36 hw26_g36 hw29_g36 hw32_g36 hw35_g36 hn_g36
  refine mn_aload_n 0 dMo_init_109 rfl rfl ?_
  refine mn_bipush (v := 40) dMo_init_110 (by decide) ?_
  refine mn_newa (t := 0) (N := 40) rfl arr_int (by decide) rfl (by decide) (by decide) (by decide) dMo_init_112 ?_
  obtain ⟨g39, eg39⟩ : ∃ gg_, gg_ = mn_push g37 (.inl (0, 40, .inl (fun _ => 0))) := ⟨_, rfl⟩
  have hsg37 : g37.1 = mo + 13 := by omega
  rw [hsg37]
  refine mn_R.toG eg39 ?_
  have hn_g39 : g39.1 = mo + 13 + 1 := by rw [eg39]; show g37.1 + 1 = _; rw [hsg37]
  have h0_g39 : mn_at g39 mo (.inr (11, [.int 0, .ref (mo + 1), .int 0, .ref (mo + 2), .ref (mo + 3), .int 0, .int 32, .int 0, .int 0, .ref (mo + 4), .ref (mo + 5), .ref (mo + 6), .int 0, .int 0, .int 0, .int 0, .int 0, .ref (mo + 7), .ref (mo + 8), .ref (mo + 9), .ref (mo + 10), .int 0, .int 0, .ref (mo + 11), .ref (mo + 12), .null, .null, .null, .null])) := by rw [eg39]; exact h0_g37.push
  have hw1_g39 : mn_at g39 (mo + 1) (.inl (0, 60, .inl (fun _ => 0))) := by rw [eg39]; exact hw1_g37.push
  have hw4_g39 : mn_at g39 (mo + 2) (.inl (0, 1260, .inl (fun _ => 0))) := by rw [eg39]; exact hw4_g37.push
  have hw7_g39 : mn_at g39 (mo + 3) (.inl (0, 21, .inl (fun _ => 0))) := by rw [eg39]; exact hw7_g37.push
  have hw11_g39 : mn_at g39 (mo + 4) (.inl (0, 4800, .inl (fun _ => 0))) := by rw [eg39]; exact hw11_g37.push
  have hw14_g39 : mn_at g39 (mo + 5) (.inl (0, 60, .inl (fun _ => 0))) := by rw [eg39]; exact hw14_g37.push
  have hw17_g39 : mn_at g39 (mo + 6) (.inl (0, 80, .inl (fun _ => 0))) := by rw [eg39]; exact hw17_g37.push
  have hw20_g39 : mn_at g39 (mo + 7) (.inl (0, 64, .inl (fun _ => 0))) := by rw [eg39]; exact hw20_g37.push
  have hw23_g39 : mn_at g39 (mo + 8) (.inl (0, 64, .inl (fun _ => 0))) := by rw [eg39]; exact hw23_g37.push
  have hw26_g39 : mn_at g39 (mo + 9) (.inl (0, 64, .inl (fun _ => 0))) := by rw [eg39]; exact hw26_g37.push
  have hw29_g39 : mn_at g39 (mo + 10) (.inl (0, 4800, .inl (fun _ => 0))) := by rw [eg39]; exact hw29_g37.push
  have hw32_g39 : mn_at g39 (mo + 11) (.inl (0, 40, .inl (fun _ => 0))) := by rw [eg39]; exact hw32_g37.push
  have hw35_g39 : mn_at g39 (mo + 12) (.inl (0, 40, .inl (fun _ => 0))) := by rw [eg39]; exact hw35_g37.push
  have hw38_g39 : mn_at g39 (mo + 13) (.inl (0, 40, .inl (fun _ => 0))) := by rw [eg39, ← hsg37]; exact mn_at_new (by omega)
  clear h0_g37 hw1_g37 hw4_g37 hw7_g37 hw11_g37 hw14_g37 hw17_g37 hw20_g37 hw23_g37 hw26_g37 hw29_g37 hw32_g37 hw35_g37 hn_g37 hsg37
  refine mn_putF okMo 25 lMo_53 (by decide) rfl rfl rfl h0_g39 rfl rfl (Nat.le_of_ble_eq_true rfl) dMo_init_114 ?_
  obtain ⟨g40, eg40⟩ : ∃ gg_, gg_ = mn_set g39 mo (.inr (11, [.int 0, .ref (mo + 1), .int 0, .ref (mo + 2), .ref (mo + 3), .int 0, .int 32, .int 0, .int 0, .ref (mo + 4), .ref (mo + 5), .ref (mo + 6), .int 0, .int 0, .int 0, .int 0, .int 0, .ref (mo + 7), .ref (mo + 8), .ref (mo + 9), .ref (mo + 10), .int 0, .int 0, .ref (mo + 11), .ref (mo + 12), .ref (mo + 13), .null, .null, .null])) := ⟨_, rfl⟩
  refine mn_R.toG eg40 ?_
  have h0_g40 : mn_at g40 mo (.inr (11, [.int 0, .ref (mo + 1), .int 0, .ref (mo + 2), .ref (mo + 3), .int 0, .int 32, .int 0, .int 0, .ref (mo + 4), .ref (mo + 5), .ref (mo + 6), .int 0, .int 0, .int 0, .int 0, .int 0, .ref (mo + 7), .ref (mo + 8), .ref (mo + 9), .ref (mo + 10), .int 0, .int 0, .ref (mo + 11), .ref (mo + 12), .ref (mo + 13), .null, .null, .null])) := by rw [eg40]; exact h0_g39.same
  have hw1_g40 : mn_at g40 (mo + 1) (.inl (0, 60, .inl (fun _ => 0))) := by rw [eg40]; exact hw1_g39.off (by omega)
  have hw4_g40 : mn_at g40 (mo + 2) (.inl (0, 1260, .inl (fun _ => 0))) := by rw [eg40]; exact hw4_g39.off (by omega)
  have hw7_g40 : mn_at g40 (mo + 3) (.inl (0, 21, .inl (fun _ => 0))) := by rw [eg40]; exact hw7_g39.off (by omega)
  have hw11_g40 : mn_at g40 (mo + 4) (.inl (0, 4800, .inl (fun _ => 0))) := by rw [eg40]; exact hw11_g39.off (by omega)
  have hw14_g40 : mn_at g40 (mo + 5) (.inl (0, 60, .inl (fun _ => 0))) := by rw [eg40]; exact hw14_g39.off (by omega)
  have hw17_g40 : mn_at g40 (mo + 6) (.inl (0, 80, .inl (fun _ => 0))) := by rw [eg40]; exact hw17_g39.off (by omega)
  have hw20_g40 : mn_at g40 (mo + 7) (.inl (0, 64, .inl (fun _ => 0))) := by rw [eg40]; exact hw20_g39.off (by omega)
  have hw23_g40 : mn_at g40 (mo + 8) (.inl (0, 64, .inl (fun _ => 0))) := by rw [eg40]; exact hw23_g39.off (by omega)
  have hw26_g40 : mn_at g40 (mo + 9) (.inl (0, 64, .inl (fun _ => 0))) := by rw [eg40]; exact hw26_g39.off (by omega)
  have hw29_g40 : mn_at g40 (mo + 10) (.inl (0, 4800, .inl (fun _ => 0))) := by rw [eg40]; exact hw29_g39.off (by omega)
  have hw32_g40 : mn_at g40 (mo + 11) (.inl (0, 40, .inl (fun _ => 0))) := by rw [eg40]; exact hw32_g39.off (by omega)
  have hw35_g40 : mn_at g40 (mo + 12) (.inl (0, 40, .inl (fun _ => 0))) := by rw [eg40]; exact hw35_g39.off (by omega)
  have hw38_g40 : mn_at g40 (mo + 13) (.inl (0, 40, .inl (fun _ => 0))) := by rw [eg40]; exact hw38_g39.off (by omega)
  have hn_g40 := (show g40.1 = g39.1 by rw [eg40]; rfl).trans hn_g39
  clear h0_g39 hw1_g39 hw4_g39 hw7_g39 hw11_g39 hw14_g39 hw17_g39 hw20_g39 hw23_g39 hw26_g39 hw29_g39 hw32_g39 hw35_g39 hw38_g39 hn_g39
  refine mn_aload_n 0 dMo_init_117 rfl rfl ?_
  refine mn_bipush (v := 60) dMo_init_118 (by decide) ?_
  refine mn_newa (t := 0) (N := 60) rfl arr_int (by decide) rfl (by decide) (by decide) (by decide) dMo_init_120 ?_
  obtain ⟨g42, eg42⟩ : ∃ gg_, gg_ = mn_push g40 (.inl (0, 60, .inl (fun _ => 0))) := ⟨_, rfl⟩
  have hsg40 : g40.1 = mo + 14 := by omega
  rw [hsg40]
  refine mn_R.toG eg42 ?_
  have hn_g42 : g42.1 = mo + 14 + 1 := by rw [eg42]; show g40.1 + 1 = _; rw [hsg40]
  have h0_g42 : mn_at g42 mo (.inr (11, [.int 0, .ref (mo + 1), .int 0, .ref (mo + 2), .ref (mo + 3), .int 0, .int 32, .int 0, .int 0, .ref (mo + 4), .ref (mo + 5), .ref (mo + 6), .int 0, .int 0, .int 0, .int 0, .int 0, .ref (mo + 7), .ref (mo + 8), .ref (mo + 9), .ref (mo + 10), .int 0, .int 0, .ref (mo + 11), .ref (mo + 12), .ref (mo + 13), .null, .null, .null])) := by rw [eg42]; exact h0_g40.push
  have hw1_g42 : mn_at g42 (mo + 1) (.inl (0, 60, .inl (fun _ => 0))) := by rw [eg42]; exact hw1_g40.push
  have hw4_g42 : mn_at g42 (mo + 2) (.inl (0, 1260, .inl (fun _ => 0))) := by rw [eg42]; exact hw4_g40.push
  have hw7_g42 : mn_at g42 (mo + 3) (.inl (0, 21, .inl (fun _ => 0))) := by rw [eg42]; exact hw7_g40.push
  have hw11_g42 : mn_at g42 (mo + 4) (.inl (0, 4800, .inl (fun _ => 0))) := by rw [eg42]; exact hw11_g40.push
  have hw14_g42 : mn_at g42 (mo + 5) (.inl (0, 60, .inl (fun _ => 0))) := by rw [eg42]; exact hw14_g40.push
  have hw17_g42 : mn_at g42 (mo + 6) (.inl (0, 80, .inl (fun _ => 0))) := by rw [eg42]; exact hw17_g40.push
  have hw20_g42 : mn_at g42 (mo + 7) (.inl (0, 64, .inl (fun _ => 0))) := by rw [eg42]; exact hw20_g40.push
  have hw23_g42 : mn_at g42 (mo + 8) (.inl (0, 64, .inl (fun _ => 0))) := by rw [eg42]; exact hw23_g40.push
  have hw26_g42 : mn_at g42 (mo + 9) (.inl (0, 64, .inl (fun _ => 0))) := by rw [eg42]; exact hw26_g40.push
  have hw29_g42 : mn_at g42 (mo + 10) (.inl (0, 4800, .inl (fun _ => 0))) := by rw [eg42]; exact hw29_g40.push
  have hw32_g42 : mn_at g42 (mo + 11) (.inl (0, 40, .inl (fun _ => 0))) := by rw [eg42]; exact hw32_g40.push
  have hw35_g42 : mn_at g42 (mo + 12) (.inl (0, 40, .inl (fun _ => 0))) := by rw [eg42]; exact hw35_g40.push
  have hw38_g42 : mn_at g42 (mo + 13) (.inl (0, 40, .inl (fun _ => 0))) := by rw [eg42]; exact hw38_g40.push
  have hw41_g42 : mn_at g42 (mo + 14) (.inl (0, 60, .inl (fun _ => 0))) := by rw [eg42, ← hsg40]; exact mn_at_new (by omega)
  clear h0_g40 hw1_g40 hw4_g40 hw7_g40 hw11_g40 hw14_g40 hw17_g40 hw20_g40 hw23_g40 hw26_g40 hw29_g40 hw32_g40 hw35_g40 hw38_g40 hn_g40 hsg40
  refine mn_putF okMo 26 lMo_56 (by decide) rfl rfl rfl h0_g42 rfl rfl (Nat.le_of_ble_eq_true rfl) dMo_init_122 ?_
  obtain ⟨g43, eg43⟩ : ∃ gg_, gg_ = mn_set g42 mo (.inr (11, [.int 0, .ref (mo + 1), .int 0, .ref (mo + 2), .ref (mo + 3), .int 0, .int 32, .int 0, .int 0, .ref (mo + 4), .ref (mo + 5), .ref (mo + 6), .int 0, .int 0, .int 0, .int 0, .int 0, .ref (mo + 7), .ref (mo + 8), .ref (mo + 9), .ref (mo + 10), .int 0, .int 0, .ref (mo + 11), .ref (mo + 12), .ref (mo + 13), .ref (mo + 14), .null, .null])) := ⟨_, rfl⟩
  refine mn_R.toG eg43 ?_
  have h0_g43 : mn_at g43 mo (.inr (11, [.int 0, .ref (mo + 1), .int 0, .ref (mo + 2), .ref (mo + 3), .int 0, .int 32, .int 0, .int 0, .ref (mo + 4), .ref (mo + 5), .ref (mo + 6), .int 0, .int 0, .int 0, .int 0, .int 0, .ref (mo + 7), .ref (mo + 8), .ref (mo + 9), .ref (mo + 10), .int 0, .int 0, .ref (mo + 11), .ref (mo + 12), .ref (mo + 13), .ref (mo + 14), .null, .null])) := by rw [eg43]; exact h0_g42.same
  have hw1_g43 : mn_at g43 (mo + 1) (.inl (0, 60, .inl (fun _ => 0))) := by rw [eg43]; exact hw1_g42.off (by omega)
  have hw4_g43 : mn_at g43 (mo + 2) (.inl (0, 1260, .inl (fun _ => 0))) := by rw [eg43]; exact hw4_g42.off (by omega)
  have hw7_g43 : mn_at g43 (mo + 3) (.inl (0, 21, .inl (fun _ => 0))) := by rw [eg43]; exact hw7_g42.off (by omega)
  have hw11_g43 : mn_at g43 (mo + 4) (.inl (0, 4800, .inl (fun _ => 0))) := by rw [eg43]; exact hw11_g42.off (by omega)
  have hw14_g43 : mn_at g43 (mo + 5) (.inl (0, 60, .inl (fun _ => 0))) := by rw [eg43]; exact hw14_g42.off (by omega)
  have hw17_g43 : mn_at g43 (mo + 6) (.inl (0, 80, .inl (fun _ => 0))) := by rw [eg43]; exact hw17_g42.off (by omega)
  have hw20_g43 : mn_at g43 (mo + 7) (.inl (0, 64, .inl (fun _ => 0))) := by rw [eg43]; exact hw20_g42.off (by omega)
  have hw23_g43 : mn_at g43 (mo + 8) (.inl (0, 64, .inl (fun _ => 0))) := by rw [eg43]; exact hw23_g42.off (by omega)
  have hw26_g43 : mn_at g43 (mo + 9) (.inl (0, 64, .inl (fun _ => 0))) := by rw [eg43]; exact hw26_g42.off (by omega)
  have hw29_g43 : mn_at g43 (mo + 10) (.inl (0, 4800, .inl (fun _ => 0))) := by rw [eg43]; exact hw29_g42.off (by omega)
  have hw32_g43 : mn_at g43 (mo + 11) (.inl (0, 40, .inl (fun _ => 0))) := by rw [eg43]; exact hw32_g42.off (by omega)
  have hw35_g43 : mn_at g43 (mo + 12) (.inl (0, 40, .inl (fun _ => 0))) := by rw [eg43]; exact hw35_g42.off (by omega)
  have hw38_g43 : mn_at g43 (mo + 13) (.inl (0, 40, .inl (fun _ => 0))) := by rw [eg43]; exact hw38_g42.off (by omega)
  have hw41_g43 : mn_at g43 (mo + 14) (.inl (0, 60, .inl (fun _ => 0))) := by rw [eg43]; exact hw41_g42.off (by omega)
  have hn_g43 := (show g43.1 = g42.1 by rw [eg43]; rfl).trans hn_g42
  clear h0_g42 hw1_g42 hw4_g42 hw7_g42 hw11_g42 hw14_g42 hw17_g42 hw20_g42 hw23_g42 hw26_g42 hw29_g42 hw32_g42 hw35_g42 hw38_g42 hw41_g42 hn_g42
  refine mn_aload_n 0 dMo_init_125 rfl rfl ?_
  refine mn_iconst (v := 3) dMo_init_126 (by decide) ?_
  refine mn_newa (t := 0) (N := 3) rfl arr_int (by decide) rfl (by decide) (by decide) (by decide) dMo_init_127 ?_
  obtain ⟨g45, eg45⟩ : ∃ gg_, gg_ = mn_push g43 (.inl (0, 3, .inl (fun _ => 0))) := ⟨_, rfl⟩
  have hsg43 : g43.1 = mo + 15 := by omega
  rw [hsg43]
  refine mn_R.toG eg45 ?_
  have hn_g45 : g45.1 = mo + 15 + 1 := by rw [eg45]; show g43.1 + 1 = _; rw [hsg43]
  have h0_g45 : mn_at g45 mo (.inr (11, [.int 0, .ref (mo + 1), .int 0, .ref (mo + 2), .ref (mo + 3), .int 0, .int 32, .int 0, .int 0, .ref (mo + 4), .ref (mo + 5), .ref (mo + 6), .int 0, .int 0, .int 0, .int 0, .int 0, .ref (mo + 7), .ref (mo + 8), .ref (mo + 9), .ref (mo + 10), .int 0, .int 0, .ref (mo + 11), .ref (mo + 12), .ref (mo + 13), .ref (mo + 14), .null, .null])) := by rw [eg45]; exact h0_g43.push
  have hw1_g45 : mn_at g45 (mo + 1) (.inl (0, 60, .inl (fun _ => 0))) := by rw [eg45]; exact hw1_g43.push
  have hw4_g45 : mn_at g45 (mo + 2) (.inl (0, 1260, .inl (fun _ => 0))) := by rw [eg45]; exact hw4_g43.push
  have hw7_g45 : mn_at g45 (mo + 3) (.inl (0, 21, .inl (fun _ => 0))) := by rw [eg45]; exact hw7_g43.push
  have hw11_g45 : mn_at g45 (mo + 4) (.inl (0, 4800, .inl (fun _ => 0))) := by rw [eg45]; exact hw11_g43.push
  have hw14_g45 : mn_at g45 (mo + 5) (.inl (0, 60, .inl (fun _ => 0))) := by rw [eg45]; exact hw14_g43.push
  have hw17_g45 : mn_at g45 (mo + 6) (.inl (0, 80, .inl (fun _ => 0))) := by rw [eg45]; exact hw17_g43.push
  have hw20_g45 : mn_at g45 (mo + 7) (.inl (0, 64, .inl (fun _ => 0))) := by rw [eg45]; exact hw20_g43.push
  have hw23_g45 : mn_at g45 (mo + 8) (.inl (0, 64, .inl (fun _ => 0))) := by rw [eg45]; exact hw23_g43.push
  have hw26_g45 : mn_at g45 (mo + 9) (.inl (0, 64, .inl (fun _ => 0))) := by rw [eg45]; exact hw26_g43.push
  have hw29_g45 : mn_at g45 (mo + 10) (.inl (0, 4800, .inl (fun _ => 0))) := by rw [eg45]; exact hw29_g43.push
  have hw32_g45 : mn_at g45 (mo + 11) (.inl (0, 40, .inl (fun _ => 0))) := by rw [eg45]; exact hw32_g43.push
  have hw35_g45 : mn_at g45 (mo + 12) (.inl (0, 40, .inl (fun _ => 0))) := by rw [eg45]; exact hw35_g43.push
  have hw38_g45 : mn_at g45 (mo + 13) (.inl (0, 40, .inl (fun _ => 0))) := by rw [eg45]; exact hw38_g43.push
  have hw41_g45 : mn_at g45 (mo + 14) (.inl (0, 60, .inl (fun _ => 0))) := by rw [eg45]; exact hw41_g43.push
  have hw44_g45 : mn_at g45 (mo + 15) (.inl (0, 3, .inl (fun _ => 0))) := by rw [eg45, ← hsg43]; exact mn_at_new (by omega)
  clear h0_g43 hw1_g43 hw4_g43 hw7_g43 hw11_g43 hw14_g43 hw17_g43 hw20_g43 hw23_g43 hw26_g43 hw29_g43 hw32_g43 hw35_g43 hw38_g43 hw41_g43 hn_g43 hsg43
  refine mn_putF okMo 27 lMo_59 (by decide) rfl rfl rfl h0_g45 rfl rfl (Nat.le_of_ble_eq_true rfl) dMo_init_129 ?_
  obtain ⟨g46, eg46⟩ : ∃ gg_, gg_ = mn_set g45 mo (.inr (11, [.int 0, .ref (mo + 1), .int 0, .ref (mo + 2), .ref (mo + 3), .int 0, .int 32, .int 0, .int 0, .ref (mo + 4), .ref (mo + 5), .ref (mo + 6), .int 0, .int 0, .int 0, .int 0, .int 0, .ref (mo + 7), .ref (mo + 8), .ref (mo + 9), .ref (mo + 10), .int 0, .int 0, .ref (mo + 11), .ref (mo + 12), .ref (mo + 13), .ref (mo + 14), .ref (mo + 15), .null])) := ⟨_, rfl⟩
  refine mn_R.toG eg46 ?_
  have h0_g46 : mn_at g46 mo (.inr (11, [.int 0, .ref (mo + 1), .int 0, .ref (mo + 2), .ref (mo + 3), .int 0, .int 32, .int 0, .int 0, .ref (mo + 4), .ref (mo + 5), .ref (mo + 6), .int 0, .int 0, .int 0, .int 0, .int 0, .ref (mo + 7), .ref (mo + 8), .ref (mo + 9), .ref (mo + 10), .int 0, .int 0, .ref (mo + 11), .ref (mo + 12), .ref (mo + 13), .ref (mo + 14), .ref (mo + 15), .null])) := by rw [eg46]; exact h0_g45.same
  have hw1_g46 : mn_at g46 (mo + 1) (.inl (0, 60, .inl (fun _ => 0))) := by rw [eg46]; exact hw1_g45.off (by omega)
  have hw4_g46 : mn_at g46 (mo + 2) (.inl (0, 1260, .inl (fun _ => 0))) := by rw [eg46]; exact hw4_g45.off (by omega)
  have hw7_g46 : mn_at g46 (mo + 3) (.inl (0, 21, .inl (fun _ => 0))) := by rw [eg46]; exact hw7_g45.off (by omega)
  have hw11_g46 : mn_at g46 (mo + 4) (.inl (0, 4800, .inl (fun _ => 0))) := by rw [eg46]; exact hw11_g45.off (by omega)
  have hw14_g46 : mn_at g46 (mo + 5) (.inl (0, 60, .inl (fun _ => 0))) := by rw [eg46]; exact hw14_g45.off (by omega)
  have hw17_g46 : mn_at g46 (mo + 6) (.inl (0, 80, .inl (fun _ => 0))) := by rw [eg46]; exact hw17_g45.off (by omega)
  have hw20_g46 : mn_at g46 (mo + 7) (.inl (0, 64, .inl (fun _ => 0))) := by rw [eg46]; exact hw20_g45.off (by omega)
  have hw23_g46 : mn_at g46 (mo + 8) (.inl (0, 64, .inl (fun _ => 0))) := by rw [eg46]; exact hw23_g45.off (by omega)
  have hw26_g46 : mn_at g46 (mo + 9) (.inl (0, 64, .inl (fun _ => 0))) := by rw [eg46]; exact hw26_g45.off (by omega)
  have hw29_g46 : mn_at g46 (mo + 10) (.inl (0, 4800, .inl (fun _ => 0))) := by rw [eg46]; exact hw29_g45.off (by omega)
  have hw32_g46 : mn_at g46 (mo + 11) (.inl (0, 40, .inl (fun _ => 0))) := by rw [eg46]; exact hw32_g45.off (by omega)
  have hw35_g46 : mn_at g46 (mo + 12) (.inl (0, 40, .inl (fun _ => 0))) := by rw [eg46]; exact hw35_g45.off (by omega)
  have hw38_g46 : mn_at g46 (mo + 13) (.inl (0, 40, .inl (fun _ => 0))) := by rw [eg46]; exact hw38_g45.off (by omega)
  have hw41_g46 : mn_at g46 (mo + 14) (.inl (0, 60, .inl (fun _ => 0))) := by rw [eg46]; exact hw41_g45.off (by omega)
  have hw44_g46 : mn_at g46 (mo + 15) (.inl (0, 3, .inl (fun _ => 0))) := by rw [eg46]; exact hw44_g45.off (by omega)
  have hn_g46 := (show g46.1 = g45.1 by rw [eg46]; rfl).trans hn_g45
  clear h0_g45 hw1_g45 hw4_g45 hw7_g45 hw11_g45 hw14_g45 hw17_g45 hw20_g45 hw23_g45 hw26_g45 hw29_g45 hw32_g45 hw35_g45 hw38_g45 hw41_g45 hw44_g45 hn_g45
  refine mn_aload_n 0 dMo_init_132 rfl rfl ?_
  refine mn_bipush (v := 12) dMo_init_133 (by decide) ?_
  refine mn_newa (t := 0) (N := 12) rfl arr_int (by decide) rfl (by decide) (by decide) (by decide) dMo_init_135 ?_
  obtain ⟨g48, eg48⟩ : ∃ gg_, gg_ = mn_push g46 (.inl (0, 12, .inl (fun _ => 0))) := ⟨_, rfl⟩
  have hsg46 : g46.1 = mo + 16 := by omega
  rw [hsg46]
  refine mn_R.toG eg48 ?_
  have hn_g48 : g48.1 = mo + 16 + 1 := by rw [eg48]; show g46.1 + 1 = _; rw [hsg46]
  have h0_g48 : mn_at g48 mo (.inr (11, [.int 0, .ref (mo + 1), .int 0, .ref (mo + 2), .ref (mo + 3), .int 0, .int 32, .int 0, .int 0, .ref (mo + 4), .ref (mo + 5), .ref (mo + 6), .int 0, .int 0, .int 0, .int 0, .int 0, .ref (mo + 7), .ref (mo + 8), .ref (mo + 9), .ref (mo + 10), .int 0, .int 0, .ref (mo + 11), .ref (mo + 12), .ref (mo + 13), .ref (mo + 14), .ref (mo + 15), .null])) := by rw [eg48]; exact h0_g46.push
  have hw1_g48 : mn_at g48 (mo + 1) (.inl (0, 60, .inl (fun _ => 0))) := by rw [eg48]; exact hw1_g46.push
  have hw4_g48 : mn_at g48 (mo + 2) (.inl (0, 1260, .inl (fun _ => 0))) := by rw [eg48]; exact hw4_g46.push
  have hw7_g48 : mn_at g48 (mo + 3) (.inl (0, 21, .inl (fun _ => 0))) := by rw [eg48]; exact hw7_g46.push
  have hw11_g48 : mn_at g48 (mo + 4) (.inl (0, 4800, .inl (fun _ => 0))) := by rw [eg48]; exact hw11_g46.push
  have hw14_g48 : mn_at g48 (mo + 5) (.inl (0, 60, .inl (fun _ => 0))) := by rw [eg48]; exact hw14_g46.push
  have hw17_g48 : mn_at g48 (mo + 6) (.inl (0, 80, .inl (fun _ => 0))) := by rw [eg48]; exact hw17_g46.push
  have hw20_g48 : mn_at g48 (mo + 7) (.inl (0, 64, .inl (fun _ => 0))) := by rw [eg48]; exact hw20_g46.push
  have hw23_g48 : mn_at g48 (mo + 8) (.inl (0, 64, .inl (fun _ => 0))) := by rw [eg48]; exact hw23_g46.push
  have hw26_g48 : mn_at g48 (mo + 9) (.inl (0, 64, .inl (fun _ => 0))) := by rw [eg48]; exact hw26_g46.push
  have hw29_g48 : mn_at g48 (mo + 10) (.inl (0, 4800, .inl (fun _ => 0))) := by rw [eg48]; exact hw29_g46.push
  have hw32_g48 : mn_at g48 (mo + 11) (.inl (0, 40, .inl (fun _ => 0))) := by rw [eg48]; exact hw32_g46.push
  have hw35_g48 : mn_at g48 (mo + 12) (.inl (0, 40, .inl (fun _ => 0))) := by rw [eg48]; exact hw35_g46.push
  have hw38_g48 : mn_at g48 (mo + 13) (.inl (0, 40, .inl (fun _ => 0))) := by rw [eg48]; exact hw38_g46.push
  have hw41_g48 : mn_at g48 (mo + 14) (.inl (0, 60, .inl (fun _ => 0))) := by rw [eg48]; exact hw41_g46.push
  have hw44_g48 : mn_at g48 (mo + 15) (.inl (0, 3, .inl (fun _ => 0))) := by rw [eg48]; exact hw44_g46.push
  have hw47_g48 : mn_at g48 (mo + 16) (.inl (0, 12, .inl (fun _ => 0))) := by rw [eg48, ← hsg46]; exact mn_at_new (by omega)
  clear h0_g46 hw1_g46 hw4_g46 hw7_g46 hw11_g46 hw14_g46 hw17_g46 hw20_g46 hw23_g46 hw26_g46 hw29_g46 hw32_g46 hw35_g46 hw38_g46 hw41_g46 hw44_g46 hn_g46 hsg46
  refine mn_putF okMo 28 lMo_62 (by decide) rfl rfl rfl h0_g48 rfl rfl (Nat.le_of_ble_eq_true rfl) dMo_init_137 ?_
  obtain ⟨g49, eg49⟩ : ∃ gg_, gg_ = mn_set g48 mo (.inr (11, [.int 0, .ref (mo + 1), .int 0, .ref (mo + 2), .ref (mo + 3), .int 0, .int 32, .int 0, .int 0, .ref (mo + 4), .ref (mo + 5), .ref (mo + 6), .int 0, .int 0, .int 0, .int 0, .int 0, .ref (mo + 7), .ref (mo + 8), .ref (mo + 9), .ref (mo + 10), .int 0, .int 0, .ref (mo + 11), .ref (mo + 12), .ref (mo + 13), .ref (mo + 14), .ref (mo + 15), .ref (mo + 16)])) := ⟨_, rfl⟩
  refine mn_R.toG eg49 ?_
  have h0_g49 : mn_at g49 mo (.inr (11, [.int 0, .ref (mo + 1), .int 0, .ref (mo + 2), .ref (mo + 3), .int 0, .int 32, .int 0, .int 0, .ref (mo + 4), .ref (mo + 5), .ref (mo + 6), .int 0, .int 0, .int 0, .int 0, .int 0, .ref (mo + 7), .ref (mo + 8), .ref (mo + 9), .ref (mo + 10), .int 0, .int 0, .ref (mo + 11), .ref (mo + 12), .ref (mo + 13), .ref (mo + 14), .ref (mo + 15), .ref (mo + 16)])) := by rw [eg49]; exact h0_g48.same
  have hw1_g49 : mn_at g49 (mo + 1) (.inl (0, 60, .inl (fun _ => 0))) := by rw [eg49]; exact hw1_g48.off (by omega)
  have hw4_g49 : mn_at g49 (mo + 2) (.inl (0, 1260, .inl (fun _ => 0))) := by rw [eg49]; exact hw4_g48.off (by omega)
  have hw7_g49 : mn_at g49 (mo + 3) (.inl (0, 21, .inl (fun _ => 0))) := by rw [eg49]; exact hw7_g48.off (by omega)
  have hw11_g49 : mn_at g49 (mo + 4) (.inl (0, 4800, .inl (fun _ => 0))) := by rw [eg49]; exact hw11_g48.off (by omega)
  have hw14_g49 : mn_at g49 (mo + 5) (.inl (0, 60, .inl (fun _ => 0))) := by rw [eg49]; exact hw14_g48.off (by omega)
  have hw17_g49 : mn_at g49 (mo + 6) (.inl (0, 80, .inl (fun _ => 0))) := by rw [eg49]; exact hw17_g48.off (by omega)
  have hw20_g49 : mn_at g49 (mo + 7) (.inl (0, 64, .inl (fun _ => 0))) := by rw [eg49]; exact hw20_g48.off (by omega)
  have hw23_g49 : mn_at g49 (mo + 8) (.inl (0, 64, .inl (fun _ => 0))) := by rw [eg49]; exact hw23_g48.off (by omega)
  have hw26_g49 : mn_at g49 (mo + 9) (.inl (0, 64, .inl (fun _ => 0))) := by rw [eg49]; exact hw26_g48.off (by omega)
  have hw29_g49 : mn_at g49 (mo + 10) (.inl (0, 4800, .inl (fun _ => 0))) := by rw [eg49]; exact hw29_g48.off (by omega)
  have hw32_g49 : mn_at g49 (mo + 11) (.inl (0, 40, .inl (fun _ => 0))) := by rw [eg49]; exact hw32_g48.off (by omega)
  have hw35_g49 : mn_at g49 (mo + 12) (.inl (0, 40, .inl (fun _ => 0))) := by rw [eg49]; exact hw35_g48.off (by omega)
  have hw38_g49 : mn_at g49 (mo + 13) (.inl (0, 40, .inl (fun _ => 0))) := by rw [eg49]; exact hw38_g48.off (by omega)
  have hw41_g49 : mn_at g49 (mo + 14) (.inl (0, 60, .inl (fun _ => 0))) := by rw [eg49]; exact hw41_g48.off (by omega)
  have hw44_g49 : mn_at g49 (mo + 15) (.inl (0, 3, .inl (fun _ => 0))) := by rw [eg49]; exact hw44_g48.off (by omega)
  have hw47_g49 : mn_at g49 (mo + 16) (.inl (0, 12, .inl (fun _ => 0))) := by rw [eg49]; exact hw47_g48.off (by omega)
  have hn_g49 := (show g49.1 = g48.1 by rw [eg49]; rfl).trans hn_g48
  clear h0_g48 hw1_g48 hw4_g48 hw7_g48 hw11_g48 hw14_g48 hw17_g48 hw20_g48 hw23_g48 hw26_g48 hw29_g48 hw32_g48 hw35_g48 hw38_g48 hw41_g48 hw44_g48 hw47_g48 hn_g48
  refine mn_aload_n 0 dMo_init_140 rfl rfl ?_
  refine mn_iconst (v := 0) dMo_init_141 (by decide) ?_
  refine mn_putf okMo 0 lMo_1 (by decide) rfl h0_g49 rfl rfl (Nat.le_of_ble_eq_true rfl) dMo_init_142 ?_
  obtain ⟨g50, eg50⟩ : ∃ gg_, gg_ = mn_set g49 mo (.inr (11, [.int 0, .ref (mo + 1), .int 0, .ref (mo + 2), .ref (mo + 3), .int 0, .int 32, .int 0, .int 0, .ref (mo + 4), .ref (mo + 5), .ref (mo + 6), .int 0, .int 0, .int 0, .int 0, .int 0, .ref (mo + 7), .ref (mo + 8), .ref (mo + 9), .ref (mo + 10), .int 0, .int 0, .ref (mo + 11), .ref (mo + 12), .ref (mo + 13), .ref (mo + 14), .ref (mo + 15), .ref (mo + 16)])) := ⟨_, rfl⟩
  refine mn_R.toG eg50 ?_
  have h0_g50 : mn_at g50 mo (.inr (11, [.int 0, .ref (mo + 1), .int 0, .ref (mo + 2), .ref (mo + 3), .int 0, .int 32, .int 0, .int 0, .ref (mo + 4), .ref (mo + 5), .ref (mo + 6), .int 0, .int 0, .int 0, .int 0, .int 0, .ref (mo + 7), .ref (mo + 8), .ref (mo + 9), .ref (mo + 10), .int 0, .int 0, .ref (mo + 11), .ref (mo + 12), .ref (mo + 13), .ref (mo + 14), .ref (mo + 15), .ref (mo + 16)])) := by rw [eg50]; exact h0_g49.same
  have hw1_g50 : mn_at g50 (mo + 1) (.inl (0, 60, .inl (fun _ => 0))) := by rw [eg50]; exact hw1_g49.off (by omega)
  have hw4_g50 : mn_at g50 (mo + 2) (.inl (0, 1260, .inl (fun _ => 0))) := by rw [eg50]; exact hw4_g49.off (by omega)
  have hw7_g50 : mn_at g50 (mo + 3) (.inl (0, 21, .inl (fun _ => 0))) := by rw [eg50]; exact hw7_g49.off (by omega)
  have hw11_g50 : mn_at g50 (mo + 4) (.inl (0, 4800, .inl (fun _ => 0))) := by rw [eg50]; exact hw11_g49.off (by omega)
  have hw14_g50 : mn_at g50 (mo + 5) (.inl (0, 60, .inl (fun _ => 0))) := by rw [eg50]; exact hw14_g49.off (by omega)
  have hw17_g50 : mn_at g50 (mo + 6) (.inl (0, 80, .inl (fun _ => 0))) := by rw [eg50]; exact hw17_g49.off (by omega)
  have hw20_g50 : mn_at g50 (mo + 7) (.inl (0, 64, .inl (fun _ => 0))) := by rw [eg50]; exact hw20_g49.off (by omega)
  have hw23_g50 : mn_at g50 (mo + 8) (.inl (0, 64, .inl (fun _ => 0))) := by rw [eg50]; exact hw23_g49.off (by omega)
  have hw26_g50 : mn_at g50 (mo + 9) (.inl (0, 64, .inl (fun _ => 0))) := by rw [eg50]; exact hw26_g49.off (by omega)
  have hw29_g50 : mn_at g50 (mo + 10) (.inl (0, 4800, .inl (fun _ => 0))) := by rw [eg50]; exact hw29_g49.off (by omega)
  have hw32_g50 : mn_at g50 (mo + 11) (.inl (0, 40, .inl (fun _ => 0))) := by rw [eg50]; exact hw32_g49.off (by omega)
  have hw35_g50 : mn_at g50 (mo + 12) (.inl (0, 40, .inl (fun _ => 0))) := by rw [eg50]; exact hw35_g49.off (by omega)
  have hw38_g50 : mn_at g50 (mo + 13) (.inl (0, 40, .inl (fun _ => 0))) := by rw [eg50]; exact hw38_g49.off (by omega)
  have hw41_g50 : mn_at g50 (mo + 14) (.inl (0, 60, .inl (fun _ => 0))) := by rw [eg50]; exact hw41_g49.off (by omega)
  have hw44_g50 : mn_at g50 (mo + 15) (.inl (0, 3, .inl (fun _ => 0))) := by rw [eg50]; exact hw44_g49.off (by omega)
  have hw47_g50 : mn_at g50 (mo + 16) (.inl (0, 12, .inl (fun _ => 0))) := by rw [eg50]; exact hw47_g49.off (by omega)
  have hn_g50 := (show g50.1 = g49.1 by rw [eg50]; rfl).trans hn_g49
  clear h0_g49 hw1_g49 hw4_g49 hw7_g49 hw11_g49 hw14_g49 hw17_g49 hw20_g49 hw23_g49 hw26_g49 hw29_g49 hw32_g49 hw35_g49 hw38_g49 hw41_g49 hw44_g49 hw47_g49 hn_g49
  exact mn_vret rfl dMo_init_145 ⟨rfl, by omega, ((((((((((((((((((((((((((((((((((mn_gw.rf.push eg2).set eg3 (fun _ => by show mo = mo; omega)).push eg5).set eg6 (fun _ => by show mo = mo; omega)).push eg8).set eg9 (fun _ => by show mo = mo; omega)).set eg10 (fun _ => by show mo = mo; omega)).push eg12).set eg13 (fun _ => by show mo = mo; omega)).push eg15).set eg16 (fun _ => by show mo = mo; omega)).push eg18).set eg19 (fun _ => by show mo = mo; omega)).push eg21).set eg22 (fun _ => by show mo = mo; omega)).push eg24).set eg25 (fun _ => by show mo = mo; omega)).push eg27).set eg28 (fun _ => by show mo = mo; omega)).push eg30).set eg31 (fun _ => by show mo = mo; omega)).push eg33).set eg34 (fun _ => by show mo = mo; omega)).push eg36).set eg37 (fun _ => by show mo = mo; omega)).push eg39).set eg40 (fun _ => by show mo = mo; omega)).push eg42).set eg43 (fun _ => by show mo = mo; omega)).push eg45).set eg46 (fun _ => by show mo = mo; omega)).push eg48).set eg49 (fun _ => by show mo = mo; omega)).set eg50 (fun _ => by show mo = mo; omega)), h0_g50, hw1_g50, hw4_g50, hw7_g50, hw11_g50, hw14_g50, hw17_g50, hw20_g50, hw23_g50, hw26_g50, hw29_g50, hw32_g50, hw35_g50, hw38_g50, hw41_g50, hw44_g50, hw47_g50⟩
set_option maxRecDepth 100000 in
theorem c_VS_init {E : mn_En} {g : mn_H} {vs : Nat} (h0 : mn_at g vs (.inr (10, [.null, .null, .null, .null, .null, .null, .null]))) (hn : g.1 = vs + 1) : mn_R E MVS_init 3 62 150 11277 0 [(0, .ref vs)] [] g (fun x g' => x = none ∧ g'.1 = vs + 1 + 150 ∧ mn_gw (fun q => q = vs) g g' ∧ mn_at g' vs (.inr (10, [.ref (vs + 1), .ref (vs + 3), .ref (vs + 9), .ref (vs + 10), .ref (vs + 13), .ref (vs + 135), .ref (vs + 147)])) ∧ mn_at g' (vs + 1) (.inr (7, [.ref (vs + 1 + 1), .int 0])) ∧ mn_at g' (vs + 1 + 1) (.inl (0, 60, .inl (fun _ => 0))) ∧ mn_at g' (vs + 3) (.inr (6, [.ref (vs + 3 + 1), .ref (vs + 3 + 5), .int 0, .int 0])) ∧ mn_at g' (vs + 3 + 1) (.inr (2, [.ref (vs + 3 + 1 + 3), .ref (vs + 3 + 1 + 1), .ref (vs + 3 + 1 + 2), .int 0, .int 0])) ∧ mn_at g' (vs + 3 + 1 + 3) (.inl (0, 1340, .inl (fun _ => 0))) ∧ mn_at g' (vs + 3 + 1 + 1) (.inl (0, 60, .inl (fun _ => 0))) ∧ mn_at g' (vs + 3 + 1 + 2) (.inl (0, 60, .inl (fun _ => 0))) ∧ mn_at g' (vs + 3 + 5) (.inl (0, 20, .inl (fun _ => 0))) ∧ mn_at g' (vs + 9) (.inr (4, [.int 32, .int 0, .int 0])) ∧ mn_at g' (vs + 10) (.inr (9, [.ref (vs + 10 + 1)])) ∧ mn_at g' (vs + 10 + 1) (.inr (8, [.ref (vs + 10 + 1 + 1), .int 0])) ∧ mn_at g' (vs + 10 + 1 + 1) (.inl (0, 80, .inl (fun _ => 0))) ∧ mn_at g' (vs + 135) (.inr (3, [.ref (vs + 135 + 1), .ref (vs + 135 + 5), .ref (vs + 135 + 6), .int 0, .int 0, .int 0, .int 0, .int 0])) ∧ mn_at g' (vs + 135 + 1) (.inr (2, [.ref (vs + 135 + 1 + 3), .ref (vs + 135 + 1 + 1), .ref (vs + 135 + 1 + 2), .int 0, .int 0])) ∧ mn_at g' (vs + 135 + 1 + 3) (.inl (0, 4080, .inl (fun _ => 0))) ∧ mn_at g' (vs + 135 + 1 + 1) (.inl (0, 60, .inl (fun _ => 0))) ∧ mn_at g' (vs + 135 + 1 + 2) (.inl (0, 60, .inl (fun _ => 0))) ∧ mn_at g' (vs + 135 + 5) (.inl (0, 63, .inl (fun _ => 0))) ∧ mn_at g' (vs + 147) (.inr (1, [.ref (vs + 147 + 1), .ref (vs + 147 + 2), .ref (vs + 147 + 3), .int 0])) ∧ mn_at g' (vs + 147 + 1) (.inl (0, 40, .inl (fun _ => 0))) ∧ mn_at g' (vs + 147 + 2) (.inl (0, 40, .inl (fun _ => 0))) ∧ mn_at g' (vs + 147 + 3) (.inl (0, 40, .inl (fun _ => 0))) ∧ SlP g' (vs + 13) (fun k => k) (fun _ => 0) (fun _ _ => 0) ∧ EqP g' (vs + 135 + 6) (fun _ _ => 0) (fun _ => 0) 0 0) := by
  refine mn_aload_n 0 dVS_init_0 rfl rfl ?_
  refine mn_objInit lVS_1 oi_inst oi_code dVS_init_1 (Nat.le_of_ble_eq_true rfl) (by decide) (by decide) ?_
  refine mn_aload_n 0 dVS_init_4 rfl rfl ?_
  refine mn_new okTa [.null, .int 0] lVS_7 inst_Ta ini_Ta rfl (by decide) (by decide) dVS_init_5 ?_
  obtain ⟨g2, eg2⟩ : ∃ gg_, gg_ = mn_push g (.inr (7, [.null, .int 0])) := ⟨_, rfl⟩
  have hsg : g.1 = vs + 1 := by omega
  rw [hsg]
  refine mn_R.toG eg2 ?_
  have hn_g2 : g2.1 = vs + 1 + 1 := by rw [eg2]; show g.1 + 1 = _; rw [hsg]
  have h0_g2 : mn_at g2 vs (.inr (10, [.null, .null, .null, .null, .null, .null, .null])) := by rw [eg2]; exact h0.push
  have hw1_g2 : mn_at g2 (vs + 1) (.inr (7, [.null, .int 0])) := by rw [eg2, ← hsg]; exact mn_at_new (by omega)
  clear h0 hsg
  refine mn_dup dVS_init_8 rfl ?_
  refine mn_callIN (d' := 1) (w' := 20) (nc' := 1) (ns' := 60) (As := []) (st := [.ref (vs + 1), .ref vs]) okTa_init lVS_9 dVS_init_9 rfl rfl (Nat.le_of_ble_eq_true rfl) (Nat.le_of_ble_eq_true rfl) (by decide) (c_Ta_init hw1_g2 (by omega)) (fun v g3 hq => ?_)
  obtain ⟨rfl, hn_g3, fg3, hta_g3, htb_g3⟩ := hq
  show mn_R E MVS_init 3 62 _ _ 12 [(0, .ref vs)] [.ref (vs + 1), .ref vs] g3 _
  have h0_g3 := h0_g2.gw fg3 (fun h => by have h9 : vs = (vs + 1) := h; omega)
  clear h0_g2 hw1_g2 hn_g2
  refine mn_putF okVS 0 lVS_10 (by decide) rfl rfl rfl h0_g3 rfl rfl (Nat.le_of_ble_eq_true rfl) dVS_init_12 ?_
  obtain ⟨g4, eg4⟩ : ∃ gg_, gg_ = mn_set g3 vs (.inr (10, [.ref (vs + 1), .null, .null, .null, .null, .null, .null])) := ⟨_, rfl⟩
  refine mn_R.toG eg4 ?_
  have h0_g4 : mn_at g4 vs (.inr (10, [.ref (vs + 1), .null, .null, .null, .null, .null, .null])) := by rw [eg4]; exact h0_g3.same
  have hta_g4 : mn_at g4 (vs + 1) (.inr (7, [.ref (vs + 1 + 1), .int 0])) := by rw [eg4]; exact hta_g3.off (by omega)
  have htb_g4 : mn_at g4 (vs + 1 + 1) (.inl (0, 60, .inl (fun _ => 0))) := by rw [eg4]; exact htb_g3.off (by omega)
  have hn_g4 := (show g4.1 = g3.1 by rw [eg4]; rfl).trans hn_g3
  clear h0_g3 hta_g3 htb_g3 hn_g3
  refine mn_aload_n 0 dVS_init_15 rfl rfl ?_
  refine mn_new okSt [.null, .null, .int 0, .int 0] lVS_16 inst_St ini_St rfl (by decide) (by decide) dVS_init_16 ?_
  obtain ⟨g6, eg6⟩ : ∃ gg_, gg_ = mn_push g4 (.inr (6, [.null, .null, .int 0, .int 0])) := ⟨_, rfl⟩
  have hsg4 : g4.1 = vs + 3 := by omega
  rw [hsg4]
  refine mn_R.toG eg6 ?_
  have hn_g6 : g6.1 = vs + 3 + 1 := by rw [eg6]; show g4.1 + 1 = _; rw [hsg4]
  have h0_g6 : mn_at g6 vs (.inr (10, [.ref (vs + 1), .null, .null, .null, .null, .null, .null])) := by rw [eg6]; exact h0_g4.push
  have hta_g6 : mn_at g6 (vs + 1) (.inr (7, [.ref (vs + 1 + 1), .int 0])) := by rw [eg6]; exact hta_g4.push
  have htb_g6 : mn_at g6 (vs + 1 + 1) (.inl (0, 60, .inl (fun _ => 0))) := by rw [eg6]; exact htb_g4.push
  have hw5_g6 : mn_at g6 (vs + 3) (.inr (6, [.null, .null, .int 0, .int 0])) := by rw [eg6, ← hsg4]; exact mn_at_new (by omega)
  clear h0_g4 hta_g4 htb_g4 hn_g4 hsg4
  refine mn_dup dVS_init_19 rfl ?_
  refine mn_callIN (d' := 2) (w' := 42) (nc' := 5) (ns' := 1485) (As := []) (st := [.ref (vs + 3), .ref vs]) okSt_init lVS_18 dVS_init_20 rfl rfl (Nat.le_of_ble_eq_true rfl) (Nat.le_of_ble_eq_true rfl) (by decide) (c_St_init hw5_g6 (by omega)) (fun v g7 hq => ?_)
  obtain ⟨rfl, hn_g7, fg7, hsa_g7, hsb_g7, hsc_g7, hsd_g7, hse_g7, hsf_g7⟩ := hq
  show mn_R E MVS_init 3 62 _ _ 23 [(0, .ref vs)] [.ref (vs + 3), .ref vs] g7 _
  have h0_g7 := h0_g6.gw fg7 (fun h => by have h9 : vs = (vs + 3) := h; omega)
  have hta_g7 := hta_g6.gw fg7 (fun h => by have h9 : (vs + 1) = (vs + 3) := h; omega)
  have htb_g7 := htb_g6.gw fg7 (fun h => by have h9 : (vs + 1 + 1) = (vs + 3) := h; omega)
  clear h0_g6 hta_g6 htb_g6 hw5_g6 hn_g6
  refine mn_putF okVS 1 lVS_19 (by decide) rfl rfl rfl h0_g7 rfl rfl (Nat.le_of_ble_eq_true rfl) dVS_init_23 ?_
  obtain ⟨g8, eg8⟩ : ∃ gg_, gg_ = mn_set g7 vs (.inr (10, [.ref (vs + 1), .ref (vs + 3), .null, .null, .null, .null, .null])) := ⟨_, rfl⟩
  refine mn_R.toG eg8 ?_
  have h0_g8 : mn_at g8 vs (.inr (10, [.ref (vs + 1), .ref (vs + 3), .null, .null, .null, .null, .null])) := by rw [eg8]; exact h0_g7.same
  have hta_g8 : mn_at g8 (vs + 1) (.inr (7, [.ref (vs + 1 + 1), .int 0])) := by rw [eg8]; exact hta_g7.off (by omega)
  have htb_g8 : mn_at g8 (vs + 1 + 1) (.inl (0, 60, .inl (fun _ => 0))) := by rw [eg8]; exact htb_g7.off (by omega)
  have hsa_g8 : mn_at g8 (vs + 3) (.inr (6, [.ref (vs + 3 + 1), .ref (vs + 3 + 5), .int 0, .int 0])) := by rw [eg8]; exact hsa_g7.off (by omega)
  have hsb_g8 : mn_at g8 (vs + 3 + 1) (.inr (2, [.ref (vs + 3 + 1 + 3), .ref (vs + 3 + 1 + 1), .ref (vs + 3 + 1 + 2), .int 0, .int 0])) := by rw [eg8]; exact hsb_g7.off (by omega)
  have hsc_g8 : mn_at g8 (vs + 3 + 1 + 3) (.inl (0, 1340, .inl (fun _ => 0))) := by rw [eg8]; exact hsc_g7.off (by omega)
  have hsd_g8 : mn_at g8 (vs + 3 + 1 + 1) (.inl (0, 60, .inl (fun _ => 0))) := by rw [eg8]; exact hsd_g7.off (by omega)
  have hse_g8 : mn_at g8 (vs + 3 + 1 + 2) (.inl (0, 60, .inl (fun _ => 0))) := by rw [eg8]; exact hse_g7.off (by omega)
  have hsf_g8 : mn_at g8 (vs + 3 + 5) (.inl (0, 20, .inl (fun _ => 0))) := by rw [eg8]; exact hsf_g7.off (by omega)
  have hn_g8 := (show g8.1 = g7.1 by rw [eg8]; rfl).trans hn_g7
  clear h0_g7 hta_g7 htb_g7 hsa_g7 hsb_g7 hsc_g7 hsd_g7 hse_g7 hsf_g7 hn_g7
  refine mn_aload_n 0 dVS_init_26 rfl rfl ?_
  refine mn_new okRu [.int 0, .int 0, .int 0] lVS_23 inst_Ru ini_Ru rfl (by decide) (by decide) dVS_init_27 ?_
  obtain ⟨g10, eg10⟩ : ∃ gg_, gg_ = mn_push g8 (.inr (4, [.int 0, .int 0, .int 0])) := ⟨_, rfl⟩
  have hsg8 : g8.1 = vs + 9 := by omega
  rw [hsg8]
  refine mn_R.toG eg10 ?_
  have hn_g10 : g10.1 = vs + 9 + 1 := by rw [eg10]; show g8.1 + 1 = _; rw [hsg8]
  have h0_g10 : mn_at g10 vs (.inr (10, [.ref (vs + 1), .ref (vs + 3), .null, .null, .null, .null, .null])) := by rw [eg10]; exact h0_g8.push
  have hta_g10 : mn_at g10 (vs + 1) (.inr (7, [.ref (vs + 1 + 1), .int 0])) := by rw [eg10]; exact hta_g8.push
  have htb_g10 : mn_at g10 (vs + 1 + 1) (.inl (0, 60, .inl (fun _ => 0))) := by rw [eg10]; exact htb_g8.push
  have hsa_g10 : mn_at g10 (vs + 3) (.inr (6, [.ref (vs + 3 + 1), .ref (vs + 3 + 5), .int 0, .int 0])) := by rw [eg10]; exact hsa_g8.push
  have hsb_g10 : mn_at g10 (vs + 3 + 1) (.inr (2, [.ref (vs + 3 + 1 + 3), .ref (vs + 3 + 1 + 1), .ref (vs + 3 + 1 + 2), .int 0, .int 0])) := by rw [eg10]; exact hsb_g8.push
  have hsc_g10 : mn_at g10 (vs + 3 + 1 + 3) (.inl (0, 1340, .inl (fun _ => 0))) := by rw [eg10]; exact hsc_g8.push
  have hsd_g10 : mn_at g10 (vs + 3 + 1 + 1) (.inl (0, 60, .inl (fun _ => 0))) := by rw [eg10]; exact hsd_g8.push
  have hse_g10 : mn_at g10 (vs + 3 + 1 + 2) (.inl (0, 60, .inl (fun _ => 0))) := by rw [eg10]; exact hse_g8.push
  have hsf_g10 : mn_at g10 (vs + 3 + 5) (.inl (0, 20, .inl (fun _ => 0))) := by rw [eg10]; exact hsf_g8.push
  have hw9_g10 : mn_at g10 (vs + 9) (.inr (4, [.int 0, .int 0, .int 0])) := by rw [eg10, ← hsg8]; exact mn_at_new (by omega)
  clear h0_g8 hta_g8 htb_g8 hsa_g8 hsb_g8 hsc_g8 hsd_g8 hse_g8 hsf_g8 hn_g8 hsg8
  refine mn_dup dVS_init_30 rfl ?_
  refine mn_callIN (d' := 1) (w' := 20) (nc' := 0) (ns' := 0) (As := []) (st := [.ref (vs + 9), .ref vs]) okRu_init lVS_25 dVS_init_31 rfl rfl (Nat.le_of_ble_eq_true rfl) (Nat.le_of_ble_eq_true rfl) (by decide) (c_Ru_init hw9_g10 (by omega)) (fun v g11 hq => ?_)
  obtain ⟨rfl, hn_g11, fg11, hua_g11⟩ := hq
  show mn_R E MVS_init 3 62 _ _ 34 [(0, .ref vs)] [.ref (vs + 9), .ref vs] g11 _
  have h0_g11 := h0_g10.gw fg11 (fun h => by have h9 : vs = (vs + 9) := h; omega)
  have hta_g11 := hta_g10.gw fg11 (fun h => by have h9 : (vs + 1) = (vs + 9) := h; omega)
  have htb_g11 := htb_g10.gw fg11 (fun h => by have h9 : (vs + 1 + 1) = (vs + 9) := h; omega)
  have hsa_g11 := hsa_g10.gw fg11 (fun h => by have h9 : (vs + 3) = (vs + 9) := h; omega)
  have hsb_g11 := hsb_g10.gw fg11 (fun h => by have h9 : (vs + 3 + 1) = (vs + 9) := h; omega)
  have hsc_g11 := hsc_g10.gw fg11 (fun h => by have h9 : (vs + 3 + 1 + 3) = (vs + 9) := h; omega)
  have hsd_g11 := hsd_g10.gw fg11 (fun h => by have h9 : (vs + 3 + 1 + 1) = (vs + 9) := h; omega)
  have hse_g11 := hse_g10.gw fg11 (fun h => by have h9 : (vs + 3 + 1 + 2) = (vs + 9) := h; omega)
  have hsf_g11 := hsf_g10.gw fg11 (fun h => by have h9 : (vs + 3 + 5) = (vs + 9) := h; omega)
  clear h0_g10 hta_g10 htb_g10 hsa_g10 hsb_g10 hsc_g10 hsd_g10 hse_g10 hsf_g10 hw9_g10 hn_g10
  refine mn_putF okVS 2 lVS_26 (by decide) rfl rfl rfl h0_g11 rfl rfl (Nat.le_of_ble_eq_true rfl) dVS_init_34 ?_
  obtain ⟨g12, eg12⟩ : ∃ gg_, gg_ = mn_set g11 vs (.inr (10, [.ref (vs + 1), .ref (vs + 3), .ref (vs + 9), .null, .null, .null, .null])) := ⟨_, rfl⟩
  refine mn_R.toG eg12 ?_
  have h0_g12 : mn_at g12 vs (.inr (10, [.ref (vs + 1), .ref (vs + 3), .ref (vs + 9), .null, .null, .null, .null])) := by rw [eg12]; exact h0_g11.same
  have hta_g12 : mn_at g12 (vs + 1) (.inr (7, [.ref (vs + 1 + 1), .int 0])) := by rw [eg12]; exact hta_g11.off (by omega)
  have htb_g12 : mn_at g12 (vs + 1 + 1) (.inl (0, 60, .inl (fun _ => 0))) := by rw [eg12]; exact htb_g11.off (by omega)
  have hsa_g12 : mn_at g12 (vs + 3) (.inr (6, [.ref (vs + 3 + 1), .ref (vs + 3 + 5), .int 0, .int 0])) := by rw [eg12]; exact hsa_g11.off (by omega)
  have hsb_g12 : mn_at g12 (vs + 3 + 1) (.inr (2, [.ref (vs + 3 + 1 + 3), .ref (vs + 3 + 1 + 1), .ref (vs + 3 + 1 + 2), .int 0, .int 0])) := by rw [eg12]; exact hsb_g11.off (by omega)
  have hsc_g12 : mn_at g12 (vs + 3 + 1 + 3) (.inl (0, 1340, .inl (fun _ => 0))) := by rw [eg12]; exact hsc_g11.off (by omega)
  have hsd_g12 : mn_at g12 (vs + 3 + 1 + 1) (.inl (0, 60, .inl (fun _ => 0))) := by rw [eg12]; exact hsd_g11.off (by omega)
  have hse_g12 : mn_at g12 (vs + 3 + 1 + 2) (.inl (0, 60, .inl (fun _ => 0))) := by rw [eg12]; exact hse_g11.off (by omega)
  have hsf_g12 : mn_at g12 (vs + 3 + 5) (.inl (0, 20, .inl (fun _ => 0))) := by rw [eg12]; exact hsf_g11.off (by omega)
  have hua_g12 : mn_at g12 (vs + 9) (.inr (4, [.int 32, .int 0, .int 0])) := by rw [eg12]; exact hua_g11.off (by omega)
  have hn_g12 := (show g12.1 = g11.1 by rw [eg12]; rfl).trans hn_g11
  clear h0_g11 hta_g11 htb_g11 hsa_g11 hsb_g11 hsc_g11 hsd_g11 hse_g11 hsf_g11 hua_g11 hn_g11
  refine mn_aload_n 0 dVS_init_37 rfl rfl ?_
  refine mn_new okWr [.null] lVS_30 inst_Wr ini_Wr rfl (by decide) (by decide) dVS_init_38 ?_
  obtain ⟨g14, eg14⟩ : ∃ gg_, gg_ = mn_push g12 (.inr (9, [.null])) := ⟨_, rfl⟩
  have hsg12 : g12.1 = vs + 10 := by omega
  rw [hsg12]
  refine mn_R.toG eg14 ?_
  have hn_g14 : g14.1 = vs + 10 + 1 := by rw [eg14]; show g12.1 + 1 = _; rw [hsg12]
  have h0_g14 : mn_at g14 vs (.inr (10, [.ref (vs + 1), .ref (vs + 3), .ref (vs + 9), .null, .null, .null, .null])) := by rw [eg14]; exact h0_g12.push
  have hta_g14 : mn_at g14 (vs + 1) (.inr (7, [.ref (vs + 1 + 1), .int 0])) := by rw [eg14]; exact hta_g12.push
  have htb_g14 : mn_at g14 (vs + 1 + 1) (.inl (0, 60, .inl (fun _ => 0))) := by rw [eg14]; exact htb_g12.push
  have hsa_g14 : mn_at g14 (vs + 3) (.inr (6, [.ref (vs + 3 + 1), .ref (vs + 3 + 5), .int 0, .int 0])) := by rw [eg14]; exact hsa_g12.push
  have hsb_g14 : mn_at g14 (vs + 3 + 1) (.inr (2, [.ref (vs + 3 + 1 + 3), .ref (vs + 3 + 1 + 1), .ref (vs + 3 + 1 + 2), .int 0, .int 0])) := by rw [eg14]; exact hsb_g12.push
  have hsc_g14 : mn_at g14 (vs + 3 + 1 + 3) (.inl (0, 1340, .inl (fun _ => 0))) := by rw [eg14]; exact hsc_g12.push
  have hsd_g14 : mn_at g14 (vs + 3 + 1 + 1) (.inl (0, 60, .inl (fun _ => 0))) := by rw [eg14]; exact hsd_g12.push
  have hse_g14 : mn_at g14 (vs + 3 + 1 + 2) (.inl (0, 60, .inl (fun _ => 0))) := by rw [eg14]; exact hse_g12.push
  have hsf_g14 : mn_at g14 (vs + 3 + 5) (.inl (0, 20, .inl (fun _ => 0))) := by rw [eg14]; exact hsf_g12.push
  have hua_g14 : mn_at g14 (vs + 9) (.inr (4, [.int 32, .int 0, .int 0])) := by rw [eg14]; exact hua_g12.push
  have hw13_g14 : mn_at g14 (vs + 10) (.inr (9, [.null])) := by rw [eg14, ← hsg12]; exact mn_at_new (by omega)
  clear h0_g12 hta_g12 htb_g12 hsa_g12 hsb_g12 hsc_g12 hsd_g12 hse_g12 hsf_g12 hua_g12 hn_g12 hsg12
  refine mn_dup dVS_init_41 rfl ?_
  refine mn_callIN (d' := 2) (w' := 40) (nc' := 2) (ns' := 82) (As := []) (st := [.ref (vs + 10), .ref vs]) okWr_init lVS_32 dVS_init_42 rfl rfl (Nat.le_of_ble_eq_true rfl) (Nat.le_of_ble_eq_true rfl) (by decide) (c_Wr_init hw13_g14 (by omega)) (fun v g15 hq => ?_)
  obtain ⟨rfl, hn_g15, fg15, hya_g15, hyb_g15, hyc_g15⟩ := hq
  show mn_R E MVS_init 3 62 _ _ 45 [(0, .ref vs)] [.ref (vs + 10), .ref vs] g15 _
  have h0_g15 := h0_g14.gw fg15 (fun h => by have h9 : vs = (vs + 10) := h; omega)
  have hta_g15 := hta_g14.gw fg15 (fun h => by have h9 : (vs + 1) = (vs + 10) := h; omega)
  have htb_g15 := htb_g14.gw fg15 (fun h => by have h9 : (vs + 1 + 1) = (vs + 10) := h; omega)
  have hsa_g15 := hsa_g14.gw fg15 (fun h => by have h9 : (vs + 3) = (vs + 10) := h; omega)
  have hsb_g15 := hsb_g14.gw fg15 (fun h => by have h9 : (vs + 3 + 1) = (vs + 10) := h; omega)
  have hsc_g15 := hsc_g14.gw fg15 (fun h => by have h9 : (vs + 3 + 1 + 3) = (vs + 10) := h; omega)
  have hsd_g15 := hsd_g14.gw fg15 (fun h => by have h9 : (vs + 3 + 1 + 1) = (vs + 10) := h; omega)
  have hse_g15 := hse_g14.gw fg15 (fun h => by have h9 : (vs + 3 + 1 + 2) = (vs + 10) := h; omega)
  have hsf_g15 := hsf_g14.gw fg15 (fun h => by have h9 : (vs + 3 + 5) = (vs + 10) := h; omega)
  have hua_g15 := hua_g14.gw fg15 (fun h => by have h9 : (vs + 9) = (vs + 10) := h; omega)
  clear h0_g14 hta_g14 htb_g14 hsa_g14 hsb_g14 hsc_g14 hsd_g14 hse_g14 hsf_g14 hua_g14 hw13_g14 hn_g14
  refine mn_putF okVS 3 lVS_33 (by decide) rfl rfl rfl h0_g15 rfl rfl (Nat.le_of_ble_eq_true rfl) dVS_init_45 ?_
  obtain ⟨g16, eg16⟩ : ∃ gg_, gg_ = mn_set g15 vs (.inr (10, [.ref (vs + 1), .ref (vs + 3), .ref (vs + 9), .ref (vs + 10), .null, .null, .null])) := ⟨_, rfl⟩
  refine mn_R.toG eg16 ?_
  have h0_g16 : mn_at g16 vs (.inr (10, [.ref (vs + 1), .ref (vs + 3), .ref (vs + 9), .ref (vs + 10), .null, .null, .null])) := by rw [eg16]; exact h0_g15.same
  have hta_g16 : mn_at g16 (vs + 1) (.inr (7, [.ref (vs + 1 + 1), .int 0])) := by rw [eg16]; exact hta_g15.off (by omega)
  have htb_g16 : mn_at g16 (vs + 1 + 1) (.inl (0, 60, .inl (fun _ => 0))) := by rw [eg16]; exact htb_g15.off (by omega)
  have hsa_g16 : mn_at g16 (vs + 3) (.inr (6, [.ref (vs + 3 + 1), .ref (vs + 3 + 5), .int 0, .int 0])) := by rw [eg16]; exact hsa_g15.off (by omega)
  have hsb_g16 : mn_at g16 (vs + 3 + 1) (.inr (2, [.ref (vs + 3 + 1 + 3), .ref (vs + 3 + 1 + 1), .ref (vs + 3 + 1 + 2), .int 0, .int 0])) := by rw [eg16]; exact hsb_g15.off (by omega)
  have hsc_g16 : mn_at g16 (vs + 3 + 1 + 3) (.inl (0, 1340, .inl (fun _ => 0))) := by rw [eg16]; exact hsc_g15.off (by omega)
  have hsd_g16 : mn_at g16 (vs + 3 + 1 + 1) (.inl (0, 60, .inl (fun _ => 0))) := by rw [eg16]; exact hsd_g15.off (by omega)
  have hse_g16 : mn_at g16 (vs + 3 + 1 + 2) (.inl (0, 60, .inl (fun _ => 0))) := by rw [eg16]; exact hse_g15.off (by omega)
  have hsf_g16 : mn_at g16 (vs + 3 + 5) (.inl (0, 20, .inl (fun _ => 0))) := by rw [eg16]; exact hsf_g15.off (by omega)
  have hua_g16 : mn_at g16 (vs + 9) (.inr (4, [.int 32, .int 0, .int 0])) := by rw [eg16]; exact hua_g15.off (by omega)
  have hya_g16 : mn_at g16 (vs + 10) (.inr (9, [.ref (vs + 10 + 1)])) := by rw [eg16]; exact hya_g15.off (by omega)
  have hyb_g16 : mn_at g16 (vs + 10 + 1) (.inr (8, [.ref (vs + 10 + 1 + 1), .int 0])) := by rw [eg16]; exact hyb_g15.off (by omega)
  have hyc_g16 : mn_at g16 (vs + 10 + 1 + 1) (.inl (0, 80, .inl (fun _ => 0))) := by rw [eg16]; exact hyc_g15.off (by omega)
  have hn_g16 := (show g16.1 = g15.1 by rw [eg16]; rfl).trans hn_g15
  clear h0_g15 hta_g15 htb_g15 hsa_g15 hsb_g15 hsc_g15 hsd_g15 hse_g15 hsf_g15 hua_g15 hya_g15 hyb_g15 hyc_g15 hn_g15
  refine mn_aload_n 0 dVS_init_48 rfl rfl ?_
  refine mn_new okSl [.null] lVS_37 inst_Sl ini_Sl rfl (by decide) (by decide) dVS_init_49 ?_
  obtain ⟨g18, eg18⟩ : ∃ gg_, gg_ = mn_push g16 (.inr (5, [.null])) := ⟨_, rfl⟩
  have hsg16 : g16.1 = vs + 13 := by omega
  rw [hsg16]
  refine mn_R.toG eg18 ?_
  have hn_g18 : g18.1 = vs + 13 + 1 := by rw [eg18]; show g16.1 + 1 = _; rw [hsg16]
  have h0_g18 : mn_at g18 vs (.inr (10, [.ref (vs + 1), .ref (vs + 3), .ref (vs + 9), .ref (vs + 10), .null, .null, .null])) := by rw [eg18]; exact h0_g16.push
  have hta_g18 : mn_at g18 (vs + 1) (.inr (7, [.ref (vs + 1 + 1), .int 0])) := by rw [eg18]; exact hta_g16.push
  have htb_g18 : mn_at g18 (vs + 1 + 1) (.inl (0, 60, .inl (fun _ => 0))) := by rw [eg18]; exact htb_g16.push
  have hsa_g18 : mn_at g18 (vs + 3) (.inr (6, [.ref (vs + 3 + 1), .ref (vs + 3 + 5), .int 0, .int 0])) := by rw [eg18]; exact hsa_g16.push
  have hsb_g18 : mn_at g18 (vs + 3 + 1) (.inr (2, [.ref (vs + 3 + 1 + 3), .ref (vs + 3 + 1 + 1), .ref (vs + 3 + 1 + 2), .int 0, .int 0])) := by rw [eg18]; exact hsb_g16.push
  have hsc_g18 : mn_at g18 (vs + 3 + 1 + 3) (.inl (0, 1340, .inl (fun _ => 0))) := by rw [eg18]; exact hsc_g16.push
  have hsd_g18 : mn_at g18 (vs + 3 + 1 + 1) (.inl (0, 60, .inl (fun _ => 0))) := by rw [eg18]; exact hsd_g16.push
  have hse_g18 : mn_at g18 (vs + 3 + 1 + 2) (.inl (0, 60, .inl (fun _ => 0))) := by rw [eg18]; exact hse_g16.push
  have hsf_g18 : mn_at g18 (vs + 3 + 5) (.inl (0, 20, .inl (fun _ => 0))) := by rw [eg18]; exact hsf_g16.push
  have hua_g18 : mn_at g18 (vs + 9) (.inr (4, [.int 32, .int 0, .int 0])) := by rw [eg18]; exact hua_g16.push
  have hya_g18 : mn_at g18 (vs + 10) (.inr (9, [.ref (vs + 10 + 1)])) := by rw [eg18]; exact hya_g16.push
  have hyb_g18 : mn_at g18 (vs + 10 + 1) (.inr (8, [.ref (vs + 10 + 1 + 1), .int 0])) := by rw [eg18]; exact hyb_g16.push
  have hyc_g18 : mn_at g18 (vs + 10 + 1 + 1) (.inl (0, 80, .inl (fun _ => 0))) := by rw [eg18]; exact hyc_g16.push
  have hw17_g18 : mn_at g18 (vs + 13) (.inr (5, [.null])) := by rw [eg18, ← hsg16]; exact mn_at_new (by omega)
  clear h0_g16 hta_g16 htb_g16 hsa_g16 hsb_g16 hsc_g16 hsd_g16 hse_g16 hsf_g16 hua_g16 hya_g16 hyb_g16 hyc_g16 hn_g16 hsg16
  refine mn_dup dVS_init_52 rfl ?_
  refine mn_callI (d' := 2) (w' := 40) (nc' := 121) (ns' := 4980) (As := []) (st := [.ref (vs + 13), .ref vs]) okSl_init lVS_39 dVS_init_53 rfl rfl (Nat.le_of_ble_eq_true rfl) (Nat.le_of_ble_eq_true rfl) (by decide) (c_Sl_initP hw17_g18 (by omega)) (fun v g19 hq => ?_)
  obtain ⟨rfl, hn_g19, fg19, hSl_g19⟩ := hq
  show mn_R E MVS_init 3 62 _ _ 56 [(0, .ref vs)] [.ref (vs + 13), .ref vs] g19 _
  have h0_g19 := h0_g18.gw fg19 (fun h => by have h9 : vs = (vs + 13) := h; omega)
  have hta_g19 := hta_g18.gw fg19 (fun h => by have h9 : (vs + 1) = (vs + 13) := h; omega)
  have htb_g19 := htb_g18.gw fg19 (fun h => by have h9 : (vs + 1 + 1) = (vs + 13) := h; omega)
  have hsa_g19 := hsa_g18.gw fg19 (fun h => by have h9 : (vs + 3) = (vs + 13) := h; omega)
  have hsb_g19 := hsb_g18.gw fg19 (fun h => by have h9 : (vs + 3 + 1) = (vs + 13) := h; omega)
  have hsc_g19 := hsc_g18.gw fg19 (fun h => by have h9 : (vs + 3 + 1 + 3) = (vs + 13) := h; omega)
  have hsd_g19 := hsd_g18.gw fg19 (fun h => by have h9 : (vs + 3 + 1 + 1) = (vs + 13) := h; omega)
  have hse_g19 := hse_g18.gw fg19 (fun h => by have h9 : (vs + 3 + 1 + 2) = (vs + 13) := h; omega)
  have hsf_g19 := hsf_g18.gw fg19 (fun h => by have h9 : (vs + 3 + 5) = (vs + 13) := h; omega)
  have hua_g19 := hua_g18.gw fg19 (fun h => by have h9 : (vs + 9) = (vs + 13) := h; omega)
  have hya_g19 := hya_g18.gw fg19 (fun h => by have h9 : (vs + 10) = (vs + 13) := h; omega)
  have hyb_g19 := hyb_g18.gw fg19 (fun h => by have h9 : (vs + 10 + 1) = (vs + 13) := h; omega)
  have hyc_g19 := hyc_g18.gw fg19 (fun h => by have h9 : (vs + 10 + 1 + 1) = (vs + 13) := h; omega)
  clear h0_g18 hta_g18 htb_g18 hsa_g18 hsb_g18 hsc_g18 hsd_g18 hse_g18 hsf_g18 hua_g18 hya_g18 hyb_g18 hyc_g18 hw17_g18 hn_g18
  refine mn_putF okVS 4 lVS_40 (by decide) rfl rfl rfl h0_g19 rfl rfl (Nat.le_of_ble_eq_true rfl) dVS_init_56 ?_
  obtain ⟨g20, eg20⟩ : ∃ gg_, gg_ = mn_set g19 vs (.inr (10, [.ref (vs + 1), .ref (vs + 3), .ref (vs + 9), .ref (vs + 10), .ref (vs + 13), .null, .null])) := ⟨_, rfl⟩
  refine mn_R.toG eg20 ?_
  have h0_g20 : mn_at g20 vs (.inr (10, [.ref (vs + 1), .ref (vs + 3), .ref (vs + 9), .ref (vs + 10), .ref (vs + 13), .null, .null])) := by rw [eg20]; exact h0_g19.same
  have hta_g20 : mn_at g20 (vs + 1) (.inr (7, [.ref (vs + 1 + 1), .int 0])) := by rw [eg20]; exact hta_g19.off (by omega)
  have htb_g20 : mn_at g20 (vs + 1 + 1) (.inl (0, 60, .inl (fun _ => 0))) := by rw [eg20]; exact htb_g19.off (by omega)
  have hsa_g20 : mn_at g20 (vs + 3) (.inr (6, [.ref (vs + 3 + 1), .ref (vs + 3 + 5), .int 0, .int 0])) := by rw [eg20]; exact hsa_g19.off (by omega)
  have hsb_g20 : mn_at g20 (vs + 3 + 1) (.inr (2, [.ref (vs + 3 + 1 + 3), .ref (vs + 3 + 1 + 1), .ref (vs + 3 + 1 + 2), .int 0, .int 0])) := by rw [eg20]; exact hsb_g19.off (by omega)
  have hsc_g20 : mn_at g20 (vs + 3 + 1 + 3) (.inl (0, 1340, .inl (fun _ => 0))) := by rw [eg20]; exact hsc_g19.off (by omega)
  have hsd_g20 : mn_at g20 (vs + 3 + 1 + 1) (.inl (0, 60, .inl (fun _ => 0))) := by rw [eg20]; exact hsd_g19.off (by omega)
  have hse_g20 : mn_at g20 (vs + 3 + 1 + 2) (.inl (0, 60, .inl (fun _ => 0))) := by rw [eg20]; exact hse_g19.off (by omega)
  have hsf_g20 : mn_at g20 (vs + 3 + 5) (.inl (0, 20, .inl (fun _ => 0))) := by rw [eg20]; exact hsf_g19.off (by omega)
  have hua_g20 : mn_at g20 (vs + 9) (.inr (4, [.int 32, .int 0, .int 0])) := by rw [eg20]; exact hua_g19.off (by omega)
  have hya_g20 : mn_at g20 (vs + 10) (.inr (9, [.ref (vs + 10 + 1)])) := by rw [eg20]; exact hya_g19.off (by omega)
  have hyb_g20 : mn_at g20 (vs + 10 + 1) (.inr (8, [.ref (vs + 10 + 1 + 1), .int 0])) := by rw [eg20]; exact hyb_g19.off (by omega)
  have hyc_g20 : mn_at g20 (vs + 10 + 1 + 1) (.inl (0, 80, .inl (fun _ => 0))) := by rw [eg20]; exact hyc_g19.off (by omega)
  have hSl_g20 : SlP g20 (vs + 13) (fun k => k) (fun _ => 0) (fun _ _ => 0) := by rw [eg20]; exact hSl_g19.fr (mn_fr_set (S := fun q => q = vs) rfl) (fun q q1 q2 h => by have h9 : q = vs := h; omega)
  have hn_g20 := (show g20.1 = g19.1 by rw [eg20]; rfl).trans hn_g19
  clear h0_g19 hta_g19 htb_g19 hsa_g19 hsb_g19 hsc_g19 hsd_g19 hse_g19 hsf_g19 hua_g19 hya_g19 hyb_g19 hyc_g19 hn_g19
  refine mn_aload_n 0 dVS_init_59 rfl rfl ?_
  refine mn_new okRd [.null, .null, .null, .int 0, .int 0, .int 0, .int 0, .int 0] lVS_44 inst_Rd ini_Rd rfl (by decide) (by decide) dVS_init_60 ?_
  obtain ⟨g22, eg22⟩ : ∃ gg_, gg_ = mn_push g20 (.inr (3, [.null, .null, .null, .int 0, .int 0, .int 0, .int 0, .int 0])) := ⟨_, rfl⟩
  have hsg20 : g20.1 = vs + 135 := by omega
  rw [hsg20]
  refine mn_R.toG eg22 ?_
  have hn_g22 : g22.1 = vs + 135 + 1 := by rw [eg22]; show g20.1 + 1 = _; rw [hsg20]
  have h0_g22 : mn_at g22 vs (.inr (10, [.ref (vs + 1), .ref (vs + 3), .ref (vs + 9), .ref (vs + 10), .ref (vs + 13), .null, .null])) := by rw [eg22]; exact h0_g20.push
  have hta_g22 : mn_at g22 (vs + 1) (.inr (7, [.ref (vs + 1 + 1), .int 0])) := by rw [eg22]; exact hta_g20.push
  have htb_g22 : mn_at g22 (vs + 1 + 1) (.inl (0, 60, .inl (fun _ => 0))) := by rw [eg22]; exact htb_g20.push
  have hsa_g22 : mn_at g22 (vs + 3) (.inr (6, [.ref (vs + 3 + 1), .ref (vs + 3 + 5), .int 0, .int 0])) := by rw [eg22]; exact hsa_g20.push
  have hsb_g22 : mn_at g22 (vs + 3 + 1) (.inr (2, [.ref (vs + 3 + 1 + 3), .ref (vs + 3 + 1 + 1), .ref (vs + 3 + 1 + 2), .int 0, .int 0])) := by rw [eg22]; exact hsb_g20.push
  have hsc_g22 : mn_at g22 (vs + 3 + 1 + 3) (.inl (0, 1340, .inl (fun _ => 0))) := by rw [eg22]; exact hsc_g20.push
  have hsd_g22 : mn_at g22 (vs + 3 + 1 + 1) (.inl (0, 60, .inl (fun _ => 0))) := by rw [eg22]; exact hsd_g20.push
  have hse_g22 : mn_at g22 (vs + 3 + 1 + 2) (.inl (0, 60, .inl (fun _ => 0))) := by rw [eg22]; exact hse_g20.push
  have hsf_g22 : mn_at g22 (vs + 3 + 5) (.inl (0, 20, .inl (fun _ => 0))) := by rw [eg22]; exact hsf_g20.push
  have hua_g22 : mn_at g22 (vs + 9) (.inr (4, [.int 32, .int 0, .int 0])) := by rw [eg22]; exact hua_g20.push
  have hya_g22 : mn_at g22 (vs + 10) (.inr (9, [.ref (vs + 10 + 1)])) := by rw [eg22]; exact hya_g20.push
  have hyb_g22 : mn_at g22 (vs + 10 + 1) (.inr (8, [.ref (vs + 10 + 1 + 1), .int 0])) := by rw [eg22]; exact hyb_g20.push
  have hyc_g22 : mn_at g22 (vs + 10 + 1 + 1) (.inl (0, 80, .inl (fun _ => 0))) := by rw [eg22]; exact hyc_g20.push
  have hw21_g22 : mn_at g22 (vs + 135) (.inr (3, [.null, .null, .null, .int 0, .int 0, .int 0, .int 0, .int 0])) := by rw [eg22, ← hsg20]; exact mn_at_new (by omega)
  have hSl_g22 : SlP g22 (vs + 13) (fun k => k) (fun _ => 0) (fun _ _ => 0) := by rw [eg22]; exact hSl_g20.gw (mn_gw.push (S := fun _ => False) mn_gw.rf rfl) (fun q q1 q2 h => h)
  clear h0_g20 hta_g20 htb_g20 hsa_g20 hsb_g20 hsc_g20 hsd_g20 hse_g20 hsf_g20 hua_g20 hya_g20 hyb_g20 hyc_g20 hn_g20 hsg20
  refine mn_dup dVS_init_63 rfl ?_
  refine mn_callIN (d' := 2) (w' := 42) (nc' := 11) (ns' := 4527) (As := []) (st := [.ref (vs + 135), .ref vs]) okRd_init lVS_46 dVS_init_64 rfl rfl (Nat.le_of_ble_eq_true rfl) (Nat.le_of_ble_eq_true rfl) (by decide) (c_Rd_init hw21_g22 (by omega)) (fun v g23 hq => ?_)
  obtain ⟨rfl, hn_g23, fg23, hra_g23, hrb_g23, hrc_g23, hrd_g23, hre_g23, hrf_g23, hE_g23⟩ := hq
  show mn_R E MVS_init 3 62 _ _ 67 [(0, .ref vs)] [.ref (vs + 135), .ref vs] g23 _
  have h0_g23 := h0_g22.gw fg23 (fun h => by have h9 : vs = (vs + 135) := h; omega)
  have hta_g23 := hta_g22.gw fg23 (fun h => by have h9 : (vs + 1) = (vs + 135) := h; omega)
  have htb_g23 := htb_g22.gw fg23 (fun h => by have h9 : (vs + 1 + 1) = (vs + 135) := h; omega)
  have hsa_g23 := hsa_g22.gw fg23 (fun h => by have h9 : (vs + 3) = (vs + 135) := h; omega)
  have hsb_g23 := hsb_g22.gw fg23 (fun h => by have h9 : (vs + 3 + 1) = (vs + 135) := h; omega)
  have hsc_g23 := hsc_g22.gw fg23 (fun h => by have h9 : (vs + 3 + 1 + 3) = (vs + 135) := h; omega)
  have hsd_g23 := hsd_g22.gw fg23 (fun h => by have h9 : (vs + 3 + 1 + 1) = (vs + 135) := h; omega)
  have hse_g23 := hse_g22.gw fg23 (fun h => by have h9 : (vs + 3 + 1 + 2) = (vs + 135) := h; omega)
  have hsf_g23 := hsf_g22.gw fg23 (fun h => by have h9 : (vs + 3 + 5) = (vs + 135) := h; omega)
  have hua_g23 := hua_g22.gw fg23 (fun h => by have h9 : (vs + 9) = (vs + 135) := h; omega)
  have hya_g23 := hya_g22.gw fg23 (fun h => by have h9 : (vs + 10) = (vs + 135) := h; omega)
  have hyb_g23 := hyb_g22.gw fg23 (fun h => by have h9 : (vs + 10 + 1) = (vs + 135) := h; omega)
  have hyc_g23 := hyc_g22.gw fg23 (fun h => by have h9 : (vs + 10 + 1 + 1) = (vs + 135) := h; omega)
  have hSl_g23 : SlP g23 (vs + 13) (fun k => k) (fun _ => 0) (fun _ _ => 0) := hSl_g22.gw fg23 (fun q q1 q2 h => by have h9 : q = vs + 135 := h; omega)
  clear h0_g22 hta_g22 htb_g22 hsa_g22 hsb_g22 hsc_g22 hsd_g22 hse_g22 hsf_g22 hua_g22 hya_g22 hyb_g22 hyc_g22 hw21_g22 hn_g22
  refine mn_putF okVS 5 lVS_47 (by decide) rfl rfl rfl h0_g23 rfl rfl (Nat.le_of_ble_eq_true rfl) dVS_init_67 ?_
  obtain ⟨g24, eg24⟩ : ∃ gg_, gg_ = mn_set g23 vs (.inr (10, [.ref (vs + 1), .ref (vs + 3), .ref (vs + 9), .ref (vs + 10), .ref (vs + 13), .ref (vs + 135), .null])) := ⟨_, rfl⟩
  refine mn_R.toG eg24 ?_
  have h0_g24 : mn_at g24 vs (.inr (10, [.ref (vs + 1), .ref (vs + 3), .ref (vs + 9), .ref (vs + 10), .ref (vs + 13), .ref (vs + 135), .null])) := by rw [eg24]; exact h0_g23.same
  have hta_g24 : mn_at g24 (vs + 1) (.inr (7, [.ref (vs + 1 + 1), .int 0])) := by rw [eg24]; exact hta_g23.off (by omega)
  have htb_g24 : mn_at g24 (vs + 1 + 1) (.inl (0, 60, .inl (fun _ => 0))) := by rw [eg24]; exact htb_g23.off (by omega)
  have hsa_g24 : mn_at g24 (vs + 3) (.inr (6, [.ref (vs + 3 + 1), .ref (vs + 3 + 5), .int 0, .int 0])) := by rw [eg24]; exact hsa_g23.off (by omega)
  have hsb_g24 : mn_at g24 (vs + 3 + 1) (.inr (2, [.ref (vs + 3 + 1 + 3), .ref (vs + 3 + 1 + 1), .ref (vs + 3 + 1 + 2), .int 0, .int 0])) := by rw [eg24]; exact hsb_g23.off (by omega)
  have hsc_g24 : mn_at g24 (vs + 3 + 1 + 3) (.inl (0, 1340, .inl (fun _ => 0))) := by rw [eg24]; exact hsc_g23.off (by omega)
  have hsd_g24 : mn_at g24 (vs + 3 + 1 + 1) (.inl (0, 60, .inl (fun _ => 0))) := by rw [eg24]; exact hsd_g23.off (by omega)
  have hse_g24 : mn_at g24 (vs + 3 + 1 + 2) (.inl (0, 60, .inl (fun _ => 0))) := by rw [eg24]; exact hse_g23.off (by omega)
  have hsf_g24 : mn_at g24 (vs + 3 + 5) (.inl (0, 20, .inl (fun _ => 0))) := by rw [eg24]; exact hsf_g23.off (by omega)
  have hua_g24 : mn_at g24 (vs + 9) (.inr (4, [.int 32, .int 0, .int 0])) := by rw [eg24]; exact hua_g23.off (by omega)
  have hya_g24 : mn_at g24 (vs + 10) (.inr (9, [.ref (vs + 10 + 1)])) := by rw [eg24]; exact hya_g23.off (by omega)
  have hyb_g24 : mn_at g24 (vs + 10 + 1) (.inr (8, [.ref (vs + 10 + 1 + 1), .int 0])) := by rw [eg24]; exact hyb_g23.off (by omega)
  have hyc_g24 : mn_at g24 (vs + 10 + 1 + 1) (.inl (0, 80, .inl (fun _ => 0))) := by rw [eg24]; exact hyc_g23.off (by omega)
  have hra_g24 : mn_at g24 (vs + 135) (.inr (3, [.ref (vs + 135 + 1), .ref (vs + 135 + 5), .ref (vs + 135 + 6), .int 0, .int 0, .int 0, .int 0, .int 0])) := by rw [eg24]; exact hra_g23.off (by omega)
  have hrb_g24 : mn_at g24 (vs + 135 + 1) (.inr (2, [.ref (vs + 135 + 1 + 3), .ref (vs + 135 + 1 + 1), .ref (vs + 135 + 1 + 2), .int 0, .int 0])) := by rw [eg24]; exact hrb_g23.off (by omega)
  have hrc_g24 : mn_at g24 (vs + 135 + 1 + 3) (.inl (0, 4080, .inl (fun _ => 0))) := by rw [eg24]; exact hrc_g23.off (by omega)
  have hrd_g24 : mn_at g24 (vs + 135 + 1 + 1) (.inl (0, 60, .inl (fun _ => 0))) := by rw [eg24]; exact hrd_g23.off (by omega)
  have hre_g24 : mn_at g24 (vs + 135 + 1 + 2) (.inl (0, 60, .inl (fun _ => 0))) := by rw [eg24]; exact hre_g23.off (by omega)
  have hrf_g24 : mn_at g24 (vs + 135 + 5) (.inl (0, 63, .inl (fun _ => 0))) := by rw [eg24]; exact hrf_g23.off (by omega)
  have hSl_g24 : SlP g24 (vs + 13) (fun k => k) (fun _ => 0) (fun _ _ => 0) := by rw [eg24]; exact hSl_g23.fr (mn_fr_set (S := fun q => q = vs) rfl) (fun q q1 q2 h => by have h9 : q = vs := h; omega)
  have hE_g24 : EqP g24 (vs + 135 + 6) (fun _ _ => 0) (fun _ => 0) 0 0 := by rw [eg24]; exact hE_g23.fr (mn_fr_set (S := fun q => q = vs) rfl) (fun q q1 q2 h => by have h9 : q = vs := h; omega)
  have hn_g24 := (show g24.1 = g23.1 by rw [eg24]; rfl).trans hn_g23
  clear h0_g23 hta_g23 htb_g23 hsa_g23 hsb_g23 hsc_g23 hsd_g23 hse_g23 hsf_g23 hua_g23 hya_g23 hyb_g23 hyc_g23 hra_g23 hrb_g23 hrc_g23 hrd_g23 hre_g23 hrf_g23 hn_g23
  refine mn_aload_n 0 dVS_init_70 rfl rfl ?_
  refine mn_new okOp [.null, .null, .null, .int 0] lVS_51 inst_Op ini_Op rfl (by decide) (by decide) dVS_init_71 ?_
  obtain ⟨g26, eg26⟩ : ∃ gg_, gg_ = mn_push g24 (.inr (1, [.null, .null, .null, .int 0])) := ⟨_, rfl⟩
  have hsg24 : g24.1 = vs + 147 := by omega
  rw [hsg24]
  refine mn_R.toG eg26 ?_
  have hn_g26 : g26.1 = vs + 147 + 1 := by rw [eg26]; show g24.1 + 1 = _; rw [hsg24]
  have h0_g26 : mn_at g26 vs (.inr (10, [.ref (vs + 1), .ref (vs + 3), .ref (vs + 9), .ref (vs + 10), .ref (vs + 13), .ref (vs + 135), .null])) := by rw [eg26]; exact h0_g24.push
  have hta_g26 : mn_at g26 (vs + 1) (.inr (7, [.ref (vs + 1 + 1), .int 0])) := by rw [eg26]; exact hta_g24.push
  have htb_g26 : mn_at g26 (vs + 1 + 1) (.inl (0, 60, .inl (fun _ => 0))) := by rw [eg26]; exact htb_g24.push
  have hsa_g26 : mn_at g26 (vs + 3) (.inr (6, [.ref (vs + 3 + 1), .ref (vs + 3 + 5), .int 0, .int 0])) := by rw [eg26]; exact hsa_g24.push
  have hsb_g26 : mn_at g26 (vs + 3 + 1) (.inr (2, [.ref (vs + 3 + 1 + 3), .ref (vs + 3 + 1 + 1), .ref (vs + 3 + 1 + 2), .int 0, .int 0])) := by rw [eg26]; exact hsb_g24.push
  have hsc_g26 : mn_at g26 (vs + 3 + 1 + 3) (.inl (0, 1340, .inl (fun _ => 0))) := by rw [eg26]; exact hsc_g24.push
  have hsd_g26 : mn_at g26 (vs + 3 + 1 + 1) (.inl (0, 60, .inl (fun _ => 0))) := by rw [eg26]; exact hsd_g24.push
  have hse_g26 : mn_at g26 (vs + 3 + 1 + 2) (.inl (0, 60, .inl (fun _ => 0))) := by rw [eg26]; exact hse_g24.push
  have hsf_g26 : mn_at g26 (vs + 3 + 5) (.inl (0, 20, .inl (fun _ => 0))) := by rw [eg26]; exact hsf_g24.push
  have hua_g26 : mn_at g26 (vs + 9) (.inr (4, [.int 32, .int 0, .int 0])) := by rw [eg26]; exact hua_g24.push
  have hya_g26 : mn_at g26 (vs + 10) (.inr (9, [.ref (vs + 10 + 1)])) := by rw [eg26]; exact hya_g24.push
  have hyb_g26 : mn_at g26 (vs + 10 + 1) (.inr (8, [.ref (vs + 10 + 1 + 1), .int 0])) := by rw [eg26]; exact hyb_g24.push
  have hyc_g26 : mn_at g26 (vs + 10 + 1 + 1) (.inl (0, 80, .inl (fun _ => 0))) := by rw [eg26]; exact hyc_g24.push
  have hra_g26 : mn_at g26 (vs + 135) (.inr (3, [.ref (vs + 135 + 1), .ref (vs + 135 + 5), .ref (vs + 135 + 6), .int 0, .int 0, .int 0, .int 0, .int 0])) := by rw [eg26]; exact hra_g24.push
  have hrb_g26 : mn_at g26 (vs + 135 + 1) (.inr (2, [.ref (vs + 135 + 1 + 3), .ref (vs + 135 + 1 + 1), .ref (vs + 135 + 1 + 2), .int 0, .int 0])) := by rw [eg26]; exact hrb_g24.push
  have hrc_g26 : mn_at g26 (vs + 135 + 1 + 3) (.inl (0, 4080, .inl (fun _ => 0))) := by rw [eg26]; exact hrc_g24.push
  have hrd_g26 : mn_at g26 (vs + 135 + 1 + 1) (.inl (0, 60, .inl (fun _ => 0))) := by rw [eg26]; exact hrd_g24.push
  have hre_g26 : mn_at g26 (vs + 135 + 1 + 2) (.inl (0, 60, .inl (fun _ => 0))) := by rw [eg26]; exact hre_g24.push
  have hrf_g26 : mn_at g26 (vs + 135 + 5) (.inl (0, 63, .inl (fun _ => 0))) := by rw [eg26]; exact hrf_g24.push
  have hw25_g26 : mn_at g26 (vs + 147) (.inr (1, [.null, .null, .null, .int 0])) := by rw [eg26, ← hsg24]; exact mn_at_new (by omega)
  have hSl_g26 : SlP g26 (vs + 13) (fun k => k) (fun _ => 0) (fun _ _ => 0) := by rw [eg26]; exact hSl_g24.gw (mn_gw.push (S := fun _ => False) mn_gw.rf rfl) (fun q q1 q2 h => h)
  have hE_g26 : EqP g26 (vs + 135 + 6) (fun _ _ => 0) (fun _ => 0) 0 0 := by rw [eg26]; exact hE_g24.gw (mn_gw.push (S := fun _ => False) mn_gw.rf rfl) (fun q q1 q2 h => h)
  clear h0_g24 hta_g24 htb_g24 hsa_g24 hsb_g24 hsc_g24 hsd_g24 hse_g24 hsf_g24 hua_g24 hya_g24 hyb_g24 hyc_g24 hra_g24 hrb_g24 hrc_g24 hrd_g24 hre_g24 hrf_g24 hn_g24 hsg24
  refine mn_dup dVS_init_74 rfl ?_
  refine mn_callIN (d' := 1) (w' := 20) (nc' := 3) (ns' := 120) (As := []) (st := [.ref (vs + 147), .ref vs]) okOp_init lVS_53 dVS_init_75 rfl rfl (Nat.le_of_ble_eq_true rfl) (Nat.le_of_ble_eq_true rfl) (by decide) (c_Op_init hw25_g26 (by omega)) (fun v g27 hq => ?_)
  obtain ⟨rfl, hn_g27, fg27, hoa_g27, ho1_g27, ho2_g27, ho3_g27⟩ := hq
  show mn_R E MVS_init 3 62 _ _ 78 [(0, .ref vs)] [.ref (vs + 147), .ref vs] g27 _
  have h0_g27 := h0_g26.gw fg27 (fun h => by have h9 : vs = (vs + 147) := h; omega)
  have hta_g27 := hta_g26.gw fg27 (fun h => by have h9 : (vs + 1) = (vs + 147) := h; omega)
  have htb_g27 := htb_g26.gw fg27 (fun h => by have h9 : (vs + 1 + 1) = (vs + 147) := h; omega)
  have hsa_g27 := hsa_g26.gw fg27 (fun h => by have h9 : (vs + 3) = (vs + 147) := h; omega)
  have hsb_g27 := hsb_g26.gw fg27 (fun h => by have h9 : (vs + 3 + 1) = (vs + 147) := h; omega)
  have hsc_g27 := hsc_g26.gw fg27 (fun h => by have h9 : (vs + 3 + 1 + 3) = (vs + 147) := h; omega)
  have hsd_g27 := hsd_g26.gw fg27 (fun h => by have h9 : (vs + 3 + 1 + 1) = (vs + 147) := h; omega)
  have hse_g27 := hse_g26.gw fg27 (fun h => by have h9 : (vs + 3 + 1 + 2) = (vs + 147) := h; omega)
  have hsf_g27 := hsf_g26.gw fg27 (fun h => by have h9 : (vs + 3 + 5) = (vs + 147) := h; omega)
  have hua_g27 := hua_g26.gw fg27 (fun h => by have h9 : (vs + 9) = (vs + 147) := h; omega)
  have hya_g27 := hya_g26.gw fg27 (fun h => by have h9 : (vs + 10) = (vs + 147) := h; omega)
  have hyb_g27 := hyb_g26.gw fg27 (fun h => by have h9 : (vs + 10 + 1) = (vs + 147) := h; omega)
  have hyc_g27 := hyc_g26.gw fg27 (fun h => by have h9 : (vs + 10 + 1 + 1) = (vs + 147) := h; omega)
  have hra_g27 := hra_g26.gw fg27 (fun h => by have h9 : (vs + 135) = (vs + 147) := h; omega)
  have hrb_g27 := hrb_g26.gw fg27 (fun h => by have h9 : (vs + 135 + 1) = (vs + 147) := h; omega)
  have hrc_g27 := hrc_g26.gw fg27 (fun h => by have h9 : (vs + 135 + 1 + 3) = (vs + 147) := h; omega)
  have hrd_g27 := hrd_g26.gw fg27 (fun h => by have h9 : (vs + 135 + 1 + 1) = (vs + 147) := h; omega)
  have hre_g27 := hre_g26.gw fg27 (fun h => by have h9 : (vs + 135 + 1 + 2) = (vs + 147) := h; omega)
  have hrf_g27 := hrf_g26.gw fg27 (fun h => by have h9 : (vs + 135 + 5) = (vs + 147) := h; omega)
  have hSl_g27 : SlP g27 (vs + 13) (fun k => k) (fun _ => 0) (fun _ _ => 0) := hSl_g26.gw fg27 (fun q q1 q2 h => by have h9 : q = vs + 147 := h; omega)
  have hE_g27 : EqP g27 (vs + 135 + 6) (fun _ _ => 0) (fun _ => 0) 0 0 := hE_g26.gw fg27 (fun q q1 q2 h => by have h9 : q = vs + 147 := h; omega)
  clear h0_g26 hta_g26 htb_g26 hsa_g26 hsb_g26 hsc_g26 hsd_g26 hse_g26 hsf_g26 hua_g26 hya_g26 hyb_g26 hyc_g26 hra_g26 hrb_g26 hrc_g26 hrd_g26 hre_g26 hrf_g26 hw25_g26 hn_g26
  refine mn_putF okVS 6 lVS_54 (by decide) rfl rfl rfl h0_g27 rfl rfl (Nat.le_of_ble_eq_true rfl) dVS_init_78 ?_
  obtain ⟨g28, eg28⟩ : ∃ gg_, gg_ = mn_set g27 vs (.inr (10, [.ref (vs + 1), .ref (vs + 3), .ref (vs + 9), .ref (vs + 10), .ref (vs + 13), .ref (vs + 135), .ref (vs + 147)])) := ⟨_, rfl⟩
  refine mn_R.toG eg28 ?_
  have h0_g28 : mn_at g28 vs (.inr (10, [.ref (vs + 1), .ref (vs + 3), .ref (vs + 9), .ref (vs + 10), .ref (vs + 13), .ref (vs + 135), .ref (vs + 147)])) := by rw [eg28]; exact h0_g27.same
  have hta_g28 : mn_at g28 (vs + 1) (.inr (7, [.ref (vs + 1 + 1), .int 0])) := by rw [eg28]; exact hta_g27.off (by omega)
  have htb_g28 : mn_at g28 (vs + 1 + 1) (.inl (0, 60, .inl (fun _ => 0))) := by rw [eg28]; exact htb_g27.off (by omega)
  have hsa_g28 : mn_at g28 (vs + 3) (.inr (6, [.ref (vs + 3 + 1), .ref (vs + 3 + 5), .int 0, .int 0])) := by rw [eg28]; exact hsa_g27.off (by omega)
  have hsb_g28 : mn_at g28 (vs + 3 + 1) (.inr (2, [.ref (vs + 3 + 1 + 3), .ref (vs + 3 + 1 + 1), .ref (vs + 3 + 1 + 2), .int 0, .int 0])) := by rw [eg28]; exact hsb_g27.off (by omega)
  have hsc_g28 : mn_at g28 (vs + 3 + 1 + 3) (.inl (0, 1340, .inl (fun _ => 0))) := by rw [eg28]; exact hsc_g27.off (by omega)
  have hsd_g28 : mn_at g28 (vs + 3 + 1 + 1) (.inl (0, 60, .inl (fun _ => 0))) := by rw [eg28]; exact hsd_g27.off (by omega)
  have hse_g28 : mn_at g28 (vs + 3 + 1 + 2) (.inl (0, 60, .inl (fun _ => 0))) := by rw [eg28]; exact hse_g27.off (by omega)
  have hsf_g28 : mn_at g28 (vs + 3 + 5) (.inl (0, 20, .inl (fun _ => 0))) := by rw [eg28]; exact hsf_g27.off (by omega)
  have hua_g28 : mn_at g28 (vs + 9) (.inr (4, [.int 32, .int 0, .int 0])) := by rw [eg28]; exact hua_g27.off (by omega)
  have hya_g28 : mn_at g28 (vs + 10) (.inr (9, [.ref (vs + 10 + 1)])) := by rw [eg28]; exact hya_g27.off (by omega)
  have hyb_g28 : mn_at g28 (vs + 10 + 1) (.inr (8, [.ref (vs + 10 + 1 + 1), .int 0])) := by rw [eg28]; exact hyb_g27.off (by omega)
  have hyc_g28 : mn_at g28 (vs + 10 + 1 + 1) (.inl (0, 80, .inl (fun _ => 0))) := by rw [eg28]; exact hyc_g27.off (by omega)
  have hra_g28 : mn_at g28 (vs + 135) (.inr (3, [.ref (vs + 135 + 1), .ref (vs + 135 + 5), .ref (vs + 135 + 6), .int 0, .int 0, .int 0, .int 0, .int 0])) := by rw [eg28]; exact hra_g27.off (by omega)
  have hrb_g28 : mn_at g28 (vs + 135 + 1) (.inr (2, [.ref (vs + 135 + 1 + 3), .ref (vs + 135 + 1 + 1), .ref (vs + 135 + 1 + 2), .int 0, .int 0])) := by rw [eg28]; exact hrb_g27.off (by omega)
  have hrc_g28 : mn_at g28 (vs + 135 + 1 + 3) (.inl (0, 4080, .inl (fun _ => 0))) := by rw [eg28]; exact hrc_g27.off (by omega)
  have hrd_g28 : mn_at g28 (vs + 135 + 1 + 1) (.inl (0, 60, .inl (fun _ => 0))) := by rw [eg28]; exact hrd_g27.off (by omega)
  have hre_g28 : mn_at g28 (vs + 135 + 1 + 2) (.inl (0, 60, .inl (fun _ => 0))) := by rw [eg28]; exact hre_g27.off (by omega)
  have hrf_g28 : mn_at g28 (vs + 135 + 5) (.inl (0, 63, .inl (fun _ => 0))) := by rw [eg28]; exact hrf_g27.off (by omega)
  have hoa_g28 : mn_at g28 (vs + 147) (.inr (1, [.ref (vs + 147 + 1), .ref (vs + 147 + 2), .ref (vs + 147 + 3), .int 0])) := by rw [eg28]; exact hoa_g27.off (by omega)
  have ho1_g28 : mn_at g28 (vs + 147 + 1) (.inl (0, 40, .inl (fun _ => 0))) := by rw [eg28]; exact ho1_g27.off (by omega)
  have ho2_g28 : mn_at g28 (vs + 147 + 2) (.inl (0, 40, .inl (fun _ => 0))) := by rw [eg28]; exact ho2_g27.off (by omega)
  have ho3_g28 : mn_at g28 (vs + 147 + 3) (.inl (0, 40, .inl (fun _ => 0))) := by rw [eg28]; exact ho3_g27.off (by omega)
  have hSl_g28 : SlP g28 (vs + 13) (fun k => k) (fun _ => 0) (fun _ _ => 0) := by rw [eg28]; exact hSl_g27.fr (mn_fr_set (S := fun q => q = vs) rfl) (fun q q1 q2 h => by have h9 : q = vs := h; omega)
  have hE_g28 : EqP g28 (vs + 135 + 6) (fun _ _ => 0) (fun _ => 0) 0 0 := by rw [eg28]; exact hE_g27.fr (mn_fr_set (S := fun q => q = vs) rfl) (fun q q1 q2 h => by have h9 : q = vs := h; omega)
  have hn_g28 := (show g28.1 = g27.1 by rw [eg28]; rfl).trans hn_g27
  clear h0_g27 hta_g27 htb_g27 hsa_g27 hsb_g27 hsc_g27 hsd_g27 hse_g27 hsf_g27 hua_g27 hya_g27 hyb_g27 hyc_g27 hra_g27 hrb_g27 hrc_g27 hrd_g27 hre_g27 hrf_g27 hoa_g27 ho1_g27 ho2_g27 ho3_g27 hn_g27
  exact mn_vret rfl dVS_init_81 ⟨rfl, by omega, (((((((((((((((((((((mn_gw.rf.push eg2).tr fg3 (fun q _ h => by have h9 : q = vs + 1 := h; show q = vs; omega)).set eg4 (fun _ => by show vs = vs; omega)).push eg6).tr fg7 (fun q _ h => by have h9 : q = vs + 3 := h; show q = vs; omega)).set eg8 (fun _ => by show vs = vs; omega)).push eg10).tr fg11 (fun q _ h => by have h9 : q = vs + 9 := h; show q = vs; omega)).set eg12 (fun _ => by show vs = vs; omega)).push eg14).tr fg15 (fun q _ h => by have h9 : q = vs + 10 := h; show q = vs; omega)).set eg16 (fun _ => by show vs = vs; omega)).push eg18).tr fg19 (fun q _ h => by have h9 : q = vs + 13 := h; show q = vs; omega)).set eg20 (fun _ => by show vs = vs; omega)).push eg22).tr fg23 (fun q _ h => by have h9 : q = vs + 135 := h; show q = vs; omega)).set eg24 (fun _ => by show vs = vs; omega)).push eg26).tr fg27 (fun q _ h => by have h9 : q = vs + 147 := h; show q = vs; omega)).set eg28 (fun _ => by show vs = vs; omega)), h0_g28, hta_g28, htb_g28, hsa_g28, hsb_g28, hsc_g28, hsd_g28, hse_g28, hsf_g28, hua_g28, hya_g28, hyb_g28, hyc_g28, hra_g28, hrb_g28, hrc_g28, hrd_g28, hre_g28, hrf_g28, hoa_g28, ho1_g28, ho2_g28, ho3_g28, hSl_g28, hE_g28⟩
