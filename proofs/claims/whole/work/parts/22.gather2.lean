theorem wm_nI {s t : Nat} {b c : Nat → Nat} (hb : ∀ j, b j < 256) (hc : ∀ j, c j < 256) : wmV s t (fun j => nI (b j)) (fun j => nI (c j)) = 0 ↔ ¬ (s = t ∧ b 4 = c 4 ∧ b 5 = c 5) := by
  have b4 := hb 4
  have b5 := hb 5
  have c4 := hc 4
  have c5 := hc 5
  have key : (s = t ∧ nI (b 4) = nI (c 4) ∧ nI (b 5) = nI (c 5)) ↔ (s = t ∧ b 4 = c 4 ∧ b 5 = c 5) := by
    rw [nI_eq (by omega) (by omega), nI_eq (by omega) (by omega)]
  unfold wmV
  by_cases h : s = t ∧ b 4 = c 4 ∧ b 5 = c 5
  · rw [if_pos (key.mpr h)]
    exact ⟨fun q => absurd q (by decide), fun q => absurd h q⟩
  · rw [if_neg (fun q => h (key.mp q))]
    exact ⟨fun _ => h, fun _ => rfl⟩
set_option maxRecDepth 100000 in
theorem c_Rd_gather_none {E : mn_En} {g : mn_H} {rd sz rp pr ma : Nat} {dn : Int32} {z : Nat} {pi ss : Nat → Nat} {sb : Nat → Nat → Nat} (hR : mn_at g rd (.inr (3, [.ref (rd + 1), .ref (rd + 5), .ref (rd + 6), .int dn, .int (nI sz), .int (nI rp), .int (nI pr), .int (nI ma)]))) (hSl : SlP g z pi ss sb) {x : Nat} (hx : x < 256) (hf : fst' (fun k => sb k 2 = x ∧ stN (sb k) (ss k) = 1) 60 60 = none) (hrz : rd + 11 < z ∨ z + 121 < rd) : mn_R E MRd_gather 6 134 0 0 0 [(0, .ref rd), (1, .ref z), (2, .int (nI x))] [] g (fun y g' => y = some (.int (-2)) ∧ mn_fr (fun q => q = rd) g g' ∧ mn_at g' rd (.inr (3, [.ref (rd + 1), .ref (rd + 5), .ref (rd + 6), .int 0, .int (nI sz), .int (nI rp), .int (nI pr), .int (nI ma)]))) := by
  have hz := hSl.1
  refine mn_aload_n 1 dRd_gather_0 rfl rfl ?_
  refine mn_iload_n 2 dRd_gather_1 rfl rfl ?_
  refine mn_cV (d' := 5) (w' := 112) (As := [.int (nI x)]) (stk' := [.null]) okSl_firstGood lRd_31 dRd_gather_2 hz rfl rfl rfl rfl (Nat.le_of_ble_eq_true rfl) (Nat.le_of_ble_eq_true rfl) (by decide) (by have h0 := c_Sl_firstGood (E := E) hSl (x := x) hx; rw [hf] at h0; exact h0) rfl ?_
  refine mn_astore_nN (ls' := [(0, .ref rd), (1, .ref z), (2, .int (nI x)), (3, .null)]) dRd_gather_5 rfl (by decide) rfl ?_
  refine mn_aload_n 0 dRd_gather_6 rfl rfl ?_
  refine mn_aload_nN 3 dRd_gather_7 rfl rfl ?_
  refine mn_ifnullN 15 dRd_gather_8 (by decide) ?_
  refine mn_iconst (v := 0) dRd_gather_15 (by decide) ?_
  refine mn_putf okRd 3 lRd_37 (by decide) rfl hR rfl rfl (Nat.le_of_ble_eq_true rfl) dRd_gather_16 ?_
  obtain ⟨g1, eg1⟩ : ∃ gg_, gg_ = mn_set g rd (.inr (3, [.ref (rd + 1), .ref (rd + 5), .ref (rd + 6), .int 0, .int (nI sz), .int (nI rp), .int (nI pr), .int (nI ma)])) := ⟨_, rfl⟩
  refine mn_R.toG eg1 ?_
  have hR_g1 : mn_at g1 rd (.inr (3, [.ref (rd + 1), .ref (rd + 5), .ref (rd + 6), .int 0, .int (nI sz), .int (nI rp), .int (nI pr), .int (nI ma)])) := by rw [eg1]; exact hR.same
  have hz_g1 : mn_at g1 z (.inr (5, [.ref (z + 1)])) := by rw [eg1]; exact hz.off (by omega)
  have hSl_g1 : SlP g1 z pi ss sb := by rw [eg1]; exact hSl.fr (mn_fr_set (S := fun q => q = rd) rfl) (fun q q1 q2 h => by have h9 : q = rd := h; omega)
  refine mn_aload_nN 3 dRd_gather_19 rfl rfl ?_
  refine mn_ifnonnullN dRd_gather_20 ?_
  refine mn_bipush (v := (-2)) dRd_gather_23 (by decide) ?_
  exact mn_iret rfl dRd_gather_25 ⟨rfl, (mn_fr.rf.set eg1 (by show rd = rd; omega)), hR_g1⟩
set_option maxRecDepth 100000 in
theorem c_Rd_gather_zn {E : mn_En} {g : mn_H} {rd sz rp pr ma m w : Nat} {dn : Int32} {pb ln sn : Nat → Nat} {pl : Nat → Option Nat} {z ms : Nat} (hR : mn_at g rd (.inr (3, [.ref (rd + 1), .ref (rd + 5), .ref (rd + 6), .int dn, .int (nI sz), .int (nI rp), .int (nI pr), .int (nI ma)]))) (ha : mn_at g (rd + 1) (.inr (2, [.ref (rd + 1 + 3), .ref (rd + 1 + 1), .ref (rd + 1 + 2), .int (nI m), .int (nI w)]))) (hb : mn_at g (rd + 1 + 3) (.inl (0, 4080, .inl (fun j => nI (pb j))))) (hl : mn_at g (rd + 1 + 1) (.inl (0, 60, .inl (fun j => nI (ln j))))) (hs : mn_at g (rd + 1 + 2) (.inl (0, 60, .inl (fun j => nI (sn j))))) (hp : mn_at g (rd + 5) (.inl (0, 63, .inl (fun j => onI (pl j))))) (hm : m ≤ 60) (hw : sz = w + 12) (hw0 : 0 < w) (hsz : sz ≤ 80) (hmw : m * w ≤ 4080) (hm1 : 1 ≤ m) (hrp : rp ≤ 3) (hms : pr + ms = m) (hA : ms = 0 ∨ cnt (fun j => ¬ onI (pl (m + j)) = -2) rp < ms) : mn_R E MRd_gather 6 134 0 0 86 [(0, .ref rd), (1, .ref z)] [] g (mn_is (some (.int (nI (pr + ma)))) g) := by
  refine mn_aload_n 0 dRd_gather_86 rfl rfl ?_
  refine mn_aload_n 1 dRd_gather_87 rfl rfl ?_
  refine mn_cV (d' := 4) (w' := 95) (As := [.ref z]) (stk' := []) okRd_makeAgain lRd_62 dRd_gather_88 hR rfl rfl rfl rfl (Nat.le_of_ble_eq_true rfl) (Nat.le_of_ble_eq_true rfl) (by decide) (c_Rd_again_no hR ha hb hl hs hp hm hw hw0 hsz hmw hm1 hrp hms hA) rfl ?_
  refine mn_aload_n 0 dRd_gather_91 rfl rfl ?_
  refine mn_get okRd 6 lRd_66 (by decide) hR rfl dRd_gather_92 ?_
  refine mn_aload_n 0 dRd_gather_95 rfl rfl ?_
  refine mn_get okRd 7 lRd_70 (by decide) hR rfl dRd_gather_96 ?_
  refine mn_iadd (z := nI (pr + ma)) dRd_gather_99 (nI_add pr ma) ?_
  exact mn_iret rfl dRd_gather_100 ⟨rfl, rfl⟩
set_option maxRecDepth 100000 in
theorem c_Rd_gather_zy {E : mn_En} {g : mn_H} {rd sz rp pr ma m w : Nat} {dn : Int32} {pb ln sn : Nat → Nat} {pl : Nat → Option Nat} {z : Nat} {pi ss : Nat → Nat} {sb : Nat → Nat → Nat} {un gv : Nat} {rw : Nat → Nat → Nat} {nu : Nat → Nat} {ms : Nat} (hR : mn_at g rd (.inr (3, [.ref (rd + 1), .ref (rd + 5), .ref (rd + 6), .int dn, .int (nI sz), .int (nI rp), .int (nI pr), .int (nI ma)]))) (ha : mn_at g (rd + 1) (.inr (2, [.ref (rd + 1 + 3), .ref (rd + 1 + 1), .ref (rd + 1 + 2), .int (nI m), .int (nI w)]))) (hb : mn_at g (rd + 1 + 3) (.inl (0, 4080, .inl (fun j => nI (pb j))))) (hl : mn_at g (rd + 1 + 1) (.inl (0, 60, .inl (fun j => nI (ln j))))) (hs : mn_at g (rd + 1 + 2) (.inl (0, 60, .inl (fun j => nI (sn j))))) (hp : mn_at g (rd + 5) (.inl (0, 63, .inl (fun j => onI (pl j))))) (hE : EqP g (rd + 6) rw nu un gv) (hSl : SlP g z pi ss sb) (hm : m ≤ 60) (hw : sz = w + 12) (hw0 : 0 < w) (hsz : sz ≤ 80) (hmw : m * w ≤ 4080) (hm1 : 1 ≤ m) (hrp : rp ≤ 3) (hms : pr + ms = m) (hpb : ∀ j, pb j < 256) (hln : ∀ j, ln j < 256) (hsn : ∀ j, sn j < 256) (hsz20 : 20 ≤ sz) (hcm : cnt (fun j => pl j = none) m = ms) (hplk : ∀ j k, j < 63 → pl j = some k → k < 60 ∧ ss k = sz) (hrz : rd + 11 < z ∨ z + 121 < rd) (hms0 : ¬ ms = 0) (hms1 : ms ≤ cnt (fun j => ¬ onI (pl (m + j)) = -2) rp) : mn_R E MRd_gather 6 134 0 0 86 [(0, .ref rd), (1, .ref z)] [] g (fun x g' => x = some (.int (nI (pr + (ma + ms)))) ∧ mn_fr (fun q => q = rd ∨ q = rd + 1 + 1 ∨ q = rd + 1 + 2 ∨ q = rd + 1 + 3 ∨ (rd + 5 ≤ q ∧ q < rd + 12)) g g' ∧ mn_at g' rd (.inr (3, [.ref (rd + 1), .ref (rd + 5), .ref (rd + 6), .int dn, .int (nI sz), .int (nI rp), .int (nI pr), .int (nI (ma + ms))])) ∧ mn_at g' (rd + 1) (.inr (2, [.ref (rd + 1 + 3), .ref (rd + 1 + 1), .ref (rd + 1 + 2), .int (nI m), .int (nI w)])) ∧ mn_at g' (rd + 1 + 3) (.inl (0, 4080, .inl (fun j => nI ((tuB pb (unK nu pl m) w (fun u i => elO (rkS pl sb (unK nu pl m) ms ms pb ln sn w m sz rw rp).1 ms ms u (3 + i)) ms) j)))) ∧ mn_at g' (rd + 1 + 1) (.inl (0, 60, .inl (fun j => nI ((tuA ln (unK nu pl m) (fun v => (fun u i => elO (rkS pl sb (unK nu pl m) ms ms pb ln sn w m sz rw rp).1 ms ms u (3 + i)) v 6) ms) j)))) ∧ mn_at g' (rd + 1 + 2) (.inl (0, 60, .inl (fun j => nI ((tuA sn (unK nu pl m) (fun v => (fun u i => elO (rkS pl sb (unK nu pl m) ms ms pb ln sn w m sz rw rp).1 ms ms u (3 + i)) v 7) ms) j)))) ∧ mn_at g' (rd + 5) (.inl (0, 63, .inl (fun j => onI ((tuP pl (unK nu pl m) ms) j)))) ∧ ∃ (r9 : Nat → Nat → Nat) (n9 : Nat → Nat) (u9 v9 : Nat), EqP g' (rd + 6) r9 n9 u9 v9) := by
  refine mn_aload_n 0 dRd_gather_86 rfl rfl ?_
  refine mn_aload_n 1 dRd_gather_87 rfl rfl ?_
  refine mn_callV (d' := 4) (w' := 95) (nc' := 0) (ns' := 0) (As := [.ref z]) (st := []) okRd_makeAgain lRd_62 dRd_gather_88 hR rfl rfl rfl rfl (Nat.le_of_ble_eq_true rfl) (Nat.le_of_ble_eq_true rfl) (by decide) (c_Rd_again hR ha hb hl hs hp hE hSl hm hw hw0 hsz hmw hm1 hrp hms hpb hln hsn hsz20 hcm hplk hrz hms0 hms1) (fun v g1 hq => ?_)
  obtain ⟨rfl, fg1, t1, t2, t3, t4, t5, t6, t7⟩ := hq
  show mn_R E MRd_gather 6 134 _ _ 91 [(0, .ref rd), (1, .ref z)] [] g1 _
  refine mn_aload_n 0 dRd_gather_91 rfl rfl ?_
  refine mn_get okRd 6 lRd_66 (by decide) t1 rfl dRd_gather_92 ?_
  refine mn_aload_n 0 dRd_gather_95 rfl rfl ?_
  refine mn_get okRd 7 lRd_70 (by decide) t1 rfl dRd_gather_96 ?_
  refine mn_iadd (z := nI (pr + (ma + ms))) dRd_gather_99 (nI_add pr (ma + ms)) ?_
  exact mn_iret rfl dRd_gather_100 ⟨rfl, fg1, t1, t2, t3, t4, t5, t6, t7⟩
set_option maxRecDepth 100000 in
theorem c_Rd_gather_l {E : mn_En} {g : mn_H} {rd rp m w x f : Nat} {z : Nat} {pi ss : Nat → Nat} {sb : Nat → Nat → Nat} {un gv : Nat} {rw : Nat → Nat → Nat} {nu : Nat → Nat} {Q : Option Value → mn_H → Prop} (hx : x < 256) (hff : f < 60) (em : sb f 4 = m) (er : sb f 5 = rp) (es : ss f = w + 12) (hm : m ≤ 60) (hm1 : 1 ≤ m) (hrp : rp ≤ 3) (hw0 : 0 < w) (hw68 : w ≤ 68) (hmw : m * w ≤ 4080) (hrz : rd + 11 < z ∨ z + 121 < rd) (KK : ∀ g1, mn_fr (fun q => rd ≤ q ∧ q < rd + 12) g g1 → mn_at g1 rd (.inr (3, [.ref (rd + 1), .ref (rd + 5), .ref (rd + 6), .int 1, .int (nI (w + 12)), .int (nI rp), .int (nI (cnt (fun j => plK ss sb x f 60 j ≠ none) m)), .int 0])) → mn_at g1 (rd + 1) (.inr (2, [.ref (rd + 1 + 3), .ref (rd + 1 + 1), .ref (rd + 1 + 2), .int (nI m), .int (nI w)])) → mn_at g1 (rd + 1 + 3) (.inl (0, 4080, .inl (fun j => nI ((gB m w (plK ss sb x f 60) sb) j)))) → mn_at g1 (rd + 1 + 1) (.inl (0, 60, .inl (fun j => nI ((gL m (plK ss sb x f 60) sb) j)))) → mn_at g1 (rd + 1 + 2) (.inl (0, 60, .inl (fun j => nI ((gS m (plK ss sb x f 60) sb) j)))) → mn_at g1 (rd + 5) (.inl (0, 63, .inl (fun j => onI ((plK ss sb x f 60) j)))) → EqP g1 (rd + 6) rw nu un gv → SlP g1 z pi ss sb → mn_R E MRd_gather 6 134 0 0 86 [(0, .ref rd), (1, .ref z)] [] g1 Q) : ∀ (fu i : Nat) (g0 : mn_H), i ≤ 60 → 60 - i < fu → mn_fr (fun q => rd ≤ q ∧ q < rd + 12) g g0 → mn_at g0 rd (.inr (3, [.ref (rd + 1), .ref (rd + 5), .ref (rd + 6), .int 1, .int (nI (w + 12)), .int (nI rp), .int (nI (cnt (fun j => plK ss sb x f i j ≠ none) m)), .int 0])) → mn_at g0 (rd + 1) (.inr (2, [.ref (rd + 1 + 3), .ref (rd + 1 + 1), .ref (rd + 1 + 2), .int (nI m), .int (nI w)])) → mn_at g0 (rd + 1 + 3) (.inl (0, 4080, .inl (fun j => nI ((gB m w (plK ss sb x f i) sb) j)))) → mn_at g0 (rd + 1 + 1) (.inl (0, 60, .inl (fun j => nI ((gL m (plK ss sb x f i) sb) j)))) → mn_at g0 (rd + 1 + 2) (.inl (0, 60, .inl (fun j => nI ((gS m (plK ss sb x f i) sb) j)))) → mn_at g0 (rd + 5) (.inl (0, 63, .inl (fun j => onI ((plK ss sb x f i) j)))) → EqP g0 (rd + 6) rw nu un gv → SlP g0 z pi ss sb → mn_R E MRd_gather 6 134 0 0 34 [(0, .ref rd), (1, .ref z), (2, .int (nI x)), (3, .ref (z + 2 + 2 * pi f)), (4, .int (nI i))] [] g0 (Q) := by
  intro fu
  induction fu with
  | zero => intro i g0 h1 h2; exact absurd h2 (by omega)
  | succ fu ih =>
    intro i g0 h1 h2 hfr hR ha hb hl hs hp hE hSl
    have hz := hSl.1
    have hssi := hSl.2.2.2.2.2.1 i
    have hssf := hSl.2.2.2.2.2.1 f
    have hcn := cnt_le (fun j => plK ss sb x f i j ≠ none) m
    refine mn_iload 4 dRd_gather_34 rfl ?_
    refine mn_bipush (v := 60) dRd_gather_36 (by decide) ?_
    refine mn_icmp_ge 86 dRd_gather_38 (by decide) (fun c1 => ?_) (fun c1 => ?_)
    · have c1 := (nI_leI (a := 60) (b := i) (by omega) (by omega)).mp c1
      refine mn_R.sub [0, 1] (ls' := [(0, .ref rd), (1, .ref z)]) rfl ?_
      obtain rfl : i = 60 := (by omega)
      exact KK g0 hfr hR ha hb hl hs hp hE hSl
    · have c1 := mt (nI_leI (a := 60) (b := i) (by omega) (by omega)).mpr c1
      have hpii := hSl.2.2.2.1 i (by omega)
      have hpif := hSl.2.2.2.1 f hff
      have ho := (hSl.2.2.1 i (by omega)).1
      have hr := (hSl.2.2.1 i (by omega)).2
      have hfo := (hSl.2.2.1 f (by omega)).1
      have hfq := (hSl.2.2.1 f (by omega)).2
      refine mn_aload_n 1 dRd_gather_41 rfl rfl ?_
      refine mn_iload 4 dRd_gather_42 rfl ?_
      refine mn_cV (d' := 0) (w' := 0) (As := [.int (nI i)]) (stk' := [.ref (z + 2 + 2 * pi i)]) okSl_at lRd_45 dRd_gather_44 hz rfl rfl rfl rfl (Nat.le_of_ble_eq_true rfl) (Nat.le_of_ble_eq_true rfl) (by decide) (c_Sl_at hSl (i := i) (by omega)) rfl ?_
      refine mn_astore (ls' := [(0, .ref rd), (1, .ref z), (2, .int (nI x)), (3, .ref (z + 2 + 2 * pi f)), (4, .int (nI i)), (5, .ref (z + 2 + 2 * pi i))]) dRd_gather_47 (by decide) rfl ?_
      refine mn_aload 5 dRd_gather_49 rfl ?_
      refine mn_ifnull dRd_gather_51 ?_
      refine mn_aload 5 dRd_gather_54 rfl ?_
      refine mn_iload_n 2 dRd_gather_56 rfl rfl ?_
      refine mn_cV (d' := 4) (w' := 91) (As := [.int (nI x)]) (stk' := [.int (gdV (fun j => nI (sb i j)) (ss i) (nI x))]) okVo_isGoodOf lRd_48 dRd_gather_57 ho rfl rfl rfl rfl (Nat.le_of_ble_eq_true rfl) (Nat.le_of_ble_eq_true rfl) (by decide) (c_V_isGoodOf ho hr (by omega)) rfl ?_
      refine mn_if_eq 80 dRd_gather_60 (by decide) (fun c2 => ?_) (fun c2 => ?_)
      · refine mn_iinc (v := nI (i + 1)) (ls' := [(0, .ref rd), (1, .ref z), (2, .int (nI x)), (3, .ref (z + 2 + 2 * pi f)), (4, .int (nI (i + 1))), (5, .ref (z + 2 + 2 * pi i))]) 4 dRd_gather_80 rfl (nI_add i 1) (by decide) rfl ?_
        refine mn_goto 34 dRd_gather_83 (by decide) ?_
        refine mn_R.sub [0, 1, 2, 3, 4] (ls' := [(0, .ref rd), (1, .ref z), (2, .int (nI x)), (3, .ref (z + 2 + 2 * pi f)), (4, .int (nI (i + 1)))]) rfl ?_
        have hpe : plK ss sb x f (i + 1) = plK ss sb x f i := plK_n (fun q => (gd_nI (hSl.2.2.2.2.2.2 i) (ss i) hx).mp c2 q.1.1)
        exact ih (i + 1) g0 (by omega) (by omega) hfr (by rw [hpe]; exact hR) ha (by rw [hpe]; exact hb) (by rw [hpe]; exact hl) (by rw [hpe]; exact hs) (by rw [hpe]; exact hp) hE hSl
      · refine mn_aload 5 dRd_gather_63 rfl ?_
        refine mn_aload_n 3 dRd_gather_65 rfl rfl ?_
        refine mn_cV (d' := 1) (w' := 21) (As := [.ref (z + 2 + 2 * pi f)]) (stk' := [.int (wmV (ss i) (ss f) (fun j => nI (sb i j)) (fun j => nI (sb f j)))]) okVo_isAsWideAndManyAs lRd_54 dRd_gather_66 ho rfl rfl rfl rfl (Nat.le_of_ble_eq_true rfl) (Nat.le_of_ble_eq_true rfl) (by decide) (c_V_wm ho hr hfo hfq (by omega) (by omega)) rfl ?_
        refine mn_if_eq 80 dRd_gather_69 (by decide) (fun c3 => ?_) (fun c3 => ?_)
        · refine mn_iinc (v := nI (i + 1)) (ls' := [(0, .ref rd), (1, .ref z), (2, .int (nI x)), (3, .ref (z + 2 + 2 * pi f)), (4, .int (nI (i + 1))), (5, .ref (z + 2 + 2 * pi i))]) 4 dRd_gather_80 rfl (nI_add i 1) (by decide) rfl ?_
          refine mn_goto 34 dRd_gather_83 (by decide) ?_
          refine mn_R.sub [0, 1, 2, 3, 4] (ls' := [(0, .ref rd), (1, .ref z), (2, .int (nI x)), (3, .ref (z + 2 + 2 * pi f)), (4, .int (nI (i + 1)))]) rfl ?_
          have hpe : plK ss sb x f (i + 1) = plK ss sb x f i := plK_n (fun q => (wm_nI (hSl.2.2.2.2.2.2 i) (hSl.2.2.2.2.2.2 f)).mp c3 q.1.2)
          exact ih (i + 1) g0 (by omega) (by omega) hfr (by rw [hpe]; exact hR) ha (by rw [hpe]; exact hb) (by rw [hpe]; exact hl) (by rw [hpe]; exact hs) (by rw [hpe]; exact hp) hE hSl
        · have hgd : sb i 2 = x ∧ stN (sb i) (ss i) = 1 := Classical.byContradiction fun q => c2 ((gd_nI (hSl.2.2.2.2.2.2 i) (ss i) hx).mpr q)
          have hwm : ss i = ss f ∧ sb i 4 = sb f 4 ∧ sb i 5 = sb f 5 := Classical.byContradiction fun q => c3 ((wm_nI (hSl.2.2.2.2.2.2 i) (hSl.2.2.2.2.2.2 f)).mpr q)
          have htk : tkC ss sb x f i := ⟨hgd, hwm⟩
          have hhd := (stN_hd hgd.2).2.2.2.2.2.2.2
          have h363 : sb i 3 < 63 := by omega
          by_cases hpl : onI (plK ss sb x f i (sb i 3)) = -2
          · have hpn : plK ss sb x f i (sb i 3) = none := (onI_e (fun q hq => by have h7 := (plK_lt h363 hq).1; omega)).mp hpl
            by_cases hnm : sb i 3 < m
            · refine mn_aload_n 0 dRd_gather_72 rfl rfl ?_
              refine mn_aload 5 dRd_gather_73 rfl ?_
              refine mn_iload 4 dRd_gather_75 rfl ?_
              refine mn_callV (d' := 2) (w' := 45) (nc' := 0) (ns' := 0) (As := [.ref (z + 2 + 2 * pi i), .int (nI i)]) (st := []) okRd_take lRd_58 dRd_gather_77 hR rfl rfl rfl rfl (Nat.le_of_ble_eq_true rfl) (Nat.le_of_ble_eq_true rfl) (by decide) (c_Rd_take_new hR ha hb hl hs hp ho hr (k := i) (by omega) rfl hw0 (by omega) hmw (by omega) h363 hpl hnm) (fun v g4 hq => ?_)
              obtain ⟨rfl, fg4, hR_g4, ha_g4, hb_g4, hl_g4, hs_g4, hp_g4⟩ := hq
              have hR_g4 : mn_at g4 rd (.inr (3, [.ref (rd + 1), .ref (rd + 5), .ref (rd + 6), .int 1, .int (nI (w + 12)), .int (nI rp), .int (nI (cnt (fun j => plK ss sb x f i j ≠ none) m + 1)), .int 0])) := hR_g4
              have ha_g4 : mn_at g4 (rd + 1) (.inr (2, [.ref (rd + 1 + 3), .ref (rd + 1 + 1), .ref (rd + 1 + 2), .int (nI m), .int (nI w)])) := ha_g4
              have hb_g4 : mn_at g4 (rd + 1 + 3) (.inl (0, 4080, .inl (fun j => nI ((tkB (gB m w (plK ss sb x f i) sb) (sb i 3) w (w + 12) (sb i)) j)))) := hb_g4
              have hl_g4 : mn_at g4 (rd + 1 + 1) (.inl (0, 60, .inl (fun j => nI ((tkL (gL m (plK ss sb x f i) sb) (sb i 3) (w + 12) (sb i)) j)))) := hl_g4
              have hs_g4 : mn_at g4 (rd + 1 + 2) (.inl (0, 60, .inl (fun j => nI ((tkS (gS m (plK ss sb x f i) sb) (sb i 3) (w + 12) (sb i)) j)))) := hs_g4
              have hp_g4 : mn_at g4 (rd + 5) (.inl (0, 63, .inl (fun j => onI ((va_up (plK ss sb x f i) (sb i 3) (some i)) j)))) := hp_g4
              show mn_R E MRd_gather 6 134 _ _ 80 [(0, .ref rd), (1, .ref z), (2, .int (nI x)), (3, .ref (z + 2 + 2 * pi f)), (4, .int (nI i)), (5, .ref (z + 2 + 2 * pi i))] [] g4 _
              have hz_g4 := hz.fr fg4 (fun h => by have h9 : z = rd ∨ z = rd + 1 + 1 ∨ z = rd + 1 + 2 ∨ z = rd + 1 + 3 ∨ z = rd + 5 := h; omega)
              have ho_g4 := ho.fr fg4 (fun h => by have h9 : (z + 2 + 2 * pi i) = rd ∨ (z + 2 + 2 * pi i) = rd + 1 + 1 ∨ (z + 2 + 2 * pi i) = rd + 1 + 2 ∨ (z + 2 + 2 * pi i) = rd + 1 + 3 ∨ (z + 2 + 2 * pi i) = rd + 5 := h; omega)
              have hr_g4 := hr.fr fg4 (fun h => by have h9 : (z + 2 + 2 * pi i + 1) = rd ∨ (z + 2 + 2 * pi i + 1) = rd + 1 + 1 ∨ (z + 2 + 2 * pi i + 1) = rd + 1 + 2 ∨ (z + 2 + 2 * pi i + 1) = rd + 1 + 3 ∨ (z + 2 + 2 * pi i + 1) = rd + 5 := h; omega)
              have hfo_g4 := hfo.fr fg4 (fun h => by have h9 : (z + 2 + 2 * pi f) = rd ∨ (z + 2 + 2 * pi f) = rd + 1 + 1 ∨ (z + 2 + 2 * pi f) = rd + 1 + 2 ∨ (z + 2 + 2 * pi f) = rd + 1 + 3 ∨ (z + 2 + 2 * pi f) = rd + 5 := h; omega)
              have hfq_g4 := hfq.fr fg4 (fun h => by have h9 : (z + 2 + 2 * pi f + 1) = rd ∨ (z + 2 + 2 * pi f + 1) = rd + 1 + 1 ∨ (z + 2 + 2 * pi f + 1) = rd + 1 + 2 ∨ (z + 2 + 2 * pi f + 1) = rd + 1 + 3 ∨ (z + 2 + 2 * pi f + 1) = rd + 5 := h; omega)
              have hE_g4 : EqP g4 (rd + 6) rw nu un gv := hE.fr fg4 (fun q q1 q2 h => by have h9 : q = rd ∨ q = rd + 1 + 1 ∨ q = rd + 1 + 2 ∨ q = rd + 1 + 3 ∨ q = rd + 5 := h; omega)
              have hSl_g4 : SlP g4 z pi ss sb := hSl.fr fg4 (fun q q1 q2 h => by have h9 : q = rd ∨ q = rd + 1 + 1 ∨ q = rd + 1 + 2 ∨ q = rd + 1 + 3 ∨ q = rd + 5 := h; omega)
              refine mn_iinc (v := nI (i + 1)) (ls' := [(0, .ref rd), (1, .ref z), (2, .int (nI x)), (3, .ref (z + 2 + 2 * pi f)), (4, .int (nI (i + 1))), (5, .ref (z + 2 + 2 * pi i))]) 4 dRd_gather_80 rfl (nI_add i 1) (by decide) rfl ?_
              refine mn_goto 34 dRd_gather_83 (by decide) ?_
              refine mn_R.sub [0, 1, 2, 3, 4] (ls' := [(0, .ref rd), (1, .ref z), (2, .int (nI x)), (3, .ref (z + 2 + 2 * pi f)), (4, .int (nI (i + 1)))]) rfl ?_
              have hpe := plK_y htk hpn
              exact ih (i + 1) g4 (by omega) (by omega) (hfr.tr (fg4.mo (fun q h => by have h9 : q = rd ∨ q = rd + 1 + 1 ∨ q = rd + 1 + 2 ∨ q = rd + 1 + 3 ∨ q = rd + 5 := h; show rd ≤ q ∧ q < rd + 12; omega))) (by rw [hpe, cnt_in hpn hnm]; exact hR_g4) ha_g4 (by rw [hpe, ← gB_in _ _ hw0 hnm]; exact hb_g4) (by rw [hpe, ← gL_in _ _ hnm (w + 12) (by omega)]; exact hl_g4) (by rw [hpe, ← gS_in _ _ hnm (w + 12) (by omega)]; exact hs_g4) (by rw [hpe]; exact hp_g4) hE_g4 hSl_g4
            · refine mn_aload_n 0 dRd_gather_72 rfl rfl ?_
              refine mn_aload 5 dRd_gather_73 rfl ?_
              refine mn_iload 4 dRd_gather_75 rfl ?_
              refine mn_callV (d' := 2) (w' := 45) (nc' := 0) (ns' := 0) (As := [.ref (z + 2 + 2 * pi i), .int (nI i)]) (st := []) okRd_take lRd_58 dRd_gather_77 hR rfl rfl rfl rfl (Nat.le_of_ble_eq_true rfl) (Nat.le_of_ble_eq_true rfl) (by decide) (c_Rd_take_rep hR ha hb hl hs hp ho hr (k := i) (by omega) rfl hw0 (by omega) hmw (by omega) h363 hpl (by omega)) (fun v g5 hq => ?_)
              obtain ⟨rfl, fg5, hR_g5, ha_g5, hb_g5, hl_g5, hs_g5, hp_g5⟩ := hq
              have hR_g5 : mn_at g5 rd (.inr (3, [.ref (rd + 1), .ref (rd + 5), .ref (rd + 6), .int 1, .int (nI (w + 12)), .int (nI rp), .int (nI (cnt (fun j => plK ss sb x f i j ≠ none) m)), .int 0])) := hR_g5
              have ha_g5 : mn_at g5 (rd + 1) (.inr (2, [.ref (rd + 1 + 3), .ref (rd + 1 + 1), .ref (rd + 1 + 2), .int (nI m), .int (nI w)])) := ha_g5
              have hb_g5 : mn_at g5 (rd + 1 + 3) (.inl (0, 4080, .inl (fun j => nI ((gB m w (plK ss sb x f i) sb) j)))) := hb_g5
              have hl_g5 : mn_at g5 (rd + 1 + 1) (.inl (0, 60, .inl (fun j => nI ((gL m (plK ss sb x f i) sb) j)))) := hl_g5
              have hs_g5 : mn_at g5 (rd + 1 + 2) (.inl (0, 60, .inl (fun j => nI ((gS m (plK ss sb x f i) sb) j)))) := hs_g5
              have hp_g5 : mn_at g5 (rd + 5) (.inl (0, 63, .inl (fun j => onI ((va_up (plK ss sb x f i) (sb i 3) (some i)) j)))) := hp_g5
              show mn_R E MRd_gather 6 134 _ _ 80 [(0, .ref rd), (1, .ref z), (2, .int (nI x)), (3, .ref (z + 2 + 2 * pi f)), (4, .int (nI i)), (5, .ref (z + 2 + 2 * pi i))] [] g5 _
              have hz_g5 := hz.fr fg5 (fun h => by have h9 : z = rd ∨ z = rd + 1 + 1 ∨ z = rd + 1 + 2 ∨ z = rd + 1 + 3 ∨ z = rd + 5 := h; omega)
              have ho_g5 := ho.fr fg5 (fun h => by have h9 : (z + 2 + 2 * pi i) = rd ∨ (z + 2 + 2 * pi i) = rd + 1 + 1 ∨ (z + 2 + 2 * pi i) = rd + 1 + 2 ∨ (z + 2 + 2 * pi i) = rd + 1 + 3 ∨ (z + 2 + 2 * pi i) = rd + 5 := h; omega)
              have hr_g5 := hr.fr fg5 (fun h => by have h9 : (z + 2 + 2 * pi i + 1) = rd ∨ (z + 2 + 2 * pi i + 1) = rd + 1 + 1 ∨ (z + 2 + 2 * pi i + 1) = rd + 1 + 2 ∨ (z + 2 + 2 * pi i + 1) = rd + 1 + 3 ∨ (z + 2 + 2 * pi i + 1) = rd + 5 := h; omega)
              have hfo_g5 := hfo.fr fg5 (fun h => by have h9 : (z + 2 + 2 * pi f) = rd ∨ (z + 2 + 2 * pi f) = rd + 1 + 1 ∨ (z + 2 + 2 * pi f) = rd + 1 + 2 ∨ (z + 2 + 2 * pi f) = rd + 1 + 3 ∨ (z + 2 + 2 * pi f) = rd + 5 := h; omega)
              have hfq_g5 := hfq.fr fg5 (fun h => by have h9 : (z + 2 + 2 * pi f + 1) = rd ∨ (z + 2 + 2 * pi f + 1) = rd + 1 + 1 ∨ (z + 2 + 2 * pi f + 1) = rd + 1 + 2 ∨ (z + 2 + 2 * pi f + 1) = rd + 1 + 3 ∨ (z + 2 + 2 * pi f + 1) = rd + 5 := h; omega)
              have hE_g5 : EqP g5 (rd + 6) rw nu un gv := hE.fr fg5 (fun q q1 q2 h => by have h9 : q = rd ∨ q = rd + 1 + 1 ∨ q = rd + 1 + 2 ∨ q = rd + 1 + 3 ∨ q = rd + 5 := h; omega)
              have hSl_g5 : SlP g5 z pi ss sb := hSl.fr fg5 (fun q q1 q2 h => by have h9 : q = rd ∨ q = rd + 1 + 1 ∨ q = rd + 1 + 2 ∨ q = rd + 1 + 3 ∨ q = rd + 5 := h; omega)
              refine mn_iinc (v := nI (i + 1)) (ls' := [(0, .ref rd), (1, .ref z), (2, .int (nI x)), (3, .ref (z + 2 + 2 * pi f)), (4, .int (nI (i + 1))), (5, .ref (z + 2 + 2 * pi i))]) 4 dRd_gather_80 rfl (nI_add i 1) (by decide) rfl ?_
              refine mn_goto 34 dRd_gather_83 (by decide) ?_
              refine mn_R.sub [0, 1, 2, 3, 4] (ls' := [(0, .ref rd), (1, .ref z), (2, .int (nI x)), (3, .ref (z + 2 + 2 * pi f)), (4, .int (nI (i + 1)))]) rfl ?_
              have hpe := plK_y htk hpn
              exact ih (i + 1) g5 (by omega) (by omega) (hfr.tr (fg5.mo (fun q h => by have h9 : q = rd ∨ q = rd + 1 + 1 ∨ q = rd + 1 + 2 ∨ q = rd + 1 + 3 ∨ q = rd + 5 := h; show rd ≤ q ∧ q < rd + 12; omega))) (by rw [hpe, cnt_out (by omega)]; exact hR_g5) ha_g5 (by rw [hpe, gB_out _ _ hw0 (by omega)]; exact hb_g5) (by rw [hpe, gL_out _ _ (by omega)]; exact hl_g5) (by rw [hpe, gS_out _ _ (by omega)]; exact hs_g5) (by rw [hpe]; exact hp_g5) hE_g5 hSl_g5
          · have hpn : ¬ plK ss sb x f i (sb i 3) = none := fun q => hpl (by rw [q]; rfl)
            refine mn_aload_n 0 dRd_gather_72 rfl rfl ?_
            refine mn_aload 5 dRd_gather_73 rfl ?_
            refine mn_iload 4 dRd_gather_75 rfl ?_
            refine mn_cV (d' := 2) (w' := 45) (As := [.ref (z + 2 + 2 * pi i), .int (nI i)]) (stk' := []) okRd_take lRd_58 dRd_gather_77 hR rfl rfl rfl rfl (Nat.le_of_ble_eq_true rfl) (Nat.le_of_ble_eq_true rfl) (by decide) (c_Rd_take_old hR ha hb hl hs hp ho hr (k := i) (by omega) rfl hw0 (by omega) hmw (by omega) h363 hpl) rfl ?_
            refine mn_iinc (v := nI (i + 1)) (ls' := [(0, .ref rd), (1, .ref z), (2, .int (nI x)), (3, .ref (z + 2 + 2 * pi f)), (4, .int (nI (i + 1))), (5, .ref (z + 2 + 2 * pi i))]) 4 dRd_gather_80 rfl (nI_add i 1) (by decide) rfl ?_
            refine mn_goto 34 dRd_gather_83 (by decide) ?_
            refine mn_R.sub [0, 1, 2, 3, 4] (ls' := [(0, .ref rd), (1, .ref z), (2, .int (nI x)), (3, .ref (z + 2 + 2 * pi f)), (4, .int (nI (i + 1)))]) rfl ?_
            have hpe : plK ss sb x f (i + 1) = plK ss sb x f i := plK_n (fun q => hpn q.2)
            exact ih (i + 1) g0 (by omega) (by omega) hfr (by rw [hpe]; exact hR) ha (by rw [hpe]; exact hb) (by rw [hpe]; exact hl) (by rw [hpe]; exact hs) (by rw [hpe]; exact hp) hE hSl
set_option maxRecDepth 100000 in
theorem c_Rd_gather_k {E : mn_En} {g : mn_H} {rd rp m w x f : Nat} {z : Nat} {pi ss : Nat → Nat} {sb : Nat → Nat → Nat} {un gv : Nat} {rw : Nat → Nat → Nat} {nu : Nat → Nat} {Q : Option Value → mn_H → Prop} (hx : x < 256) (hff : f < 60) (em : sb f 4 = m) (er : sb f 5 = rp) (es : ss f = w + 12) (hm : m ≤ 60) (hm1 : 1 ≤ m) (hrp : rp ≤ 3) (hw0 : 0 < w) (hw68 : w ≤ 68) (hmw : m * w ≤ 4080) (hrz : rd + 11 < z ∨ z + 121 < rd) {sz0 rp0 pr0 ma0 m0 w0 : Nat} {dn : Int32} {pb ln sn : Nat → Nat} {pl : Nat → Option Nat} (hR : mn_at g rd (.inr (3, [.ref (rd + 1), .ref (rd + 5), .ref (rd + 6), .int dn, .int (nI sz0), .int (nI rp0), .int (nI pr0), .int (nI ma0)]))) (ha : mn_at g (rd + 1) (.inr (2, [.ref (rd + 1 + 3), .ref (rd + 1 + 1), .ref (rd + 1 + 2), .int (nI m0), .int (nI w0)]))) (hb : mn_at g (rd + 1 + 3) (.inl (0, 4080, .inl (fun j => nI (pb j))))) (hl : mn_at g (rd + 1 + 1) (.inl (0, 60, .inl (fun j => nI (ln j))))) (hs : mn_at g (rd + 1 + 2) (.inl (0, 60, .inl (fun j => nI (sn j))))) (hp : mn_at g (rd + 5) (.inl (0, 63, .inl (fun j => onI (pl j))))) (hE : EqP g (rd + 6) rw nu un gv) (hSl : SlP g z pi ss sb) (hbz : ∀ j, 4080 ≤ j → pb j = 0) (hlz : ∀ j, 60 ≤ j → ln j = 0) (hsz0 : ∀ j, 60 ≤ j → sn j = 0) (hpz : ∀ j, 63 ≤ j → pl j = some 0) (hf : fst' (fun k => sb k 2 = x ∧ stN (sb k) (ss k) = 1) 60 60 = some f) (KK : ∀ g1, mn_fr (fun q => rd ≤ q ∧ q < rd + 12) g g1 → mn_at g1 rd (.inr (3, [.ref (rd + 1), .ref (rd + 5), .ref (rd + 6), .int 1, .int (nI (w + 12)), .int (nI rp), .int (nI (cnt (fun j => plK ss sb x f 60 j ≠ none) m)), .int 0])) → mn_at g1 (rd + 1) (.inr (2, [.ref (rd + 1 + 3), .ref (rd + 1 + 1), .ref (rd + 1 + 2), .int (nI m), .int (nI w)])) → mn_at g1 (rd + 1 + 3) (.inl (0, 4080, .inl (fun j => nI ((gB m w (plK ss sb x f 60) sb) j)))) → mn_at g1 (rd + 1 + 1) (.inl (0, 60, .inl (fun j => nI ((gL m (plK ss sb x f 60) sb) j)))) → mn_at g1 (rd + 1 + 2) (.inl (0, 60, .inl (fun j => nI ((gS m (plK ss sb x f 60) sb) j)))) → mn_at g1 (rd + 5) (.inl (0, 63, .inl (fun j => onI ((plK ss sb x f 60) j)))) → EqP g1 (rd + 6) rw nu un gv → SlP g1 z pi ss sb → mn_R E MRd_gather 6 134 0 0 86 [(0, .ref rd), (1, .ref z)] [] g1 Q) : mn_R E MRd_gather 6 134 0 0 0 [(0, .ref rd), (1, .ref z), (2, .int (nI x))] [] g (Q) := by
  have hz := hSl.1
  have hssf := hSl.2.2.2.2.2.1 f
  have hpif := hSl.2.2.2.1 f hff
  refine mn_aload_n 1 dRd_gather_0 rfl rfl ?_
  refine mn_iload_n 2 dRd_gather_1 rfl rfl ?_
  refine mn_cV (d' := 5) (w' := 112) (As := [.int (nI x)]) (stk' := [.ref (z + 2 + 2 * pi f)]) okSl_firstGood lRd_31 dRd_gather_2 hz rfl rfl rfl rfl (Nat.le_of_ble_eq_true rfl) (Nat.le_of_ble_eq_true rfl) (by decide) (by have h0 := c_Sl_firstGood (E := E) hSl (x := x) hx; rw [hf] at h0; exact h0) rfl ?_
  have hfo := (hSl.2.2.1 f (by omega)).1
  have hfq := (hSl.2.2.1 f (by omega)).2
  refine mn_astore_n (ls' := [(0, .ref rd), (1, .ref z), (2, .int (nI x)), (3, .ref (z + 2 + 2 * pi f))]) dRd_gather_5 rfl (by decide) rfl ?_
  refine mn_aload_n 0 dRd_gather_6 rfl rfl ?_
  refine mn_aload_n 3 dRd_gather_7 rfl rfl ?_
  refine mn_ifnull dRd_gather_8 ?_
  refine mn_iconst (v := 1) dRd_gather_11 (by decide) ?_
  refine mn_goto 16 dRd_gather_12 (by decide) ?_
  refine mn_putf okRd 3 lRd_37 (by decide) rfl hR rfl rfl (Nat.le_of_ble_eq_true rfl) dRd_gather_16 ?_
  obtain ⟨g1, eg1⟩ : ∃ gg_, gg_ = mn_set g rd (.inr (3, [.ref (rd + 1), .ref (rd + 5), .ref (rd + 6), .int 1, .int (nI sz0), .int (nI rp0), .int (nI pr0), .int (nI ma0)])) := ⟨_, rfl⟩
  refine mn_R.toG eg1 ?_
  have hR_g1 : mn_at g1 rd (.inr (3, [.ref (rd + 1), .ref (rd + 5), .ref (rd + 6), .int 1, .int (nI sz0), .int (nI rp0), .int (nI pr0), .int (nI ma0)])) := by rw [eg1]; exact hR.same
  have ha_g1 : mn_at g1 (rd + 1) (.inr (2, [.ref (rd + 1 + 3), .ref (rd + 1 + 1), .ref (rd + 1 + 2), .int (nI m0), .int (nI w0)])) := by rw [eg1]; exact ha.off (by omega)
  have hb_g1 : mn_at g1 (rd + 1 + 3) (.inl (0, 4080, .inl (fun j => nI (pb j)))) := by rw [eg1]; exact hb.off (by omega)
  have hl_g1 : mn_at g1 (rd + 1 + 1) (.inl (0, 60, .inl (fun j => nI (ln j)))) := by rw [eg1]; exact hl.off (by omega)
  have hs_g1 : mn_at g1 (rd + 1 + 2) (.inl (0, 60, .inl (fun j => nI (sn j)))) := by rw [eg1]; exact hs.off (by omega)
  have hp_g1 : mn_at g1 (rd + 5) (.inl (0, 63, .inl (fun j => onI (pl j)))) := by rw [eg1]; exact hp.off (by omega)
  have hz_g1 : mn_at g1 z (.inr (5, [.ref (z + 1)])) := by rw [eg1]; exact hz.off (by omega)
  have hfo_g1 : mn_at g1 (z + 2 + 2 * pi f) (.inr (8, [.ref (z + 2 + 2 * pi f + 1), .int (nI (ss f))])) := by rw [eg1]; exact hfo.off (by omega)
  have hfq_g1 : mn_at g1 (z + 2 + 2 * pi f + 1) (.inl (0, 80, .inl (fun j => nI (sb f j)))) := by rw [eg1]; exact hfq.off (by omega)
  have hE_g1 : EqP g1 (rd + 6) rw nu un gv := by rw [eg1]; exact hE.fr (mn_fr_set (S := fun q => q = rd) rfl) (fun q q1 q2 h => by have h9 : q = rd := h; omega)
  have hSl_g1 : SlP g1 z pi ss sb := by rw [eg1]; exact hSl.fr (mn_fr_set (S := fun q => q = rd) rfl) (fun q q1 q2 h => by have h9 : q = rd := h; omega)
  refine mn_aload_n 3 dRd_gather_19 rfl rfl ?_
  refine mn_ifnonnull 26 dRd_gather_20 (by decide) ?_
  refine mn_aload_n 0 dRd_gather_26 rfl rfl ?_
  refine mn_aload_n 3 dRd_gather_27 rfl rfl ?_
  refine mn_callV (d' := 2) (w' := 43) (nc' := 0) (ns' := 0) (As := [.ref (z + 2 + 2 * pi f)]) (st := []) okRd_begin lRd_41 dRd_gather_28 hR_g1 rfl rfl rfl rfl (Nat.le_of_ble_eq_true rfl) (Nat.le_of_ble_eq_true rfl) (by decide) (c_Rd_begin hR_g1 ha_g1 hb_g1 hl_g1 hs_g1 hp_g1 hfo_g1 hfq_g1 hbz hlz hsz0 hpz (by omega) (by omega) (by omega)) (fun v g2 hq => ?_)
  obtain ⟨rfl, fg2, hR_g2, ha_g2, hb_g2, hl_g2, hs_g2, hp_g2⟩ := hq
  have hR_g2 : mn_at g2 rd (.inr (3, [.ref (rd + 1), .ref (rd + 5), .ref (rd + 6), .int 1, .int (nI (ss f)), .int (nI (sb f 5)), .int 0, .int 0])) := hR_g2
  have ha_g2 : mn_at g2 (rd + 1) (.inr (2, [.ref (rd + 1 + 3), .ref (rd + 1 + 1), .ref (rd + 1 + 2), .int (nI (sb f 4)), .int (nI (ss f - 12))])) := ha_g2
  have hb_g2 : mn_at g2 (rd + 1 + 3) (.inl (0, 4080, .inl (fun j => nI ((fun _ => 0) j)))) := hb_g2
  have hl_g2 : mn_at g2 (rd + 1 + 1) (.inl (0, 60, .inl (fun j => nI ((fun _ => 0) j)))) := hl_g2
  have hs_g2 : mn_at g2 (rd + 1 + 2) (.inl (0, 60, .inl (fun j => nI ((fun _ => 0) j)))) := hs_g2
  have hp_g2 : mn_at g2 (rd + 5) (.inl (0, 63, .inl (fun j => onI (pl0 j)))) := hp_g2
  show mn_R E MRd_gather 6 134 _ _ 31 [(0, .ref rd), (1, .ref z), (2, .int (nI x)), (3, .ref (z + 2 + 2 * pi f))] [] g2 _
  have hz_g2 := hz_g1.fr fg2 (fun h => by have h9 : z = rd ∨ z = rd + 1 ∨ z = rd + 1 + 1 ∨ z = rd + 1 + 2 ∨ z = rd + 1 + 3 ∨ z = rd + 5 := h; omega)
  have hfo_g2 := hfo_g1.fr fg2 (fun h => by have h9 : (z + 2 + 2 * pi f) = rd ∨ (z + 2 + 2 * pi f) = rd + 1 ∨ (z + 2 + 2 * pi f) = rd + 1 + 1 ∨ (z + 2 + 2 * pi f) = rd + 1 + 2 ∨ (z + 2 + 2 * pi f) = rd + 1 + 3 ∨ (z + 2 + 2 * pi f) = rd + 5 := h; omega)
  have hfq_g2 := hfq_g1.fr fg2 (fun h => by have h9 : (z + 2 + 2 * pi f + 1) = rd ∨ (z + 2 + 2 * pi f + 1) = rd + 1 ∨ (z + 2 + 2 * pi f + 1) = rd + 1 + 1 ∨ (z + 2 + 2 * pi f + 1) = rd + 1 + 2 ∨ (z + 2 + 2 * pi f + 1) = rd + 1 + 3 ∨ (z + 2 + 2 * pi f + 1) = rd + 5 := h; omega)
  have hE_g2 : EqP g2 (rd + 6) rw nu un gv := hE_g1.fr fg2 (fun q q1 q2 h => by have h9 : q = rd ∨ q = rd + 1 ∨ q = rd + 1 + 1 ∨ q = rd + 1 + 2 ∨ q = rd + 1 + 3 ∨ q = rd + 5 := h; omega)
  have hSl_g2 : SlP g2 z pi ss sb := hSl_g1.fr fg2 (fun q q1 q2 h => by have h9 : q = rd ∨ q = rd + 1 ∨ q = rd + 1 + 1 ∨ q = rd + 1 + 2 ∨ q = rd + 1 + 3 ∨ q = rd + 5 := h; omega)
  refine mn_iconst (v := 0) dRd_gather_31 (by decide) ?_
  refine mn_istore (ls' := [(0, .ref rd), (1, .ref z), (2, .int (nI x)), (3, .ref (z + 2 + 2 * pi f)), (4, .int 0)]) dRd_gather_32 (by decide) rfl ?_
  refine mn_R.sub [0, 1, 2, 3, 4] (ls' := [(0, .ref rd), (1, .ref z), (2, .int (nI x)), (3, .ref (z + 2 + 2 * pi f)), (4, .int 0)]) rfl ?_
  have q1 := hR_g2
  have q2 := ha_g2
  rw [es, er] at q1
  rw [em, show ss f - 12 = w by omega] at q2
  refine c_Rd_gather_l hx hff em er es hm hm1 hrp hw0 hw68 hmw hrz (fun g8 hf8 => KK g8 (((mn_fr.rf.set eg1 (by show rd ≤ rd ∧ rd < rd + 12; omega)).tr (fg2.mo (fun q h => by have h9 : q = rd ∨ q = rd + 1 ∨ q = rd + 1 + 1 ∨ q = rd + 1 + 2 ∨ q = rd + 1 + 3 ∨ q = rd + 5 := h; show rd ≤ q ∧ q < rd + 12; omega))).tr hf8)) 61 0 g2 (by omega) (by omega) mn_fr.rf ?_ q2 ?_ ?_ ?_ hp_g2 hE_g2 hSl_g2
  · rw [cnt_z (P := fun j => plK ss sb x f 0 j ≠ none) (fun i hi q => q (show pl0 i = none by unfold pl0; rw [if_pos (by omega)]))]; exact q1
  · show mn_at g2 (rd + 1 + 3) (.inl (0, 4080, .inl (fun j => nI (gB m w pl0 sb j)))); rw [gB_0 m w hw0 hm sb]; exact hb_g2
  · show mn_at g2 (rd + 1 + 1) (.inl (0, 60, .inl (fun j => nI (gL m pl0 sb j)))); rw [gL_0 m hm sb]; exact hl_g2
  · show mn_at g2 (rd + 1 + 2) (.inl (0, 60, .inl (fun j => nI (gS m pl0 sb j)))); rw [gS_0 m hm sb]; exact hs_g2
theorem c_Rd_gather_no {E : mn_En} {g : mn_H} {rd rp m w x f : Nat} {z : Nat} {pi ss : Nat → Nat} {sb : Nat → Nat → Nat} {un gv : Nat} {rw : Nat → Nat → Nat} {nu : Nat → Nat} (hx : x < 256) (hff : f < 60) {ms : Nat} (em : sb f 4 = m) (er : sb f 5 = rp) (es : ss f = w + 12) (hm : m ≤ 60) (hm1 : 1 ≤ m) (hrp : rp ≤ 3) (hw0 : 0 < w) (hw68 : w ≤ 68) (hmw : m * w ≤ 4080) (hrz : rd + 11 < z ∨ z + 121 < rd) {sz0 rp0 pr0 ma0 m0 w0 : Nat} {dn : Int32} {pb ln sn : Nat → Nat} {pl : Nat → Option Nat} (hR : mn_at g rd (.inr (3, [.ref (rd + 1), .ref (rd + 5), .ref (rd + 6), .int dn, .int (nI sz0), .int (nI rp0), .int (nI pr0), .int (nI ma0)]))) (ha : mn_at g (rd + 1) (.inr (2, [.ref (rd + 1 + 3), .ref (rd + 1 + 1), .ref (rd + 1 + 2), .int (nI m0), .int (nI w0)]))) (hb : mn_at g (rd + 1 + 3) (.inl (0, 4080, .inl (fun j => nI (pb j))))) (hl : mn_at g (rd + 1 + 1) (.inl (0, 60, .inl (fun j => nI (ln j))))) (hs : mn_at g (rd + 1 + 2) (.inl (0, 60, .inl (fun j => nI (sn j))))) (hp : mn_at g (rd + 5) (.inl (0, 63, .inl (fun j => onI (pl j))))) (hE : EqP g (rd + 6) rw nu un gv) (hSl : SlP g z pi ss sb) (hbz : ∀ j, 4080 ≤ j → pb j = 0) (hlz : ∀ j, 60 ≤ j → ln j = 0) (hsz0 : ∀ j, 60 ≤ j → sn j = 0) (hpz : ∀ j, 63 ≤ j → pl j = some 0) (hf : fst' (fun k => sb k 2 = x ∧ stN (sb k) (ss k) = 1) 60 60 = some f) (hms : (cnt (fun j => (plK ss sb x f 60) j ≠ none) m) + ms = m) (hA : ms = 0 ∨ cnt (fun j => ¬ onI ((plK ss sb x f 60) (m + j)) = -2) rp < ms) : mn_R E MRd_gather 6 134 0 0 0 [(0, .ref rd), (1, .ref z), (2, .int (nI x))] [] g (fun x9 g' => x9 = some (.int (nI (cnt (fun j => (plK ss sb x f 60) j ≠ none) m))) ∧ mn_fr (fun q => rd ≤ q ∧ q < rd + 12) g g' ∧ mn_at g' rd (.inr (3, [.ref (rd + 1), .ref (rd + 5), .ref (rd + 6), .int 1, .int (nI (w + 12)), .int (nI rp), .int (nI (cnt (fun j => plK ss sb x f 60 j ≠ none) m)), .int 0])) ∧ mn_at g' (rd + 1) (.inr (2, [.ref (rd + 1 + 3), .ref (rd + 1 + 1), .ref (rd + 1 + 2), .int (nI m), .int (nI w)])) ∧ mn_at g' (rd + 1 + 3) (.inl (0, 4080, .inl (fun j => nI ((gB m w (plK ss sb x f 60) sb) j)))) ∧ mn_at g' (rd + 1 + 1) (.inl (0, 60, .inl (fun j => nI ((gL m (plK ss sb x f 60) sb) j)))) ∧ mn_at g' (rd + 1 + 2) (.inl (0, 60, .inl (fun j => nI ((gS m (plK ss sb x f 60) sb) j)))) ∧ mn_at g' (rd + 5) (.inl (0, 63, .inl (fun j => onI ((plK ss sb x f 60) j)))) ∧ ∃ (r9 : Nat → Nat → Nat) (n9 : Nat → Nat) (u9 v9 : Nat), EqP g' (rd + 6) r9 n9 u9 v9) := by
  refine c_Rd_gather_k hx hff em er es hm hm1 hrp hw0 hw68 hmw hrz hR ha hb hl hs hp hE hSl hbz hlz hsz0 hpz hf (fun g1 f1 a1 a2 a3 a4 a5 a6 a7 a8 => ?_)
  refine mn_R.post (c_Rd_gather_zn (pl := (plK ss sb x f 60)) a1 a2 a3 a4 a5 a6 hm rfl hw0 (by omega) hmw hm1 hrp hms hA) (fun x9 g' hq => ?_)
  obtain ⟨q1, q2⟩ := hq
  subst q2
  exact ⟨q1, f1, a1, a2, a3, a4, a5, a6, _, _, _, _, a7⟩
theorem c_Rd_gather_yes {E : mn_En} {g : mn_H} {rd rp m w x f : Nat} {z : Nat} {pi ss : Nat → Nat} {sb : Nat → Nat → Nat} {un gv : Nat} {rw : Nat → Nat → Nat} {nu : Nat → Nat} (hx : x < 256) (hff : f < 60) {ms : Nat} (em : sb f 4 = m) (er : sb f 5 = rp) (es : ss f = w + 12) (hm : m ≤ 60) (hm1 : 1 ≤ m) (hrp : rp ≤ 3) (hw0 : 0 < w) (hw68 : w ≤ 68) (hmw : m * w ≤ 4080) (hrz : rd + 11 < z ∨ z + 121 < rd) {sz0 rp0 pr0 ma0 m0 w0 : Nat} {dn : Int32} {pb ln sn : Nat → Nat} {pl : Nat → Option Nat} (hR : mn_at g rd (.inr (3, [.ref (rd + 1), .ref (rd + 5), .ref (rd + 6), .int dn, .int (nI sz0), .int (nI rp0), .int (nI pr0), .int (nI ma0)]))) (ha : mn_at g (rd + 1) (.inr (2, [.ref (rd + 1 + 3), .ref (rd + 1 + 1), .ref (rd + 1 + 2), .int (nI m0), .int (nI w0)]))) (hb : mn_at g (rd + 1 + 3) (.inl (0, 4080, .inl (fun j => nI (pb j))))) (hl : mn_at g (rd + 1 + 1) (.inl (0, 60, .inl (fun j => nI (ln j))))) (hs : mn_at g (rd + 1 + 2) (.inl (0, 60, .inl (fun j => nI (sn j))))) (hp : mn_at g (rd + 5) (.inl (0, 63, .inl (fun j => onI (pl j))))) (hE : EqP g (rd + 6) rw nu un gv) (hSl : SlP g z pi ss sb) (hbz : ∀ j, 4080 ≤ j → pb j = 0) (hlz : ∀ j, 60 ≤ j → ln j = 0) (hsz0 : ∀ j, 60 ≤ j → sn j = 0) (hpz : ∀ j, 63 ≤ j → pl j = some 0) (hf : fst' (fun k => sb k 2 = x ∧ stN (sb k) (ss k) = 1) 60 60 = some f) (hms : (cnt (fun j => (plK ss sb x f 60) j ≠ none) m) + ms = m) (hms0 : ¬ ms = 0) (hms1 : ms ≤ cnt (fun j => ¬ onI ((plK ss sb x f 60) (m + j)) = -2) rp) (hw8 : 8 ≤ w) : mn_R E MRd_gather 6 134 0 0 0 [(0, .ref rd), (1, .ref z), (2, .int (nI x))] [] g (fun x9 g' => x9 = some (.int (nI ((cnt (fun j => (plK ss sb x f 60) j ≠ none) m) + (0 + ms)))) ∧ mn_fr (fun q => rd ≤ q ∧ q < rd + 12) g g' ∧ mn_at g' rd (.inr (3, [.ref (rd + 1), .ref (rd + 5), .ref (rd + 6), .int 1, .int (nI (w + 12)), .int (nI rp), .int (nI (cnt (fun j => (plK ss sb x f 60) j ≠ none) m)), .int (nI (0 + ms))])) ∧ mn_at g' (rd + 1) (.inr (2, [.ref (rd + 1 + 3), .ref (rd + 1 + 1), .ref (rd + 1 + 2), .int (nI m), .int (nI w)])) ∧ mn_at g' (rd + 1 + 3) (.inl (0, 4080, .inl (fun j => nI ((tuB (gB m w (plK ss sb x f 60) sb) (unK nu (plK ss sb x f 60) m) w (fun u i => elO (rkS (plK ss sb x f 60) sb (unK nu (plK ss sb x f 60) m) ms ms (gB m w (plK ss sb x f 60) sb) (gL m (plK ss sb x f 60) sb) (gS m (plK ss sb x f 60) sb) w m (w + 12) rw rp).1 ms ms u (3 + i)) ms) j)))) ∧ mn_at g' (rd + 1 + 1) (.inl (0, 60, .inl (fun j => nI ((tuA (gL m (plK ss sb x f 60) sb) (unK nu (plK ss sb x f 60) m) (fun v => (fun u i => elO (rkS (plK ss sb x f 60) sb (unK nu (plK ss sb x f 60) m) ms ms (gB m w (plK ss sb x f 60) sb) (gL m (plK ss sb x f 60) sb) (gS m (plK ss sb x f 60) sb) w m (w + 12) rw rp).1 ms ms u (3 + i)) v 6) ms) j)))) ∧ mn_at g' (rd + 1 + 2) (.inl (0, 60, .inl (fun j => nI ((tuA (gS m (plK ss sb x f 60) sb) (unK nu (plK ss sb x f 60) m) (fun v => (fun u i => elO (rkS (plK ss sb x f 60) sb (unK nu (plK ss sb x f 60) m) ms ms (gB m w (plK ss sb x f 60) sb) (gL m (plK ss sb x f 60) sb) (gS m (plK ss sb x f 60) sb) w m (w + 12) rw rp).1 ms ms u (3 + i)) v 7) ms) j)))) ∧ mn_at g' (rd + 5) (.inl (0, 63, .inl (fun j => onI ((tuP (plK ss sb x f 60) (unK nu (plK ss sb x f 60) m) ms) j)))) ∧ ∃ (r9 : Nat → Nat → Nat) (n9 : Nat → Nat) (u9 v9 : Nat), EqP g' (rd + 6) r9 n9 u9 v9) := by
  refine c_Rd_gather_k hx hff em er es hm hm1 hrp hw0 hw68 hmw hrz hR ha hb hl hs hp hE hSl hbz hlz hsz0 hpz hf (fun g1 f1 a1 a2 a3 a4 a5 a6 a7 a8 => ?_)
  have hsb := hSl.2.2.2.2.2.2
  have hcm : cnt (fun j => (plK ss sb x f 60) j = none) m = ms := by
    have h7 := cnt_neg (fun j => (plK ss sb x f 60) j ≠ none) m
    rw [cnt_ext (P := fun i => ¬ (plK ss sb x f 60) i ≠ none) (Q := fun j => (plK ss sb x f 60) j = none) (fun i _ => Decidable.not_not)] at h7
    omega
  refine mn_R.post (c_Rd_gather_zy (pl := (plK ss sb x f 60)) (sz := w + 12) (pb := (gB m w (plK ss sb x f 60) sb)) (ln := (gL m (plK ss sb x f 60) sb)) (sn := (gS m (plK ss sb x f 60) sb)) a1 a2 a3 a4 a5 a6 a7 a8 hm rfl hw0 (by omega) hmw hm1 hrp hms (gB_lt hsb) (gL_lt hsb) (gS_lt hsb) (by omega) hcm (fun j k hj hk => ⟨(plK_lt hj hk).1, (plK_lt hj hk).2.1.2.1.trans es⟩) hrz hms0 hms1) (fun x9 g' hq => ?_)
  obtain ⟨q1, q2, q3⟩ := hq
  exact ⟨q1, f1.tr (q2.mo (fun q h => by have h9 : q = rd ∨ q = rd + 1 + 1 ∨ q = rd + 1 + 2 ∨ q = rd + 1 + 3 ∨ (rd + 5 ≤ q ∧ q < rd + 12) := h; show rd ≤ q ∧ q < rd + 12; omega)), q3⟩
