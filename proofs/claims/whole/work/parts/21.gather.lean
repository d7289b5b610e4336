theorem c_Rd_placeOfN {E : mn_En} {g : mn_H} {rd sz rp pr ma : Nat} {dn : Int32} {pl : Nat → Option Nat} (hR : mn_at g rd (.inr (3, [.ref (rd + 1), .ref (rd + 5), .ref (rd + 6), .int dn, .int (nI sz), .int (nI rp), .int (nI pr), .int (nI ma)]))) (hp : mn_at g (rd + 5) (.inl (0, 63, .inl (fun j => onI (pl j))))) {j : Nat} (hj : j < 63) {k : Nat} (hk : pl j = some k) : mn_R E MRd_placeOf 0 0 0 0 0 [(0, .ref rd), (1, .int (nI j))] [] g (mn_is (some (.int (nI k))) g) := by
  have e : (fun j => onI (pl j)) j = nI k := by show onI (pl j) = nI k; rw [hk]; rfl
  rw [← e]
  exact c_Rd_placeOf hR hp hj
theorem c_Rd_placeOf0 {E : mn_En} {g : mn_H} {rd sz rp pr ma : Nat} {dn : Int32} {pl : Nat → Option Nat} (hR : mn_at g rd (.inr (3, [.ref (rd + 1), .ref (rd + 5), .ref (rd + 6), .int dn, .int (nI sz), .int (nI rp), .int (nI pr), .int (nI ma)]))) (hp : mn_at g (rd + 5) (.inl (0, 63, .inl (fun j => onI (pl j))))) {j : Nat} (hj : j < 63) (hk : pl j = none) : mn_R E MRd_placeOf 0 0 0 0 0 [(0, .ref rd), (1, .int (nI j))] [] g (mn_is (some (.int (-2))) g) := by
  have e : (fun j => onI (pl j)) j = -2 := by show onI (pl j) = -2; rw [hk]; rfl
  rw [← e]
  exact c_Rd_placeOf hR hp hj
theorem unK_lt {nu : Nat → Nat} {pl : Nat → Option Nat} : ∀ {n i : Nat}, i < cnt (fun j => pl j = none) n → unK nu pl n i < n ∧ pl (unK nu pl n i) = none
  | 0, i, h => absurd h (Nat.not_lt_zero _)
  | n + 1, i, h => by
    by_cases hp : pl n = none
    · rw [cnt_y (P := fun j => pl j = none) hp] at h
      rw [unK_y hp]
      by_cases e : i = cnt (fun j => pl j = none) n
      · rw [e, va_up_s]; exact ⟨by omega, hp⟩
      · rw [va_up_n _ _ e]
        have := unK_lt (nu := nu) (pl := pl) (n := n) (i := i) (by omega)
        exact ⟨by omega, this.2⟩
    · rw [cnt_n (P := fun j => pl j = none) hp] at h
      rw [unK_n hp]
      have := unK_lt (nu := nu) (pl := pl) (n := n) (i := i) h
      exact ⟨by omega, this.2⟩
set_option maxRecDepth 100000 in
theorem c_Rd_again_no {E : mn_En} {g : mn_H} {rd sz rp pr ma m w : Nat} {dn : Int32} {pb ln sn : Nat → Nat} {pl : Nat → Option Nat} {z ms : Nat} (hR : mn_at g rd (.inr (3, [.ref (rd + 1), .ref (rd + 5), .ref (rd + 6), .int dn, .int (nI sz), .int (nI rp), .int (nI pr), .int (nI ma)]))) (ha : mn_at g (rd + 1) (.inr (2, [.ref (rd + 1 + 3), .ref (rd + 1 + 1), .ref (rd + 1 + 2), .int (nI m), .int (nI w)]))) (hb : mn_at g (rd + 1 + 3) (.inl (0, 4080, .inl (fun j => nI (pb j))))) (hl : mn_at g (rd + 1 + 1) (.inl (0, 60, .inl (fun j => nI (ln j))))) (hs : mn_at g (rd + 1 + 2) (.inl (0, 60, .inl (fun j => nI (sn j))))) (hp : mn_at g (rd + 5) (.inl (0, 63, .inl (fun j => onI (pl j))))) (hm : m ≤ 60) (hw : sz = w + 12) (hw0 : 0 < w) (hsz : sz ≤ 80) (hmw : m * w ≤ 4080) (hm1 : 1 ≤ m) (hrp : rp ≤ 3) (hms : pr + ms = m) (hA : ms = 0 ∨ cnt (fun j => ¬ onI (pl (m + j)) = -2) rp < ms) : mn_R E MRd_makeAgain 4 95 0 0 0 [(0, .ref rd), (1, .ref z)] [] g (mn_is none g) := by
  have hcr := cnt_le (fun j => ¬ onI (pl (m + j)) = -2) rp
  refine mn_aload_n 0 dRd_makeAgain_0 rfl rfl ?_
  refine mn_get okRd 0 lRd_14 (by decide) hR rfl dRd_makeAgain_1 ?_
  refine mn_get okPc 3 lRd_93 (by decide) ha rfl dRd_makeAgain_4 ?_
  refine mn_aload_n 0 dRd_makeAgain_7 rfl rfl ?_
  refine mn_get okRd 6 lRd_66 (by decide) hR rfl dRd_makeAgain_8 ?_
  refine mn_isub (z := nI ms) dRd_makeAgain_11 ((pk_sub (a := m) (b := pr) (by omega)).trans (by rw [show m - pr = ms by omega])) ?_
  refine mn_istore_n (ls' := [(0, .ref rd), (1, .ref z), (2, .int (nI ms))]) dRd_makeAgain_12 rfl (by decide) rfl ?_
  refine mn_iload_n 2 dRd_makeAgain_13 rfl rfl ?_
  refine mn_if_eq 25 dRd_makeAgain_14 (by decide) (fun c1 => ?_) (fun c1 => ?_)
  · have c1 := (nI_eq (a := ms) (b := 0) (by omega) (by omega)).mp c1
    exact mn_vret rfl dRd_makeAgain_25 ⟨rfl, rfl⟩
  · have c1 := mt (nI_eq (a := ms) (b := 0) (by omega) (by omega)).mpr c1
    refine mn_iload_n 2 dRd_makeAgain_17 rfl rfl ?_
    refine mn_aload_n 0 dRd_makeAgain_18 rfl rfl ?_
    refine mn_cV (d' := 1) (w' := 21) (As := []) (stk' := [.int (nI (cnt (fun j => ¬ onI (pl (m + j)) = -2) rp)), .int (nI ms)]) okRd_repairsOfIt lRd_110 dRd_makeAgain_19 hR rfl rfl rfl rfl (Nat.le_of_ble_eq_true rfl) (Nat.le_of_ble_eq_true rfl) (by decide) (c_Rd_reps hR ha hb hl hs hp hm hrp) rfl ?_
    refine mn_icmp_le 26 dRd_makeAgain_22 (by decide) (fun c2 => ?_) (fun c2 => ?_)
    · have c2 := (nI_leI (a := ms) (b := (cnt (fun j => ¬ onI (pl (m + j)) = -2) rp)) (by omega) (by omega)).mp c2
      exact absurd hA (by omega)
    · have c2 := mt (nI_leI (a := ms) (b := (cnt (fun j => ¬ onI (pl (m + j)) = -2) rp)) (by omega) (by omega)).mpr c2
      exact mn_vret rfl dRd_makeAgain_25 ⟨rfl, rfl⟩
set_option maxRecDepth 100000 in
theorem c_Rd_again_2 {E : mn_En} {g : mn_H} {rd sz rp pr ma m w : Nat} {dn : Int32} {pb ln sn : Nat → Nat} {pl : Nat → Option Nat} {z : Nat} {pi ss : Nat → Nat} {sb : Nat → Nat → Nat} {nu : Nat → Nat} {R0 : Nat → Nat → Nat} {ms : Nat} (hm : m ≤ 60) (hw : sz = w + 12) (hw0 : 0 < w) (hsz : sz ≤ 80) (hmw : m * w ≤ 4080) (hm1 : 1 ≤ m) (hrp : rp ≤ 3) (hms : pr + ms = m) (hpb : ∀ j, pb j < 256) (hln : ∀ j, ln j < 256) (hsn : ∀ j, sn j < 256) (hsz20 : 20 ≤ sz) (hms3 : ms ≤ 3) (hnu : ∀ i, i < ms → nu i < m) (hplk : ∀ j k, j < 63 → pl j = some k → k < 60 ∧ ss k = sz) (hrz : rd + 11 < z ∨ z + 121 < rd) : ∀ (fu jr : Nat) (g0 : mn_H) (rw : Nat → Nat → Nat) (gv : Nat), jr ≤ rp → rp - jr < fu → mn_fr (fun q => rd + 6 ≤ q ∧ q < rd + 12) g g0 → rkS pl sb nu ms ms pb ln sn w m sz R0 jr = (rw, gv) → mn_at g0 rd (.inr (3, [.ref (rd + 1), .ref (rd + 5), .ref (rd + 6), .int dn, .int (nI sz), .int (nI rp), .int (nI pr), .int (nI ma)])) → mn_at g0 (rd + 1) (.inr (2, [.ref (rd + 1 + 3), .ref (rd + 1 + 1), .ref (rd + 1 + 2), .int (nI m), .int (nI w)])) → mn_at g0 (rd + 1 + 3) (.inl (0, 4080, .inl (fun j => nI (pb j)))) → mn_at g0 (rd + 1 + 1) (.inl (0, 60, .inl (fun j => nI (ln j)))) → mn_at g0 (rd + 1 + 2) (.inl (0, 60, .inl (fun j => nI (sn j)))) → mn_at g0 (rd + 5) (.inl (0, 63, .inl (fun j => onI (pl j)))) → EqP g0 (rd + 6) rw nu ms gv → SlP g0 z pi ss sb → mn_R E MRd_makeAgain 4 95 0 0 72 [(0, .ref rd), (1, .ref z), (2, .int (nI ms)), (3, .int (nI jr))] [] g0 (fun x g' => x = none ∧ mn_fr (fun q => q = rd ∨ q = rd + 1 + 1 ∨ q = rd + 1 + 2 ∨ q = rd + 1 + 3 ∨ (rd + 5 ≤ q ∧ q < rd + 12)) g g' ∧ mn_at g' rd (.inr (3, [.ref (rd + 1), .ref (rd + 5), .ref (rd + 6), .int dn, .int (nI sz), .int (nI rp), .int (nI pr), .int (nI (ma + ms))])) ∧ mn_at g' (rd + 1) (.inr (2, [.ref (rd + 1 + 3), .ref (rd + 1 + 1), .ref (rd + 1 + 2), .int (nI m), .int (nI w)])) ∧ mn_at g' (rd + 1 + 3) (.inl (0, 4080, .inl (fun j => nI ((tuB pb nu w (fun u i => elO (rkS pl sb nu ms ms pb ln sn w m sz R0 rp).1 ms ms u (3 + i)) ms) j)))) ∧ mn_at g' (rd + 1 + 1) (.inl (0, 60, .inl (fun j => nI ((tuA ln nu (fun v => (fun u i => elO (rkS pl sb nu ms ms pb ln sn w m sz R0 rp).1 ms ms u (3 + i)) v 6) ms) j)))) ∧ mn_at g' (rd + 1 + 2) (.inl (0, 60, .inl (fun j => nI ((tuA sn nu (fun v => (fun u i => elO (rkS pl sb nu ms ms pb ln sn w m sz R0 rp).1 ms ms u (3 + i)) v 7) ms) j)))) ∧ mn_at g' (rd + 5) (.inl (0, 63, .inl (fun j => onI ((tuP pl nu ms) j)))) ∧ ∃ (r9 : Nat → Nat → Nat) (n9 : Nat → Nat) (u9 v9 : Nat), EqP g' (rd + 6) r9 n9 u9 v9) := by
  intro fu
  induction fu with
  | zero => intro jr g0 rw gv h1 h2; exact absurd h2 (by omega)
  | succ fu ih =>
    intro jr g0 rw gv h1 h2 hfr hx hR ha hb hl hs hp hE hSl
    have hE1 := hE.1
    have hz := hSl.1
    have hgv : gv ≤ ms := by have h7 := rkS_le pl sb nu ms ms pb ln sn w m sz R0 jr; rw [hx] at h7; exact h7
    have hgv3 := hE.2.2.2.2.2.2.1
    refine mn_iload_n 3 dRd_makeAgain_72 rfl rfl ?_
    refine mn_aload_n 0 dRd_makeAgain_73 rfl rfl ?_
    refine mn_get okRd 5 lRd_90 (by decide) hR rfl dRd_makeAgain_74 ?_
    refine mn_icmp_ge 135 dRd_makeAgain_77 (by decide) (fun c1 => ?_) (fun c1 => ?_)
    · have c1 := (nI_leI (a := rp) (b := jr) (by omega) (by omega)).mp c1
      have hxe : rkS pl sb nu ms ms pb ln sn w m sz R0 rp = (rw, gv) := by rw [show rp = jr by omega]; exact hx
      refine mn_aload_n 0 dRd_makeAgain_135 rfl rfl ?_
      refine mn_get okRd 2 lRd_27 (by decide) hR rfl dRd_makeAgain_136 ?_
      refine mn_callV (d' := 3) (w' := 70) (nc' := 0) (ns' := 0) (As := []) (st := []) okEq_solve lRd_127 dRd_makeAgain_139 hE1 rfl rfl rfl rfl (Nat.le_of_ble_eq_true rfl) (Nat.le_of_ble_eq_true rfl) (by decide) (c_E_solve hE) (fun v g2 hq => ?_)
      obtain ⟨rfl, fg2, hE_g2⟩ := hq
      show mn_R E MRd_makeAgain 4 95 _ _ 142 [(0, .ref rd), (1, .ref z), (2, .int (nI ms)), (3, .int (nI jr))] [] g2 _
      have hE1_g2 := hE_g2.1
      have hR_g2 := hR.fr fg2 (fun h => by have h9 : rd + 6 + 2 ≤ rd ∧ rd < rd + 6 + 5 := h; omega)
      have ha_g2 := ha.fr fg2 (fun h => by have h9 : rd + 6 + 2 ≤ (rd + 1) ∧ (rd + 1) < rd + 6 + 5 := h; omega)
      have hb_g2 := hb.fr fg2 (fun h => by have h9 : rd + 6 + 2 ≤ (rd + 1 + 3) ∧ (rd + 1 + 3) < rd + 6 + 5 := h; omega)
      have hl_g2 := hl.fr fg2 (fun h => by have h9 : rd + 6 + 2 ≤ (rd + 1 + 1) ∧ (rd + 1 + 1) < rd + 6 + 5 := h; omega)
      have hs_g2 := hs.fr fg2 (fun h => by have h9 : rd + 6 + 2 ≤ (rd + 1 + 2) ∧ (rd + 1 + 2) < rd + 6 + 5 := h; omega)
      have hp_g2 := hp.fr fg2 (fun h => by have h9 : rd + 6 + 2 ≤ (rd + 5) ∧ (rd + 5) < rd + 6 + 5 := h; omega)
      have hz_g2 := hz.fr fg2 (fun h => by have h9 : rd + 6 + 2 ≤ z ∧ z < rd + 6 + 5 := h; omega)
      have hSl_g2 : SlP g2 z pi ss sb := hSl.fr fg2 (fun q q1 q2 h => by have h9 : rd + 6 + 2 ≤ q ∧ q < rd + 6 + 5 := h; omega)
      refine mn_aload_n 0 dRd_makeAgain_142 rfl rfl ?_
      refine mn_callV (d' := 2) (w' := 45) (nc' := 0) (ns' := 0) (As := []) (st := []) okRd_takeUnknowns lRd_130 dRd_makeAgain_143 hR_g2 rfl rfl rfl rfl (Nat.le_of_ble_eq_true rfl) (Nat.le_of_ble_eq_true rfl) (by decide) (c_Rd_tu hR_g2 ha_g2 hb_g2 hl_g2 hs_g2 hp_g2 hE_g2 (X := fun u i => elO rw ms ms u (3 + i)) hm hw hw0 hsz hmw (by omega) hnu hsz20 rfl) (fun v g3 hq => ?_)
      obtain ⟨rfl, fg3, t1, t2, t3, t4, t5, t6, t7⟩ := hq
      show mn_R E MRd_makeAgain 4 95 _ _ 146 [(0, .ref rd), (1, .ref z), (2, .int (nI ms)), (3, .int (nI jr))] [] g3 _
      exact mn_vret rfl dRd_makeAgain_146 (by rw [hxe]; exact ⟨rfl, ((hfr.mo (fun q h => by have h9 : rd + 6 ≤ q ∧ q < rd + 12 := h; show q = rd ∨ q = rd + 1 + 1 ∨ q = rd + 1 + 2 ∨ q = rd + 1 + 3 ∨ (rd + 5 ≤ q ∧ q < rd + 12); omega)).tr (fg2.mo (fun q h => by have h9 : rd + 6 + 2 ≤ q ∧ q < rd + 6 + 5 := h; show q = rd ∨ q = rd + 1 + 1 ∨ q = rd + 1 + 2 ∨ q = rd + 1 + 3 ∨ (rd + 5 ≤ q ∧ q < rd + 12); omega))).tr (fg3.mo (fun q h => by have h9 : q = rd ∨ q = rd + 1 + 1 ∨ q = rd + 1 + 2 ∨ q = rd + 1 + 3 ∨ q = rd + 5 := h; show q = rd ∨ q = rd + 1 + 1 ∨ q = rd + 1 + 2 ∨ q = rd + 1 + 3 ∨ (rd + 5 ≤ q ∧ q < rd + 12); omega)), t1, t2, t3, t4, t5, t6, _, _, _, _, t7⟩)
    · have c1 := mt (nI_leI (a := rp) (b := jr) (by omega) (by omega)).mpr c1
      refine mn_aload_n 0 dRd_makeAgain_80 rfl rfl ?_
      refine mn_get okRd 2 lRd_27 (by decide) hR rfl dRd_makeAgain_81 ?_
      refine mn_get okEq 3 lRd_120 (by decide) hE1 rfl dRd_makeAgain_84 ?_
      refine mn_iload_n 2 dRd_makeAgain_87 rfl rfl ?_
      refine mn_icmp_ge 135 dRd_makeAgain_88 (by decide) (fun c4 => ?_) (fun c4 => ?_)
      · have c4 := (nI_leI (a := ms) (b := gv) (by omega) (by omega)).mp c4
        have hxe : rkS pl sb nu ms ms pb ln sn w m sz R0 rp = (rw, gv) := by have h7 := rkS_full (j := jr) (pl := pl) (sb := sb) (nu := nu) (un := ms) (ms := ms) (pb := pb) (ln := ln) (sn := sn) (w := w) (m := m) (t := sz) (rw0 := R0) (by rw [hx]; show ¬ gv < ms; omega) (rp - jr); rw [show jr + (rp - jr) = rp by omega] at h7; rw [h7]; exact hx
        refine mn_aload_n 0 dRd_makeAgain_135 rfl rfl ?_
        refine mn_get okRd 2 lRd_27 (by decide) hR rfl dRd_makeAgain_136 ?_
        refine mn_callV (d' := 3) (w' := 70) (nc' := 0) (ns' := 0) (As := []) (st := []) okEq_solve lRd_127 dRd_makeAgain_139 hE1 rfl rfl rfl rfl (Nat.le_of_ble_eq_true rfl) (Nat.le_of_ble_eq_true rfl) (by decide) (c_E_solve hE) (fun v g5 hq => ?_)
        obtain ⟨rfl, fg5, hE_g5⟩ := hq
        show mn_R E MRd_makeAgain 4 95 _ _ 142 [(0, .ref rd), (1, .ref z), (2, .int (nI ms)), (3, .int (nI jr))] [] g5 _
        have hE1_g5 := hE_g5.1
        have hR_g5 := hR.fr fg5 (fun h => by have h9 : rd + 6 + 2 ≤ rd ∧ rd < rd + 6 + 5 := h; omega)
        have ha_g5 := ha.fr fg5 (fun h => by have h9 : rd + 6 + 2 ≤ (rd + 1) ∧ (rd + 1) < rd + 6 + 5 := h; omega)
        have hb_g5 := hb.fr fg5 (fun h => by have h9 : rd + 6 + 2 ≤ (rd + 1 + 3) ∧ (rd + 1 + 3) < rd + 6 + 5 := h; omega)
        have hl_g5 := hl.fr fg5 (fun h => by have h9 : rd + 6 + 2 ≤ (rd + 1 + 1) ∧ (rd + 1 + 1) < rd + 6 + 5 := h; omega)
        have hs_g5 := hs.fr fg5 (fun h => by have h9 : rd + 6 + 2 ≤ (rd + 1 + 2) ∧ (rd + 1 + 2) < rd + 6 + 5 := h; omega)
        have hp_g5 := hp.fr fg5 (fun h => by have h9 : rd + 6 + 2 ≤ (rd + 5) ∧ (rd + 5) < rd + 6 + 5 := h; omega)
        have hz_g5 := hz.fr fg5 (fun h => by have h9 : rd + 6 + 2 ≤ z ∧ z < rd + 6 + 5 := h; omega)
        have hSl_g5 : SlP g5 z pi ss sb := hSl.fr fg5 (fun q q1 q2 h => by have h9 : rd + 6 + 2 ≤ q ∧ q < rd + 6 + 5 := h; omega)
        refine mn_aload_n 0 dRd_makeAgain_142 rfl rfl ?_
        refine mn_callV (d' := 2) (w' := 45) (nc' := 0) (ns' := 0) (As := []) (st := []) okRd_takeUnknowns lRd_130 dRd_makeAgain_143 hR_g5 rfl rfl rfl rfl (Nat.le_of_ble_eq_true rfl) (Nat.le_of_ble_eq_true rfl) (by decide) (c_Rd_tu hR_g5 ha_g5 hb_g5 hl_g5 hs_g5 hp_g5 hE_g5 (X := fun u i => elO rw ms ms u (3 + i)) hm hw hw0 hsz hmw (by omega) hnu hsz20 rfl) (fun v g6 hq => ?_)
        obtain ⟨rfl, fg6, t1, t2, t3, t4, t5, t6, t7⟩ := hq
        show mn_R E MRd_makeAgain 4 95 _ _ 146 [(0, .ref rd), (1, .ref z), (2, .int (nI ms)), (3, .int (nI jr))] [] g6 _
        exact mn_vret rfl dRd_makeAgain_146 (by rw [hxe]; exact ⟨rfl, ((hfr.mo (fun q h => by have h9 : rd + 6 ≤ q ∧ q < rd + 12 := h; show q = rd ∨ q = rd + 1 + 1 ∨ q = rd + 1 + 2 ∨ q = rd + 1 + 3 ∨ (rd + 5 ≤ q ∧ q < rd + 12); omega)).tr (fg5.mo (fun q h => by have h9 : rd + 6 + 2 ≤ q ∧ q < rd + 6 + 5 := h; show q = rd ∨ q = rd + 1 + 1 ∨ q = rd + 1 + 2 ∨ q = rd + 1 + 3 ∨ (rd + 5 ≤ q ∧ q < rd + 12); omega))).tr (fg6.mo (fun q h => by have h9 : q = rd ∨ q = rd + 1 + 1 ∨ q = rd + 1 + 2 ∨ q = rd + 1 + 3 ∨ q = rd + 5 := h; show q = rd ∨ q = rd + 1 + 1 ∨ q = rd + 1 + 2 ∨ q = rd + 1 + 3 ∨ (rd + 5 ≤ q ∧ q < rd + 12); omega)), t1, t2, t3, t4, t5, t6, _, _, _, _, t7⟩)
      · have c4 := mt (nI_leI (a := ms) (b := gv) (by omega) (by omega)).mpr c4
        rcases hk : pl (m + jr) with _ | k
        · refine mn_aload_n 1 dRd_makeAgain_91 rfl rfl ?_
          refine mn_aload_n 0 dRd_makeAgain_92 rfl rfl ?_
          refine mn_aload_n 0 dRd_makeAgain_93 rfl rfl ?_
          refine mn_get okRd 0 lRd_14 (by decide) hR rfl dRd_makeAgain_94 ?_
          refine mn_get okPc 3 lRd_93 (by decide) ha rfl dRd_makeAgain_97 ?_
          refine mn_iload_n 3 dRd_makeAgain_100 rfl rfl ?_
          refine mn_iadd (z := nI (m + jr)) dRd_makeAgain_101 (nI_add m jr) ?_
          refine mn_cV (d' := 0) (w' := 0) (As := [.int (nI (m + jr))]) (stk' := [.int (-2), .ref z]) okRd_placeOf lRd_99 dRd_makeAgain_102 hR rfl rfl rfl rfl (Nat.le_of_ble_eq_true rfl) (Nat.le_of_ble_eq_true rfl) (by decide) (c_Rd_placeOf0 hR hp (j := m + jr) (by omega) hk) rfl ?_
          refine mn_cV (d' := 0) (w' := 0) (As := [.int (-2)]) (stk' := [.null]) okSl_at lRd_45 dRd_makeAgain_105 hz rfl rfl rfl rfl (Nat.le_of_ble_eq_true rfl) (Nat.le_of_ble_eq_true rfl) (by decide) (c_Sl_at_bad hSl (x := -2) (Or.inl (by decide))) rfl ?_
          refine mn_astoreN (ls' := [(0, .ref rd), (1, .ref z), (2, .int (nI ms)), (3, .int (nI jr)), (4, .null)]) dRd_makeAgain_108 (by decide) rfl ?_
          refine mn_aloadN 4 dRd_makeAgain_110 rfl ?_
          refine mn_ifnullN 129 dRd_makeAgain_112 (by decide) ?_
          refine mn_iinc (v := nI (jr + 1)) (ls' := [(0, .ref rd), (1, .ref z), (2, .int (nI ms)), (3, .int (nI (jr + 1))), (4, .null)]) 3 dRd_makeAgain_129 rfl (nI_add jr 1) (by decide) rfl ?_
          refine mn_goto 72 dRd_makeAgain_132 (by decide) ?_
          refine mn_R.sub [0, 1, 2, 3] (ls' := [(0, .ref rd), (1, .ref z), (2, .int (nI ms)), (3, .int (nI (jr + 1)))]) rfl ?_
          exact ih (jr + 1) g0 rw gv (by omega) (by omega) hfr ((rkS_no hk).trans hx) hR ha hb hl hs hp hE hSl
        · have hk9 := hplk (m + jr) k (by omega) hk
          have hk1 := hk9.1
          have hk2 := hk9.2
          have hpik := hSl.2.2.2.1 k (by omega)
          have ho := (hSl.2.2.1 k (by omega)).1
          have hr := (hSl.2.2.1 k (by omega)).2
          refine mn_aload_n 1 dRd_makeAgain_91 rfl rfl ?_
          refine mn_aload_n 0 dRd_makeAgain_92 rfl rfl ?_
          refine mn_aload_n 0 dRd_makeAgain_93 rfl rfl ?_
          refine mn_get okRd 0 lRd_14 (by decide) hR rfl dRd_makeAgain_94 ?_
          refine mn_get okPc 3 lRd_93 (by decide) ha rfl dRd_makeAgain_97 ?_
          refine mn_iload_n 3 dRd_makeAgain_100 rfl rfl ?_
          refine mn_iadd (z := nI (m + jr)) dRd_makeAgain_101 (nI_add m jr) ?_
          refine mn_cV (d' := 0) (w' := 0) (As := [.int (nI (m + jr))]) (stk' := [.int (nI k), .ref z]) okRd_placeOf lRd_99 dRd_makeAgain_102 hR rfl rfl rfl rfl (Nat.le_of_ble_eq_true rfl) (Nat.le_of_ble_eq_true rfl) (by decide) (c_Rd_placeOfN hR hp (j := m + jr) (by omega) hk) rfl ?_
          refine mn_cV (d' := 0) (w' := 0) (As := [.int (nI k)]) (stk' := [.ref (z + 2 + 2 * pi k)]) okSl_at lRd_45 dRd_makeAgain_105 hz rfl rfl rfl rfl (Nat.le_of_ble_eq_true rfl) (Nat.le_of_ble_eq_true rfl) (by decide) (c_Sl_at hSl (i := k) (by omega)) rfl ?_
          refine mn_astore (ls' := [(0, .ref rd), (1, .ref z), (2, .int (nI ms)), (3, .int (nI jr)), (4, .ref (z + 2 + 2 * pi k))]) dRd_makeAgain_108 (by decide) rfl ?_
          refine mn_aload 4 dRd_makeAgain_110 rfl ?_
          refine mn_ifnull dRd_makeAgain_112 ?_
          refine mn_aload_n 0 dRd_makeAgain_115 rfl rfl ?_
          refine mn_get okRd 2 lRd_27 (by decide) hR rfl dRd_makeAgain_116 ?_
          refine mn_iload_n 3 dRd_makeAgain_119 rfl rfl ?_
          refine mn_aload 4 dRd_makeAgain_120 rfl ?_
          refine mn_aload_n 0 dRd_makeAgain_122 rfl rfl ?_
          refine mn_get okRd 0 lRd_14 (by decide) hR rfl dRd_makeAgain_123 ?_
          refine mn_callV (d' := 3) (w' := 70) (nc' := 0) (ns' := 0) (As := [.int (nI jr), .ref (z + 2 + 2 * pi k), .ref (rd + 1)]) (st := []) okEq_addRepair lRd_123 dRd_makeAgain_126 hE1 rfl rfl rfl rfl (Nat.le_of_ble_eq_true rfl) (Nat.le_of_ble_eq_true rfl) (by decide) (c_E_addRepair hE ho hr ha hb hl hs (by omega) (jr := jr) (by omega) (by omega) (by omega) (by omega) (by omega) (by omega) hm1 hm hmw hpb hln hsn (by omega) (hSl.2.2.2.2.2.2 k)) (fun v g7 hq => ?_)
          obtain ⟨rfl, fg7, hE_g7⟩ := hq
          show mn_R E MRd_makeAgain 4 95 _ _ 129 [(0, .ref rd), (1, .ref z), (2, .int (nI ms)), (3, .int (nI jr)), (4, .ref (z + 2 + 2 * pi k))] [] g7 _
          have hE1_g7 := hE_g7.1
          have hR_g7 := hR.fr fg7 (fun h => by have h9 : rd = rd + 6 ∨ rd = rd + 6 + 2 + gv := h; omega)
          have ha_g7 := ha.fr fg7 (fun h => by have h9 : (rd + 1) = rd + 6 ∨ (rd + 1) = rd + 6 + 2 + gv := h; omega)
          have hb_g7 := hb.fr fg7 (fun h => by have h9 : (rd + 1 + 3) = rd + 6 ∨ (rd + 1 + 3) = rd + 6 + 2 + gv := h; omega)
          have hl_g7 := hl.fr fg7 (fun h => by have h9 : (rd + 1 + 1) = rd + 6 ∨ (rd + 1 + 1) = rd + 6 + 2 + gv := h; omega)
          have hs_g7 := hs.fr fg7 (fun h => by have h9 : (rd + 1 + 2) = rd + 6 ∨ (rd + 1 + 2) = rd + 6 + 2 + gv := h; omega)
          have hp_g7 := hp.fr fg7 (fun h => by have h9 : (rd + 5) = rd + 6 ∨ (rd + 5) = rd + 6 + 2 + gv := h; omega)
          have hz_g7 := hz.fr fg7 (fun h => by have h9 : z = rd + 6 ∨ z = rd + 6 + 2 + gv := h; omega)
          have ho_g7 := ho.fr fg7 (fun h => by have h9 : (z + 2 + 2 * pi k) = rd + 6 ∨ (z + 2 + 2 * pi k) = rd + 6 + 2 + gv := h; omega)
          have hr_g7 := hr.fr fg7 (fun h => by have h9 : (z + 2 + 2 * pi k + 1) = rd + 6 ∨ (z + 2 + 2 * pi k + 1) = rd + 6 + 2 + gv := h; omega)
          have hSl_g7 : SlP g7 z pi ss sb := hSl.fr fg7 (fun q q1 q2 h => by have h9 : q = rd + 6 ∨ q = rd + 6 + 2 + gv := h; omega)
          refine mn_iinc (v := nI (jr + 1)) (ls' := [(0, .ref rd), (1, .ref z), (2, .int (nI ms)), (3, .int (nI (jr + 1))), (4, .ref (z + 2 + 2 * pi k))]) 3 dRd_makeAgain_129 rfl (nI_add jr 1) (by decide) rfl ?_
          refine mn_goto 72 dRd_makeAgain_132 (by decide) ?_
          refine mn_R.sub [0, 1, 2, 3] (ls' := [(0, .ref rd), (1, .ref z), (2, .int (nI ms)), (3, .int (nI (jr + 1)))]) rfl ?_
          exact ih (jr + 1) g7 _ _ (by omega) (by omega) (hfr.tr (fg7.mo (fun q h => by have h9 : q = rd + 6 ∨ q = rd + 6 + 2 + gv := h; show rd + 6 ≤ q ∧ q < rd + 12; omega))) (by rw [rkS_yes hx (by show gv < ms; omega) hk]; rw [← hk2]) hR_g7 ha_g7 hb_g7 hl_g7 hs_g7 hp_g7 hE_g7 hSl_g7
set_option maxRecDepth 100000 in
theorem c_Rd_again_1 {E : mn_En} {g : mn_H} {rd sz rp pr ma m w : Nat} {dn : Int32} {pb ln sn : Nat → Nat} {pl : Nat → Option Nat} {z : Nat} {pi ss : Nat → Nat} {sb : Nat → Nat → Nat} {gv : Nat} {rw : Nat → Nat → Nat} {nu : Nat → Nat} {ms : Nat} {Q : Option Value → mn_H → Prop} (hm : m ≤ 60) (hms3 : ms ≤ 3) (hcm : cnt (fun j => pl j = none) m = ms) (hplk : ∀ j k, j < 63 → pl j = some k → k < 60 ∧ ss k = sz) (hrz : rd + 11 < z ∨ z + 121 < rd) (KK : ∀ g1, mn_fr (fun q => rd + 6 ≤ q ∧ q < rd + 12) g g1 → mn_at g1 rd (.inr (3, [.ref (rd + 1), .ref (rd + 5), .ref (rd + 6), .int dn, .int (nI sz), .int (nI rp), .int (nI pr), .int (nI ma)])) → mn_at g1 (rd + 1) (.inr (2, [.ref (rd + 1 + 3), .ref (rd + 1 + 1), .ref (rd + 1 + 2), .int (nI m), .int (nI w)])) → mn_at g1 (rd + 1 + 3) (.inl (0, 4080, .inl (fun j => nI (pb j)))) → mn_at g1 (rd + 1 + 1) (.inl (0, 60, .inl (fun j => nI (ln j)))) → mn_at g1 (rd + 1 + 2) (.inl (0, 60, .inl (fun j => nI (sn j)))) → mn_at g1 (rd + 5) (.inl (0, 63, .inl (fun j => onI (pl j)))) → EqP g1 (rd + 6) rw (unK nu pl m) (cnt (fun j => pl j = none) m) gv → SlP g1 z pi ss sb → mn_R E MRd_makeAgain 4 95 0 0 70 [(0, .ref rd), (1, .ref z), (2, .int (nI ms))] [] g1 Q) : ∀ (fu n : Nat) (g0 : mn_H), n ≤ m → m - n < fu → mn_fr (fun q => rd + 6 ≤ q ∧ q < rd + 12) g g0 → mn_at g0 rd (.inr (3, [.ref (rd + 1), .ref (rd + 5), .ref (rd + 6), .int dn, .int (nI sz), .int (nI rp), .int (nI pr), .int (nI ma)])) → mn_at g0 (rd + 1) (.inr (2, [.ref (rd + 1 + 3), .ref (rd + 1 + 1), .ref (rd + 1 + 2), .int (nI m), .int (nI w)])) → mn_at g0 (rd + 1 + 3) (.inl (0, 4080, .inl (fun j => nI (pb j)))) → mn_at g0 (rd + 1 + 1) (.inl (0, 60, .inl (fun j => nI (ln j)))) → mn_at g0 (rd + 1 + 2) (.inl (0, 60, .inl (fun j => nI (sn j)))) → mn_at g0 (rd + 5) (.inl (0, 63, .inl (fun j => onI (pl j)))) → EqP g0 (rd + 6) rw (unK nu pl n) (cnt (fun j => pl j = none) n) gv → SlP g0 z pi ss sb → mn_R E MRd_makeAgain 4 95 0 0 35 [(0, .ref rd), (1, .ref z), (2, .int (nI ms)), (3, .int (nI n))] [] g0 (Q) := by
  intro fu
  induction fu with
  | zero => intro n g0 h1 h2; exact absurd h2 (by omega)
  | succ fu ih =>
    intro n g0 h1 h2 hfr hR ha hb hl hs hp hE hSl
    have hE1 := hE.1
    refine mn_iload_n 3 dRd_makeAgain_35 rfl rfl ?_
    refine mn_aload_n 0 dRd_makeAgain_36 rfl rfl ?_
    refine mn_get okRd 0 lRd_14 (by decide) hR rfl dRd_makeAgain_37 ?_
    refine mn_get okPc 3 lRd_93 (by decide) ha rfl dRd_makeAgain_40 ?_
    refine mn_icmp_ge 70 dRd_makeAgain_43 (by decide) (fun c1 => ?_) (fun c1 => ?_)
    · have c1 := (nI_leI (a := m) (b := n) (by omega) (by omega)).mp c1
      refine mn_R.sub [0, 1, 2] (ls' := [(0, .ref rd), (1, .ref z), (2, .int (nI ms))]) rfl ?_
      obtain rfl : n = m := (by omega)
      exact KK g0 hfr hR ha hb hl hs hp hE hSl
    · have c1 := mt (nI_leI (a := m) (b := n) (by omega) (by omega)).mpr c1
      refine mn_aload_n 0 dRd_makeAgain_46 rfl rfl ?_
      refine mn_iload_n 3 dRd_makeAgain_47 rfl rfl ?_
      refine mn_cV (d' := 0) (w' := 0) (As := [.int (nI n)]) (stk' := [.int (onI (pl n))]) okRd_placeOf lRd_99 dRd_makeAgain_48 hR rfl rfl rfl rfl (Nat.le_of_ble_eq_true rfl) (Nat.le_of_ble_eq_true rfl) (by decide) (c_Rd_placeOf hR hp (j := n) (by omega)) rfl ?_
      refine mn_bipush (v := (-2)) dRd_makeAgain_51 (by decide) ?_
      refine mn_icmp_ne 64 dRd_makeAgain_53 (by decide) (fun c2 => ?_) (fun c2 => ?_)
      · have hcp : ¬ pl n = none := fun q => c2 ((onI_e (fun q hq => by have h7 := (hplk n q (by omega) hq).1; omega)).mpr q)
        refine mn_iinc (v := nI (n + 1)) (ls' := [(0, .ref rd), (1, .ref z), (2, .int (nI ms)), (3, .int (nI (n + 1)))]) 3 dRd_makeAgain_64 rfl (nI_add n 1) (by decide) rfl ?_
        refine mn_goto 35 dRd_makeAgain_67 (by decide) ?_
        have hE8 := hE
        rw [← cnt_n (P := (fun j => pl j = none)) (k := n) hcp, ← unK_n hcp] at hE8
        exact ih (n + 1) g0 (by omega) (by omega) hfr hR ha hb hl hs hp hE8 hSl
      · have hcp : pl n = none := (onI_e (fun q hq => by have h7 := (hplk n q (by omega) hq).1; omega)).mp c2
        have hcl : cnt (fun j => pl j = none) n < 3 := by have h7 := cnt_mono (fun j => pl j = none) (show n + 1 ≤ m by omega); rw [cnt_y (P := (fun j => pl j = none)) (k := n) hcp] at h7; omega
        refine mn_aload_n 0 dRd_makeAgain_56 rfl rfl ?_
        refine mn_get okRd 2 lRd_27 (by decide) hR rfl dRd_makeAgain_57 ?_
        refine mn_iload_n 3 dRd_makeAgain_60 rfl rfl ?_
        refine mn_callV (d' := 0) (w' := 0) (nc' := 0) (ns' := 0) (As := [.int (nI n)]) (st := []) okEq_addUnknown lRd_117 dRd_makeAgain_61 hE1 rfl rfl rfl rfl (Nat.le_of_ble_eq_true rfl) (Nat.le_of_ble_eq_true rfl) (by decide) (c_E_addUnknown hE hcl (n := n) (by omega)) (fun v g3 hq => ?_)
        obtain ⟨rfl, fg3, hE_g3⟩ := hq
        show mn_R E MRd_makeAgain 4 95 _ _ 64 [(0, .ref rd), (1, .ref z), (2, .int (nI ms)), (3, .int (nI n))] [] g3 _
        have hE1_g3 := hE_g3.1
        have hR_g3 := hR.fr fg3 (fun h => by have h9 : rd = rd + 6 ∨ rd = rd + 6 + 5 := h; omega)
        have ha_g3 := ha.fr fg3 (fun h => by have h9 : (rd + 1) = rd + 6 ∨ (rd + 1) = rd + 6 + 5 := h; omega)
        have hb_g3 := hb.fr fg3 (fun h => by have h9 : (rd + 1 + 3) = rd + 6 ∨ (rd + 1 + 3) = rd + 6 + 5 := h; omega)
        have hl_g3 := hl.fr fg3 (fun h => by have h9 : (rd + 1 + 1) = rd + 6 ∨ (rd + 1 + 1) = rd + 6 + 5 := h; omega)
        have hs_g3 := hs.fr fg3 (fun h => by have h9 : (rd + 1 + 2) = rd + 6 ∨ (rd + 1 + 2) = rd + 6 + 5 := h; omega)
        have hp_g3 := hp.fr fg3 (fun h => by have h9 : (rd + 5) = rd + 6 ∨ (rd + 5) = rd + 6 + 5 := h; omega)
        have hSl_g3 : SlP g3 z pi ss sb := hSl.fr fg3 (fun q q1 q2 h => by have h9 : q = rd + 6 ∨ q = rd + 6 + 5 := h; omega)
        refine mn_iinc (v := nI (n + 1)) (ls' := [(0, .ref rd), (1, .ref z), (2, .int (nI ms)), (3, .int (nI (n + 1)))]) 3 dRd_makeAgain_64 rfl (nI_add n 1) (by decide) rfl ?_
        refine mn_goto 35 dRd_makeAgain_67 (by decide) ?_
        have hE8 := hE_g3
        rw [← cnt_y (P := (fun j => pl j = none)) (k := n) hcp, ← unK_y hcp] at hE8
        exact ih (n + 1) g3 (by omega) (by omega) (hfr.tr (fg3.mo (fun q h => by have h9 : q = rd + 6 ∨ q = rd + 6 + 5 := h; show rd + 6 ≤ q ∧ q < rd + 12; omega))) hR_g3 ha_g3 hb_g3 hl_g3 hs_g3 hp_g3 hE8 hSl_g3
set_option maxRecDepth 100000 in
theorem c_Rd_again {E : mn_En} {g : mn_H} {rd sz rp pr ma m w : Nat} {dn : Int32} {pb ln sn : Nat → Nat} {pl : Nat → Option Nat} {z : Nat} {pi ss : Nat → Nat} {sb : Nat → Nat → Nat} {un gv : Nat} {rw : Nat → Nat → Nat} {nu : Nat → Nat} {ms : Nat} (hR : mn_at g rd (.inr (3, [.ref (rd + 1), .ref (rd + 5), .ref (rd + 6), .int dn, .int (nI sz), .int (nI rp), .int (nI pr), .int (nI ma)]))) (ha : mn_at g (rd + 1) (.inr (2, [.ref (rd + 1 + 3), .ref (rd + 1 + 1), .ref (rd + 1 + 2), .int (nI m), .int (nI w)]))) (hb : mn_at g (rd + 1 + 3) (.inl (0, 4080, .inl (fun j => nI (pb j))))) (hl : mn_at g (rd + 1 + 1) (.inl (0, 60, .inl (fun j => nI (ln j))))) (hs : mn_at g (rd + 1 + 2) (.inl (0, 60, .inl (fun j => nI (sn j))))) (hp : mn_at g (rd + 5) (.inl (0, 63, .inl (fun j => onI (pl j))))) (hE : EqP g (rd + 6) rw nu un gv) (hSl : SlP g z pi ss sb) (hm : m ≤ 60) (hw : sz = w + 12) (hw0 : 0 < w) (hsz : sz ≤ 80) (hmw : m * w ≤ 4080) (hm1 : 1 ≤ m) (hrp : rp ≤ 3) (hms : pr + ms = m) (hpb : ∀ j, pb j < 256) (hln : ∀ j, ln j < 256) (hsn : ∀ j, sn j < 256) (hsz20 : 20 ≤ sz) (hcm : cnt (fun j => pl j = none) m = ms) (hplk : ∀ j k, j < 63 → pl j = some k → k < 60 ∧ ss k = sz) (hrz : rd + 11 < z ∨ z + 121 < rd) (hms0 : ¬ ms = 0) (hms1 : ms ≤ cnt (fun j => ¬ onI (pl (m + j)) = -2) rp) : mn_R E MRd_makeAgain 4 95 0 0 0 [(0, .ref rd), (1, .ref z)] [] g (fun x g' => x = none ∧ mn_fr (fun q => q = rd ∨ q = rd + 1 + 1 ∨ q = rd + 1 + 2 ∨ q = rd + 1 + 3 ∨ (rd + 5 ≤ q ∧ q < rd + 12)) g g' ∧ mn_at g' rd (.inr (3, [.ref (rd + 1), .ref (rd + 5), .ref (rd + 6), .int dn, .int (nI sz), .int (nI rp), .int (nI pr), .int (nI (ma + ms))])) ∧ mn_at g' (rd + 1) (.inr (2, [.ref (rd + 1 + 3), .ref (rd + 1 + 1), .ref (rd + 1 + 2), .int (nI m), .int (nI w)])) ∧ mn_at g' (rd + 1 + 3) (.inl (0, 4080, .inl (fun j => nI ((tuB pb (unK nu pl m) w (fun u i => elO (rkS pl sb (unK nu pl m) ms ms pb ln sn w m sz rw rp).1 ms ms u (3 + i)) ms) j)))) ∧ mn_at g' (rd + 1 + 1) (.inl (0, 60, .inl (fun j => nI ((tuA ln (unK nu pl m) (fun v => (fun u i => elO (rkS pl sb (unK nu pl m) ms ms pb ln sn w m sz rw rp).1 ms ms u (3 + i)) v 6) ms) j)))) ∧ mn_at g' (rd + 1 + 2) (.inl (0, 60, .inl (fun j => nI ((tuA sn (unK nu pl m) (fun v => (fun u i => elO (rkS pl sb (unK nu pl m) ms ms pb ln sn w m sz rw rp).1 ms ms u (3 + i)) v 7) ms) j)))) ∧ mn_at g' (rd + 5) (.inl (0, 63, .inl (fun j => onI ((tuP pl (unK nu pl m) ms) j)))) ∧ ∃ (r9 : Nat → Nat → Nat) (n9 : Nat → Nat) (u9 v9 : Nat), EqP g' (rd + 6) r9 n9 u9 v9) := by
  have hcr := cnt_le (fun j => ¬ onI (pl (m + j)) = -2) rp
  have hE1 := hE.1
  have hz := hSl.1
  refine mn_aload_n 0 dRd_makeAgain_0 rfl rfl ?_
  refine mn_get okRd 0 lRd_14 (by decide) hR rfl dRd_makeAgain_1 ?_
  refine mn_get okPc 3 lRd_93 (by decide) ha rfl dRd_makeAgain_4 ?_
  refine mn_aload_n 0 dRd_makeAgain_7 rfl rfl ?_
  refine mn_get okRd 6 lRd_66 (by decide) hR rfl dRd_makeAgain_8 ?_
  refine mn_isub (z := nI ms) dRd_makeAgain_11 ((pk_sub (a := m) (b := pr) (by omega)).trans (by rw [show m - pr = ms by omega])) ?_
  refine mn_istore_n (ls' := [(0, .ref rd), (1, .ref z), (2, .int (nI ms))]) dRd_makeAgain_12 rfl (by decide) rfl ?_
  refine mn_iload_n 2 dRd_makeAgain_13 rfl rfl ?_
  refine mn_if_eq 25 dRd_makeAgain_14 (by decide) (fun c1 => ?_) (fun c1 => ?_)
  · have c1 := (nI_eq (a := ms) (b := 0) (by omega) (by omega)).mp c1
    exact mn_vret rfl dRd_makeAgain_25 (absurd hms1 (by omega))
  · have c1 := mt (nI_eq (a := ms) (b := 0) (by omega) (by omega)).mpr c1
    refine mn_iload_n 2 dRd_makeAgain_17 rfl rfl ?_
    refine mn_aload_n 0 dRd_makeAgain_18 rfl rfl ?_
    refine mn_cV (d' := 1) (w' := 21) (As := []) (stk' := [.int (nI (cnt (fun j => ¬ onI (pl (m + j)) = -2) rp)), .int (nI ms)]) okRd_repairsOfIt lRd_110 dRd_makeAgain_19 hR rfl rfl rfl rfl (Nat.le_of_ble_eq_true rfl) (Nat.le_of_ble_eq_true rfl) (by decide) (c_Rd_reps hR ha hb hl hs hp hm hrp) rfl ?_
    refine mn_icmp_le 26 dRd_makeAgain_22 (by decide) (fun c2 => ?_) (fun c2 => ?_)
    · have c2 := (nI_leI (a := ms) (b := (cnt (fun j => ¬ onI (pl (m + j)) = -2) rp)) (by omega) (by omega)).mp c2
      refine mn_aload_n 0 dRd_makeAgain_26 rfl rfl ?_
      refine mn_get okRd 2 lRd_27 (by decide) hR rfl dRd_makeAgain_27 ?_
      refine mn_callV (d' := 0) (w' := 0) (nc' := 0) (ns' := 0) (As := []) (st := []) okEq_forgetAll lRd_114 dRd_makeAgain_30 hE1 rfl rfl rfl rfl (Nat.le_of_ble_eq_true rfl) (Nat.le_of_ble_eq_true rfl) (by decide) (c_E_forget hE) (fun v g3 hq => ?_)
      obtain ⟨rfl, fg3, hE_g3⟩ := hq
      show mn_R E MRd_makeAgain 4 95 _ _ 33 [(0, .ref rd), (1, .ref z), (2, .int (nI ms))] [] g3 _
      have hE1_g3 := hE_g3.1
      have hR_g3 := hR.fr fg3 (fun h => by have h9 : rd = rd + 6 := h; omega)
      have ha_g3 := ha.fr fg3 (fun h => by have h9 : (rd + 1) = rd + 6 := h; omega)
      have hb_g3 := hb.fr fg3 (fun h => by have h9 : (rd + 1 + 3) = rd + 6 := h; omega)
      have hl_g3 := hl.fr fg3 (fun h => by have h9 : (rd + 1 + 1) = rd + 6 := h; omega)
      have hs_g3 := hs.fr fg3 (fun h => by have h9 : (rd + 1 + 2) = rd + 6 := h; omega)
      have hp_g3 := hp.fr fg3 (fun h => by have h9 : (rd + 5) = rd + 6 := h; omega)
      have hz_g3 := hz.fr fg3 (fun h => by have h9 : z = rd + 6 := h; omega)
      have hSl_g3 : SlP g3 z pi ss sb := hSl.fr fg3 (fun q q1 q2 h => by have h9 : q = rd + 6 := h; omega)
      refine mn_iconst (v := 0) dRd_makeAgain_33 (by decide) ?_
      refine mn_istore_n (ls' := [(0, .ref rd), (1, .ref z), (2, .int (nI ms)), (3, .int 0)]) dRd_makeAgain_34 rfl (by decide) rfl ?_
      refine mn_R.sub [0, 1, 2, 3] (ls' := [(0, .ref rd), (1, .ref z), (2, .int (nI ms)), (3, .int 0)]) rfl ?_
      refine c_Rd_again_1 (nu := nu) hm (by omega) hcm hplk hrz (fun g8 hf8 hR8 ha8 hb8 hl8 hs8 hp8 hE8 hSl8 => ?_) (m + 1) 0 g3 (by omega) (by omega) mn_fr.rf hR_g3 ha_g3 hb_g3 hl_g3 hs_g3 hp_g3 hE_g3 hSl_g3
      rw [hcm] at hE8
      refine mn_iconst (v := 0) dRd_makeAgain_70 (by decide) ?_
      refine mn_istore_n (ls' := [(0, .ref rd), (1, .ref z), (2, .int (nI ms)), (3, .int 0)]) dRd_makeAgain_71 rfl (by decide) rfl ?_
      refine mn_R.post (c_Rd_again_2 (R0 := rw) hm hw hw0 hsz hmw hm1 hrp hms hpb hln hsn hsz20 (by omega) (fun i hi => (unK_lt (by rw [hcm]; exact hi)).1) hplk hrz (rp + 1) 0 g8 rw 0 (by omega) (by omega) mn_fr.rf rfl hR8 ha8 hb8 hl8 hs8 hp8 hE8 hSl8) (fun x g' hq => ⟨hq.1, ((mn_fr.rf.tr (fg3.mo (fun q h => by have h9 : q = rd + 6 := h; show q = rd ∨ q = rd + 1 + 1 ∨ q = rd + 1 + 2 ∨ q = rd + 1 + 3 ∨ (rd + 5 ≤ q ∧ q < rd + 12); omega))).tr (hf8.mo (fun q h => by have h9 : rd + 6 ≤ q ∧ q < rd + 12 := h; show q = rd ∨ q = rd + 1 + 1 ∨ q = rd + 1 + 2 ∨ q = rd + 1 + 3 ∨ (rd + 5 ≤ q ∧ q < rd + 12); omega))).tr hq.2.1, hq.2.2⟩)
    · have c2 := mt (nI_leI (a := ms) (b := (cnt (fun j => ¬ onI (pl (m + j)) = -2) rp)) (by omega) (by omega)).mpr c2
      exact mn_vret rfl dRd_makeAgain_25 (absurd hms1 (by omega))
