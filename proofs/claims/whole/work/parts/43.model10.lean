theorem ix_inj {a b w i j : Nat} (hi : i < w) (hj : j < w) (h : a * w + i = b * w + j) : a = b ∧ i = j := by
  have e1 : (a * w + i) / w = a := div_of (by omega) (by omega)
  have e2 : (b * w + j) / w = b := div_of (by omega) (by omega)
  have e : a = b := by rw [← e1, h, e2]
  subst e
  exact ⟨rfl, by omega⟩
theorem eL_fe {pm : Nat → Option Nat} {f h : Nat → Nat} (e : ∀ n, ¬ pm n = none → f n = h n) : eL pm f = eL pm h := by
  funext n
  by_cases c : pm n = none
  · rw [eL_n c, eL_n c]
  · rw [eL_y c, eL_y c, e n c]
set_option maxRecDepth 100000 in
theorem c_M_mk1 {E : mn_En} {g : mn_H} {mo tl e sz rp st m r wd ag td om : Nat} {ir : Int32} {lk : Nat → Nat} {pm : Nat → Option Nat} {Q : Option Value → mn_H → Prop} (hm : m ≤ 60) (hpm : ∀ j q, j < 64 → pm j = some q → q < 1000) (KK : ∀ g1, mn_fr (fun q => q = mo + 14) g g1 → mn_at g1 mo (.inr (11, [.int 0, .ref (mo + 1), .int (nI tl), .ref (mo + 2), .ref (mo + 3), .int (nI e), .int (nI sz), .int (nI rp), .int (nI st), .ref (mo + 4), .ref (mo + 5), .ref (mo + 6), .int ir, .int (nI m), .int (nI r), .int (nI wd), .int (nI ag), .ref (mo + 7), .ref (mo + 8), .ref (mo + 9), .ref (mo + 10), .int (nI td), .int (nI om), .ref (mo + 11), .ref (mo + 12), .ref (mo + 13), .ref (mo + 14), .ref (mo + 15), .ref (mo + 16)])) → mn_at g1 (mo + 7) (.inl (0, 64, .inl (fun j => onI (pm j)))) → mn_at g1 (mo + 14) (.inl (0, 60, .inl (fun j => nI ((unK lk pm m) j)))) → mn_R E MMo_makeAgain 3 74 0 0 44 [(0, .ref mo), (1, .int (nI (cnt (fun j => pm j = none) m)))] [] g1 Q) : ∀ (fu n : Nat) (g0 : mn_H), n ≤ m → m - n < fu → mn_fr (fun q => q = mo + 14) g g0 → mn_at g0 mo (.inr (11, [.int 0, .ref (mo + 1), .int (nI tl), .ref (mo + 2), .ref (mo + 3), .int (nI e), .int (nI sz), .int (nI rp), .int (nI st), .ref (mo + 4), .ref (mo + 5), .ref (mo + 6), .int ir, .int (nI m), .int (nI r), .int (nI wd), .int (nI ag), .ref (mo + 7), .ref (mo + 8), .ref (mo + 9), .ref (mo + 10), .int (nI td), .int (nI om), .ref (mo + 11), .ref (mo + 12), .ref (mo + 13), .ref (mo + 14), .ref (mo + 15), .ref (mo + 16)])) → mn_at g0 (mo + 7) (.inl (0, 64, .inl (fun j => onI (pm j)))) → mn_at g0 (mo + 14) (.inl (0, 60, .inl (fun j => nI ((unK lk pm n) j)))) → mn_R E MMo_makeAgain 3 74 0 0 9 [(0, .ref mo), (1, .int (nI (cnt (fun j => pm j = none) n))), (2, .int (nI n))] [] g0 (Q) := by
  intro fu
  induction fu with
  | zero => intro n g0 h1 h2; exact absurd h2 (by omega)
  | succ fu ih =>
    intro n g0 h1 h2 hfr hM hPm hLk
    have hcn := cnt_le (fun j => pm j = none) n
    refine mn_iload_n 2 dMo_makeAgain_9 rfl rfl ?_
    refine mn_aload_n 0 dMo_makeAgain_10 rfl rfl ?_
    refine mn_get okMo 13 lMo_144 (by decide) hM rfl dMo_makeAgain_11 ?_
    refine mn_icmp_ge 44 dMo_makeAgain_14 (by decide) (fun c1 => ?_) (fun c1 => ?_)
    · have c1 := (nI_leI (a := m) (b := n) (by omega) (by omega)).mp c1
      refine mn_R.sub [0, 1] (ls' := [(0, .ref mo), (1, .int (nI (cnt (fun j => pm j = none) n)))]) rfl ?_
      obtain rfl : n = m := (by omega)
      exact KK g0 hfr hM hPm hLk
    · have c1 := _root_.mt (nI_leI (a := m) (b := n) (by omega) (by omega)).mpr c1
      refine mn_aload_n 0 dMo_makeAgain_17 rfl rfl ?_
      refine mn_get okMo 17 lMo_35 (by decide) hM rfl dMo_makeAgain_18 ?_
      refine mn_iload_n 2 dMo_makeAgain_21 rfl rfl ?_
      refine mn_ialdN (j := n) hPm rfl (by omega) (by omega) dMo_makeAgain_22 ?_
      refine mn_bipush (v := (-2)) dMo_makeAgain_23 (by decide) ?_
      refine mn_icmp_ne 38 dMo_makeAgain_25 (by decide) (fun c2 => ?_) (fun c2 => ?_)
      · have hpn : ¬ pm n = none := fun q => c2 ((onI_e (fun q hq => hpm _ q (by omega) hq)).mpr q)
        refine mn_iinc (v := nI (n + 1)) (ls' := [(0, .ref mo), (1, .int (nI (cnt (fun j => pm j = none) n))), (2, .int (nI (n + 1)))]) 2 dMo_makeAgain_38 rfl (nI_add n 1) (by decide) rfl ?_
        refine mn_goto 9 dMo_makeAgain_41 (by decide) ?_
        have h9 : mn_at g0 (mo + 14) (.inl (0, 60, .inl (fun j => nI ((unK lk pm (n + 1)) j)))) := by rw [unK_n hpn]; exact hLk
        rw [← cnt_n (P := (fun j => pm j = none)) (k := n) hpn]
        exact ih (n + 1) g0 (by omega) (by omega) hfr hM hPm h9
      · have hpn : pm n = none := (onI_e (fun q hq => hpm _ q (by omega) hq)).mp c2
        refine mn_aload_n 0 dMo_makeAgain_28 rfl rfl ?_
        refine mn_get okMo 26 lMo_56 (by decide) hM rfl dMo_makeAgain_29 ?_
        refine mn_iload_n 1 dMo_makeAgain_32 rfl rfl ?_
        refine mn_iload_n 2 dMo_makeAgain_33 rfl rfl ?_
        refine mn_iastN (j := cnt (fun j => pm j = none) n) hLk rfl (by omega) (by omega) dMo_makeAgain_34 ?_
        obtain ⟨g3, eg3⟩ : ∃ gg_, gg_ = mn_set g0 (mo + 14) (.inl (0, 60, .inl (upd (fun j => nI ((unK lk pm n) j)) (cnt (fun j => pm j = none) n) (nI n)))) := ⟨_, rfl⟩
        refine mn_R.toG eg3 ?_
        have hM_g3 : mn_at g3 mo (.inr (11, [.int 0, .ref (mo + 1), .int (nI tl), .ref (mo + 2), .ref (mo + 3), .int (nI e), .int (nI sz), .int (nI rp), .int (nI st), .ref (mo + 4), .ref (mo + 5), .ref (mo + 6), .int ir, .int (nI m), .int (nI r), .int (nI wd), .int (nI ag), .ref (mo + 7), .ref (mo + 8), .ref (mo + 9), .ref (mo + 10), .int (nI td), .int (nI om), .ref (mo + 11), .ref (mo + 12), .ref (mo + 13), .ref (mo + 14), .ref (mo + 15), .ref (mo + 16)])) := by rw [eg3]; exact hM.off (by omega)
        have hPm_g3 : mn_at g3 (mo + 7) (.inl (0, 64, .inl (fun j => onI (pm j)))) := by rw [eg3]; exact hPm.off (by omega)
        have hLk_g3 : mn_at g3 (mo + 14) (.inl (0, 60, .inl (upd (fun j => nI ((unK lk pm n) j)) (cnt (fun j => pm j = none) n) (nI n)))) := by rw [eg3]; exact hLk.same
        refine mn_iinc (v := nI (cnt (fun j => pm j = none) n + 1)) (ls' := [(0, .ref mo), (1, .int (nI (cnt (fun j => pm j = none) n + 1))), (2, .int (nI n))]) 1 dMo_makeAgain_35 rfl (nI_add (cnt (fun j => pm j = none) n) 1) (by decide) rfl ?_
        refine mn_iinc (v := nI (n + 1)) (ls' := [(0, .ref mo), (1, .int (nI (cnt (fun j => pm j = none) n + 1))), (2, .int (nI (n + 1)))]) 2 dMo_makeAgain_38 rfl (nI_add n 1) (by decide) rfl ?_
        refine mn_goto 9 dMo_makeAgain_41 (by decide) ?_
        rw [upd_nI, ← unK_y hpn] at hLk_g3
        rw [← cnt_y (P := (fun j => pm j = none)) (k := n) hpn]
        exact ih (n + 1) g3 (by omega) (by omega) (hfr.set eg3 (by show (mo + 14) = mo + 14; omega)) hM_g3 hPm_g3 hLk_g3
set_option maxRecDepth 100000 in
theorem c_M_mk2 {E : mn_En} {g : mn_H} {mo tl e sz rp st m r wd ag td om : Nat} {ir : Int32} {bb : Nat → Nat} {pm : Nat → Option Nat} {ms : Nat} {Q : Option Value → mn_H → Prop} (hm : m ≤ 60) (hpm : ∀ j q, j < 64 → pm j = some q → q < 1000) (hr3 : r ≤ 3) (hms : ms ≤ 60) (KK : ∀ g1, mn_fr (fun q => q = mo + 15) g g1 → mn_at g1 mo (.inr (11, [.int 0, .ref (mo + 1), .int (nI tl), .ref (mo + 2), .ref (mo + 3), .int (nI e), .int (nI sz), .int (nI rp), .int (nI st), .ref (mo + 4), .ref (mo + 5), .ref (mo + 6), .int ir, .int (nI m), .int (nI r), .int (nI wd), .int (nI ag), .ref (mo + 7), .ref (mo + 8), .ref (mo + 9), .ref (mo + 10), .int (nI td), .int (nI om), .ref (mo + 11), .ref (mo + 12), .ref (mo + 13), .ref (mo + 14), .ref (mo + 15), .ref (mo + 16)])) → mn_at g1 (mo + 7) (.inl (0, 64, .inl (fun j => onI (pm j)))) → mn_at g1 (mo + 15) (.inl (0, 3, .inl (fun j => nI (((byS pm m ms bb r).1) j)))) → mn_R E MMo_makeAgain 3 74 0 0 93 [(0, .ref mo), (1, .int (nI ms)), (2, .int (nI (byS pm m ms bb r).2))] [] g1 Q) : ∀ (fu jb : Nat) (g0 : mn_H), jb ≤ r → r - jb < fu → mn_fr (fun q => q = mo + 15) g g0 → mn_at g0 mo (.inr (11, [.int 0, .ref (mo + 1), .int (nI tl), .ref (mo + 2), .ref (mo + 3), .int (nI e), .int (nI sz), .int (nI rp), .int (nI st), .ref (mo + 4), .ref (mo + 5), .ref (mo + 6), .int ir, .int (nI m), .int (nI r), .int (nI wd), .int (nI ag), .ref (mo + 7), .ref (mo + 8), .ref (mo + 9), .ref (mo + 10), .int (nI td), .int (nI om), .ref (mo + 11), .ref (mo + 12), .ref (mo + 13), .ref (mo + 14), .ref (mo + 15), .ref (mo + 16)])) → mn_at g0 (mo + 7) (.inl (0, 64, .inl (fun j => onI (pm j)))) → mn_at g0 (mo + 15) (.inl (0, 3, .inl (fun j => nI (((byS pm m ms bb jb).1) j)))) → mn_R E MMo_makeAgain 3 74 0 0 48 [(0, .ref mo), (1, .int (nI ms)), (2, .int (nI ((byS pm m ms bb jb).2))), (3, .int (nI jb))] [] g0 (Q) := by
  intro fu
  induction fu with
  | zero => intro jb g0 h1 h2; exact absurd h2 (by omega)
  | succ fu ih =>
    intro jb g0 h1 h2 hfr hM hPm hBy
    have hb2 := (by_all (pl := pm) (m := m) (ms := ms) (bb := bb) jb).1
    have hb3 := cnt_le (fun i => pm (m + i) ≠ none) jb
    have hb4 : (byS pm m ms bb jb).2 ≤ jb := by omega
    refine mn_iload_n 3 dMo_makeAgain_48 rfl rfl ?_
    refine mn_aload_n 0 dMo_makeAgain_49 rfl rfl ?_
    refine mn_get okMo 14 lMo_147 (by decide) hM rfl dMo_makeAgain_50 ?_
    refine mn_icmp_ge 93 dMo_makeAgain_53 (by decide) (fun c1 => ?_) (fun c1 => ?_)
    · have c1 := (nI_leI (a := r) (b := jb) (by omega) (by omega)).mp c1
      refine mn_R.sub [0, 1, 2] (ls' := [(0, .ref mo), (1, .int (nI ms)), (2, .int (nI ((byS pm m ms bb jb).2)))]) rfl ?_
      obtain rfl : jb = r := (by omega)
      exact KK g0 hfr hM hPm hBy
    · have c1 := _root_.mt (nI_leI (a := r) (b := jb) (by omega) (by omega)).mpr c1
      refine mn_aload_n 0 dMo_makeAgain_56 rfl rfl ?_
      refine mn_get okMo 17 lMo_35 (by decide) hM rfl dMo_makeAgain_57 ?_
      refine mn_aload_n 0 dMo_makeAgain_60 rfl rfl ?_
      refine mn_get okMo 13 lMo_144 (by decide) hM rfl dMo_makeAgain_61 ?_
      refine mn_iload_n 3 dMo_makeAgain_64 rfl rfl ?_
      refine mn_iadd (z := nI (m + jb)) dMo_makeAgain_65 (nI_add m jb) ?_
      refine mn_ialdN (j := m + jb) hPm rfl (by omega) (by omega) dMo_makeAgain_66 ?_
      refine mn_bipush (v := (-2)) dMo_makeAgain_67 (by decide) ?_
      refine mn_icmp_eq 87 dMo_makeAgain_69 (by decide) (fun c2 => ?_) (fun c2 => ?_)
      · have hpn : pm (m + jb) = none := (onI_e (fun q hq => hpm _ q (by omega) hq)).mp c2
        refine mn_iinc (v := nI (jb + 1)) (ls' := [(0, .ref mo), (1, .int (nI ms)), (2, .int (nI ((byS pm m ms bb jb).2))), (3, .int (nI (jb + 1)))]) 3 dMo_makeAgain_87 rfl (nI_add jb 1) (by decide) rfl ?_
        refine mn_goto 48 dMo_makeAgain_90 (by decide) ?_
        have e9 := byS_n (bb := bb) (ms := ms) (pl := pm) (m := m) (j := jb) (fun q => q.1 hpn)
        have h9 := hBy
        rw [← e9] at h9
        rw [← e9]
        exact ih (jb + 1) g0 (by omega) (by omega) hfr hM hPm h9
      · have hpn : ¬ pm (m + jb) = none := fun q => c2 ((onI_e (fun q hq => hpm _ q (by omega) hq)).mpr q)
        refine mn_iload_n 2 dMo_makeAgain_72 rfl rfl ?_
        refine mn_iload_n 1 dMo_makeAgain_73 rfl rfl ?_
        refine mn_icmp_ge 87 dMo_makeAgain_74 (by decide) (fun c3 => ?_) (fun c3 => ?_)
        · have c3 := (nI_leI (a := ms) (b := ((byS pm m ms bb jb).2)) (by omega) (by omega)).mp c3
          refine mn_iinc (v := nI (jb + 1)) (ls' := [(0, .ref mo), (1, .int (nI ms)), (2, .int (nI ((byS pm m ms bb jb).2))), (3, .int (nI (jb + 1)))]) 3 dMo_makeAgain_87 rfl (nI_add jb 1) (by decide) rfl ?_
          refine mn_goto 48 dMo_makeAgain_90 (by decide) ?_
          have e9 := byS_n (bb := bb) (ms := ms) (pl := pm) (m := m) (j := jb) (fun q => absurd q.2 (by omega))
          have h9 := hBy
          rw [← e9] at h9
          rw [← e9]
          exact ih (jb + 1) g0 (by omega) (by omega) hfr hM hPm h9
        · have c3 := _root_.mt (nI_leI (a := ms) (b := ((byS pm m ms bb jb).2)) (by omega) (by omega)).mpr c3
          refine mn_aload_n 0 dMo_makeAgain_77 rfl rfl ?_
          refine mn_get okMo 27 lMo_59 (by decide) hM rfl dMo_makeAgain_78 ?_
          refine mn_iload_n 2 dMo_makeAgain_81 rfl rfl ?_
          refine mn_iload_n 3 dMo_makeAgain_82 rfl rfl ?_
          refine mn_iastN (j := (byS pm m ms bb jb).2) hBy rfl (by omega) (by omega) dMo_makeAgain_83 ?_
          obtain ⟨g4, eg4⟩ : ∃ gg_, gg_ = mn_set g0 (mo + 15) (.inl (0, 3, .inl (upd (fun j => nI (((byS pm m ms bb jb).1) j)) ((byS pm m ms bb jb).2) (nI jb)))) := ⟨_, rfl⟩
          refine mn_R.toG eg4 ?_
          have hM_g4 : mn_at g4 mo (.inr (11, [.int 0, .ref (mo + 1), .int (nI tl), .ref (mo + 2), .ref (mo + 3), .int (nI e), .int (nI sz), .int (nI rp), .int (nI st), .ref (mo + 4), .ref (mo + 5), .ref (mo + 6), .int ir, .int (nI m), .int (nI r), .int (nI wd), .int (nI ag), .ref (mo + 7), .ref (mo + 8), .ref (mo + 9), .ref (mo + 10), .int (nI td), .int (nI om), .ref (mo + 11), .ref (mo + 12), .ref (mo + 13), .ref (mo + 14), .ref (mo + 15), .ref (mo + 16)])) := by rw [eg4]; exact hM.off (by omega)
          have hPm_g4 : mn_at g4 (mo + 7) (.inl (0, 64, .inl (fun j => onI (pm j)))) := by rw [eg4]; exact hPm.off (by omega)
          have hBy_g4 : mn_at g4 (mo + 15) (.inl (0, 3, .inl (upd (fun j => nI (((byS pm m ms bb jb).1) j)) ((byS pm m ms bb jb).2) (nI jb)))) := by rw [eg4]; exact hBy.same
          refine mn_iinc (v := nI ((byS pm m ms bb jb).2 + 1)) (ls' := [(0, .ref mo), (1, .int (nI ms)), (2, .int (nI ((byS pm m ms bb jb).2 + 1))), (3, .int (nI jb))]) 2 dMo_makeAgain_84 rfl (nI_add ((byS pm m ms bb jb).2) 1) (by decide) rfl ?_
          refine mn_iinc (v := nI (jb + 1)) (ls' := [(0, .ref mo), (1, .int (nI ms)), (2, .int (nI ((byS pm m ms bb jb).2 + 1))), (3, .int (nI (jb + 1)))]) 3 dMo_makeAgain_87 rfl (nI_add jb 1) (by decide) rfl ?_
          refine mn_goto 48 dMo_makeAgain_90 (by decide) ?_
          have e9 := byS_y (bb := bb) (ms := ms) hpn (by omega)
          have e1 : (byS pm m ms bb (jb + 1)).1 = va_up (byS pm m ms bb jb).1 (byS pm m ms bb jb).2 jb := by rw [e9]
          have e2 : (byS pm m ms bb (jb + 1)).2 = (byS pm m ms bb jb).2 + 1 := by rw [e9]
          rw [upd_nI, ← e1] at hBy_g4
          rw [← e2]
          exact ih (jb + 1) g4 (by omega) (by omega) (hfr.set eg4 (by show (mo + 15) = mo + 15; omega)) hM_g4 hPm_g4 hBy_g4
set_option maxRecDepth 100000 in
theorem c_M_mk3 {E : mn_En} {g : mn_H} {mo tl e sz rp st m r wd ag td om : Nat} {ir : Int32} {sl mg lk bb : Nat → Nat} {pm : Nat → Option Nat} {k hp : Nat} {pk : Nat → Nat} {Q : Option Value → mn_H → Prop} (hk3 : k ≤ 3) (hk0 : 0 < k) (hm : m ≤ 60) (hpm : ∀ j q, j < 64 → pm j = some q → q < 1000) (hwd : 20 ≤ wd) (hwd2 : wd ≤ 80) (hmw : m * (wd - 12) ≤ 4080) (hbb : ∀ j, bb j < 3) (hlk : ∀ j, lk j < 60) (hpk : ∀ a, a < k → pm (m + bb a) = some (pk a) ∧ pk a < 60) (hslb : ∀ j, sl j < 256) (hlkm : ∀ u, u < k → lk u < m) (hlkn : ∀ u, u < k → pm (lk u) = none) (hli : ∀ u u9, u < u9 → u9 < k → lk u < lk u9) (hbi : ∀ u u9, u < u9 → u9 < k → bb u < bb u9) (KK : ∀ (g1 : mn_H) (gr mg9 : Nat → Nat), mn_fr (fun q => q = mo + 16 ∨ q = mo + 10) g g1 → (∀ j, gr j < 256) → (∀ j, mg9 j < 256) → (∀ u, u < k → ∀ i9, i9 < wd - 12 → mg9 (lk u * (wd - 12) + i9) = XM bb lk (fun a0 => sl (80 * pk a0 + 12 + i9)) (eL pm (fun n0 => mg (n0 * (wd - 12) + i9))) m k u) → (∀ p, (∀ u, u < k → ¬ (lk u * (wd - 12) ≤ p ∧ p < lk u * (wd - 12) + (wd - 12))) → mg9 p = mg p) → mn_at g1 mo (.inr (11, [.int 0, .ref (mo + 1), .int (nI tl), .ref (mo + 2), .ref (mo + 3), .int (nI e), .int (nI sz), .int (nI rp), .int (nI st), .ref (mo + 4), .ref (mo + 5), .ref (mo + 6), .int ir, .int (nI m), .int (nI r), .int (nI wd), .int (nI ag), .ref (mo + 7), .ref (mo + 8), .ref (mo + 9), .ref (mo + 10), .int (nI td), .int (nI om), .ref (mo + 11), .ref (mo + 12), .ref (mo + 13), .ref (mo + 14), .ref (mo + 15), .ref (mo + 16)])) → mn_at g1 (mo + 4) (.inl (0, 4800, .inl (fun j => nI (sl j)))) → mn_at g1 (mo + 7) (.inl (0, 64, .inl (fun j => onI (pm j)))) → mn_at g1 (mo + 10) (.inl (0, 4800, .inl (fun j => nI (mg9 j)))) → mn_at g1 (mo + 14) (.inl (0, 60, .inl (fun j => nI (lk j)))) → mn_at g1 (mo + 15) (.inl (0, 3, .inl (fun j => nI (bb j)))) → mn_at g1 (mo + 16) (.inl (0, 12, .inl (fun j => nI (gr j)))) → mn_R E MMo_makeAgain 3 74 0 0 129 [(0, .ref mo), (1, .int (nI k))] [] g1 Q) : ∀ (fu i : Nat) (g0 : mn_H) (gr mg9 : Nat → Nat), i ≤ wd - 12 → wd - 12 - i < fu → mn_fr (fun q => q = mo + 16 ∨ q = mo + 10) g g0 → (∀ j, gr j < 256) → (∀ j, mg9 j < 256) → (∀ u, u < k → ∀ i9, i9 < i → mg9 (lk u * (wd - 12) + i9) = XM bb lk (fun a0 => sl (80 * pk a0 + 12 + i9)) (eL pm (fun n0 => mg (n0 * (wd - 12) + i9))) m k u) → (∀ p, (∀ u, u < k → ¬ (lk u * (wd - 12) ≤ p ∧ p < lk u * (wd - 12) + (wd - 12))) → mg9 p = mg p) → mn_at g0 mo (.inr (11, [.int 0, .ref (mo + 1), .int (nI tl), .ref (mo + 2), .ref (mo + 3), .int (nI e), .int (nI sz), .int (nI rp), .int (nI st), .ref (mo + 4), .ref (mo + 5), .ref (mo + 6), .int ir, .int (nI m), .int (nI r), .int (nI wd), .int (nI ag), .ref (mo + 7), .ref (mo + 8), .ref (mo + 9), .ref (mo + 10), .int (nI td), .int (nI om), .ref (mo + 11), .ref (mo + 12), .ref (mo + 13), .ref (mo + 14), .ref (mo + 15), .ref (mo + 16)])) → mn_at g0 (mo + 4) (.inl (0, 4800, .inl (fun j => nI (sl j)))) → mn_at g0 (mo + 7) (.inl (0, 64, .inl (fun j => onI (pm j)))) → mn_at g0 (mo + 10) (.inl (0, 4800, .inl (fun j => nI (mg9 j)))) → mn_at g0 (mo + 14) (.inl (0, 60, .inl (fun j => nI (lk j)))) → mn_at g0 (mo + 15) (.inl (0, 3, .inl (fun j => nI (bb j)))) → mn_at g0 (mo + 16) (.inl (0, 12, .inl (fun j => nI (gr j)))) → mn_R E MMo_makeAgain 3 74 0 0 102 [(0, .ref mo), (1, .int (nI k)), (2, .int (nI hp)), (3, .int (nI i))] [] g0 (Q) := by
  intro fu
  induction fu with
  | zero => intro i g0 gr mg9 h1 h2; exact absurd h2 (by omega)
  | succ fu ih =>
    intro i g0 gr mg9 h1 h2 hfr hgb hgot hg1 hg2 hM hSo hPm hMg hLk hBy hGr
    refine mn_iload_n 3 dMo_makeAgain_102 rfl rfl ?_
    refine mn_aload_n 0 dMo_makeAgain_103 rfl rfl ?_
    refine mn_get okMo 15 lMo_150 (by decide) hM rfl dMo_makeAgain_104 ?_
    refine mn_bipush (v := 12) dMo_makeAgain_107 (by decide) ?_
    refine mn_isub (z := nI (wd - 12)) dMo_makeAgain_109 (pk_sub (a := wd) (b := 12) (by omega)) ?_
    refine mn_icmp_ge 129 dMo_makeAgain_110 (by decide) (fun c1 => ?_) (fun c1 => ?_)
    · have c1 := (nI_leI (a := (wd - 12)) (b := i) (by omega) (by omega)).mp c1
      refine mn_R.sub [0, 1] (ls' := [(0, .ref mo), (1, .int (nI k))]) rfl ?_
      obtain rfl : i = wd - 12 := (by omega)
      exact KK g0 gr mg9 hfr hgb hgot hg1 hg2 hM hSo hPm hMg hLk hBy hGr
    · have c1 := _root_.mt (nI_leI (a := (wd - 12)) (b := i) (by omega) (by omega)).mpr c1
      refine mn_iload_n 1 dMo_makeAgain_113 rfl rfl ?_
      refine mn_if_le 129 dMo_makeAgain_114 (by decide) (fun c2 => ?_) (fun c2 => ?_)
      · have c2 := (nI_leI (a := k) (b := 0) (by omega) (by omega)).mp c2
        exact absurd c2 (by omega)
      · have c2 := _root_.mt (nI_leI (a := k) (b := 0) (by omega) (by omega)).mpr c2
        refine mn_aload_n 0 dMo_makeAgain_117 rfl rfl ?_
        refine mn_iload_n 1 dMo_makeAgain_118 rfl rfl ?_
        refine mn_iload_n 3 dMo_makeAgain_119 rfl rfl ?_
        refine mn_callV (d' := 2) (w' := 46) (nc' := 0) (ns' := 0) (As := [.int (nI k), .int (nI i)]) (st := []) okMo_solve lMo_162 dMo_makeAgain_120 hM rfl rfl rfl rfl (Nat.le_of_ble_eq_true rfl) (Nat.le_of_ble_eq_true rfl) (by decide) (c_M_solveB hM hSo hPm hMg hLk hBy hGr hk3 hm hpm hbb hlk hpk hslb hgot hwd hwd2 hmw (i := i) (by omega) hlkm hgb hli hbi) (fun v g3 hq => ?_)
        obtain ⟨rfl, fg3, G8, T8, hG8, hT8, hGb8, hTb8, hX8, hO8⟩ := hq
        show mn_R E MMo_makeAgain 3 74 _ _ 123 [(0, .ref mo), (1, .int (nI k)), (2, .int (nI hp)), (3, .int (nI i))] [] g3 _
        have hM_g3 := hM.fr fg3 (fun h => by have h9 : mo = mo + 16 ∨ mo = mo + 10 := h; omega)
        have hSo_g3 := hSo.fr fg3 (fun h => by have h9 : (mo + 4) = mo + 16 ∨ (mo + 4) = mo + 10 := h; omega)
        have hPm_g3 := hPm.fr fg3 (fun h => by have h9 : (mo + 7) = mo + 16 ∨ (mo + 7) = mo + 10 := h; omega)
        have hLk_g3 := hLk.fr fg3 (fun h => by have h9 : (mo + 14) = mo + 16 ∨ (mo + 14) = mo + 10 := h; omega)
        have hBy_g3 := hBy.fr fg3 (fun h => by have h9 : (mo + 15) = mo + 16 ∨ (mo + 15) = mo + 10 := h; omega)
        refine mn_iinc (v := nI (i + 1)) (ls' := [(0, .ref mo), (1, .int (nI k)), (2, .int (nI hp)), (3, .int (nI (i + 1)))]) 3 dMo_makeAgain_123 rfl (nI_add i 1) (by decide) rfl ?_
        refine mn_goto 102 dMo_makeAgain_126 (by decide) ?_
        refine mn_R.sub [0, 1, 2, 3] (ls' := [(0, .ref mo), (1, .int (nI k)), (2, .int (nI hp)), (3, .int (nI (i + 1)))]) rfl ?_
        have hF9 : eL pm (fun n0 => mg9 (n0 * (wd - 12) + i)) = eL pm (fun n0 => mg (n0 * (wd - 12) + i)) := eL_fe (fun n hn => hg2 _ (fun u hu q => hn (by have e9 := div_of (p := n * (wd - 12) + i) (n := n) (w := wd - 12) (by omega) (by omega); rw [← e9, div_of q.1 q.2]; exact hlkn u hu)))
        exact ih (i + 1) g3 G8 T8 (by omega) (by omega) (hfr.tr (fg3.mo (fun q h => by have h9 : q = mo + 16 ∨ q = mo + 10 := h; show q = mo + 16 ∨ q = mo + 10; omega))) hGb8 hTb8 (fun u hu i9 hi9 => by rcases Nat.lt_or_ge i9 i with q | q; rw [hO8 _ (fun u9 hu9 e9 => by have := (ix_inj (by omega) (by omega) e9).2; omega)]; exact hg1 u hu i9 q; obtain rfl : i9 = i := (by omega); rw [hX8 u hu, hF9]) (fun p hp => by rw [hO8 p (fun u hu e9 => hp u hu (by omega))]; exact hg2 p hp) hM_g3 hSo_g3 hPm_g3 hT8 hLk_g3 hBy_g3 hG8
set_option maxRecDepth 100000 in
theorem c_M_mk4 {E : mn_En} {g : mn_H} {mo tl e sz rp st m r wd ag td om : Nat} {ir : Int32} {lk : Nat → Nat} {pm : Nat → Option Nat} {k : Nat} (hk3 : k ≤ 3) (hlk : ∀ j, lk j < 60) : ∀ (fu u : Nat) (g0 : mn_H), u ≤ k → k - u < fu → mn_fr (fun q => q = mo ∨ q = mo + 7) g g0 → mn_at g0 mo (.inr (11, [.int 0, .ref (mo + 1), .int (nI tl), .ref (mo + 2), .ref (mo + 3), .int (nI e), .int (nI sz), .int (nI rp), .int (nI st), .ref (mo + 4), .ref (mo + 5), .ref (mo + 6), .int ir, .int (nI m), .int (nI r), .int (nI wd), .int (nI ag), .ref (mo + 7), .ref (mo + 8), .ref (mo + 9), .ref (mo + 10), .int (nI td), .int (nI om), .ref (mo + 11), .ref (mo + 12), .ref (mo + 13), .ref (mo + 14), .ref (mo + 15), .ref (mo + 16)])) → mn_at g0 (mo + 7) (.inl (0, 64, .inl (fun j => onI ((tuP pm lk u) j)))) → mn_at g0 (mo + 14) (.inl (0, 60, .inl (fun j => nI (lk j)))) → mn_R E MMo_makeAgain 3 74 0 0 131 [(0, .ref mo), (1, .int (nI k)), (3, .int (nI u))] [] g0 (fun x g' => x = none ∧ mn_fr (fun q => q = mo ∨ q = mo + 7) g g' ∧ mn_at g' mo (.inr (11, [.int 0, .ref (mo + 1), .int (nI tl), .ref (mo + 2), .ref (mo + 3), .int (nI e), .int (nI sz), .int (nI rp), .int (nI st), .ref (mo + 4), .ref (mo + 5), .ref (mo + 6), .int ir, .int (nI m), .int (nI r), .int (nI wd), .int (nI k), .ref (mo + 7), .ref (mo + 8), .ref (mo + 9), .ref (mo + 10), .int (nI td), .int (nI om), .ref (mo + 11), .ref (mo + 12), .ref (mo + 13), .ref (mo + 14), .ref (mo + 15), .ref (mo + 16)])) ∧ mn_at g' (mo + 7) (.inl (0, 64, .inl (fun j => onI ((tuP pm lk k) j))))) := by
  intro fu
  induction fu with
  | zero => intro u g0 h1 h2; exact absurd h2 (by omega)
  | succ fu ih =>
    intro u g0 h1 h2 hfr hM hPm hLk
    have hlku := hlk u
    refine mn_iload_n 2 dMo_makeAgain_131 rfl rfl ?_
    refine mn_iload_n 1 dMo_makeAgain_132 rfl rfl ?_
    refine mn_icmp_ge 155 dMo_makeAgain_133 (by decide) (fun c1 => ?_) (fun c1 => ?_)
    · have c1 := (nI_leI (a := k) (b := u) (by omega) (by omega)).mp c1
      refine mn_aload_n 0 dMo_makeAgain_155 rfl rfl ?_
      refine mn_iload_n 1 dMo_makeAgain_156 rfl rfl ?_
      refine mn_putf okMo 16 lMo_159 (by decide) rfl hM rfl rfl (Nat.le_of_ble_eq_true rfl) dMo_makeAgain_157 ?_
      obtain ⟨g2, eg2⟩ : ∃ gg_, gg_ = mn_set g0 mo (.inr (11, [.int 0, .ref (mo + 1), .int (nI tl), .ref (mo + 2), .ref (mo + 3), .int (nI e), .int (nI sz), .int (nI rp), .int (nI st), .ref (mo + 4), .ref (mo + 5), .ref (mo + 6), .int ir, .int (nI m), .int (nI r), .int (nI wd), .int (nI k), .ref (mo + 7), .ref (mo + 8), .ref (mo + 9), .ref (mo + 10), .int (nI td), .int (nI om), .ref (mo + 11), .ref (mo + 12), .ref (mo + 13), .ref (mo + 14), .ref (mo + 15), .ref (mo + 16)])) := ⟨_, rfl⟩
      refine mn_R.toG eg2 ?_
      have hM_g2 : mn_at g2 mo (.inr (11, [.int 0, .ref (mo + 1), .int (nI tl), .ref (mo + 2), .ref (mo + 3), .int (nI e), .int (nI sz), .int (nI rp), .int (nI st), .ref (mo + 4), .ref (mo + 5), .ref (mo + 6), .int ir, .int (nI m), .int (nI r), .int (nI wd), .int (nI k), .ref (mo + 7), .ref (mo + 8), .ref (mo + 9), .ref (mo + 10), .int (nI td), .int (nI om), .ref (mo + 11), .ref (mo + 12), .ref (mo + 13), .ref (mo + 14), .ref (mo + 15), .ref (mo + 16)])) := by rw [eg2]; exact hM.same
      have hPm_g2 : mn_at g2 (mo + 7) (.inl (0, 64, .inl (fun j => onI ((tuP pm lk u) j)))) := by rw [eg2]; exact hPm.off (by omega)
      have hLk_g2 : mn_at g2 (mo + 14) (.inl (0, 60, .inl (fun j => nI (lk j)))) := by rw [eg2]; exact hLk.off (by omega)
      exact mn_vret rfl dMo_makeAgain_160 (by obtain rfl : u = k := (by omega); exact ⟨rfl, (hfr.set eg2 (by show mo = mo ∨ mo = mo + 7; omega)), hM_g2, hPm_g2⟩)
    · have c1 := _root_.mt (nI_leI (a := k) (b := u) (by omega) (by omega)).mpr c1
      refine mn_aload_n 0 dMo_makeAgain_136 rfl rfl ?_
      refine mn_get okMo 17 lMo_35 (by decide) hM rfl dMo_makeAgain_137 ?_
      refine mn_aload_n 0 dMo_makeAgain_140 rfl rfl ?_
      refine mn_get okMo 26 lMo_56 (by decide) hM rfl dMo_makeAgain_141 ?_
      refine mn_iload_n 2 dMo_makeAgain_144 rfl rfl ?_
      refine mn_ialdN (j := u) hLk rfl (by omega) (by omega) dMo_makeAgain_145 ?_
      refine mn_bipush (v := 100) dMo_makeAgain_146 (by decide) ?_
      refine mn_iastN (j := lk u) hPm rfl (by omega) (by omega) dMo_makeAgain_148 ?_
      obtain ⟨g3, eg3⟩ : ∃ gg_, gg_ = mn_set g0 (mo + 7) (.inl (0, 64, .inl (upd (fun j => onI ((tuP pm lk u) j)) (lk u) 100))) := ⟨_, rfl⟩
      refine mn_R.toG eg3 ?_
      have hM_g3 : mn_at g3 mo (.inr (11, [.int 0, .ref (mo + 1), .int (nI tl), .ref (mo + 2), .ref (mo + 3), .int (nI e), .int (nI sz), .int (nI rp), .int (nI st), .ref (mo + 4), .ref (mo + 5), .ref (mo + 6), .int ir, .int (nI m), .int (nI r), .int (nI wd), .int (nI ag), .ref (mo + 7), .ref (mo + 8), .ref (mo + 9), .ref (mo + 10), .int (nI td), .int (nI om), .ref (mo + 11), .ref (mo + 12), .ref (mo + 13), .ref (mo + 14), .ref (mo + 15), .ref (mo + 16)])) := by rw [eg3]; exact hM.off (by omega)
      have hPm_g3 : mn_at g3 (mo + 7) (.inl (0, 64, .inl (upd (fun j => onI ((tuP pm lk u) j)) (lk u) 100))) := by rw [eg3]; exact hPm.same
      have hLk_g3 : mn_at g3 (mo + 14) (.inl (0, 60, .inl (fun j => nI (lk j)))) := by rw [eg3]; exact hLk.off (by omega)
      refine mn_iinc (v := nI (u + 1)) (ls' := [(0, .ref mo), (1, .int (nI k)), (3, .int (nI (u + 1)))]) 2 dMo_makeAgain_149 rfl (nI_add u 1) (by decide) rfl ?_
      refine mn_goto 131 dMo_makeAgain_152 (by decide) ?_
      have h9 : mn_at g3 (mo + 7) (.inl (0, 64, .inl (fun j => onI ((tuP pm lk (u + 1)) j)))) := by rw [tuP, ← upd_onI]; exact hPm_g3
      exact ih (u + 1) g3 (by omega) (by omega) (hfr.set eg3 (by show (mo + 7) = mo ∨ (mo + 7) = mo + 7; omega)) hM_g3 h9 hLk_g3
set_option maxRecDepth 100000 in
theorem c_M_mka_no {E : mn_En} {g : mn_H} {mo tl e sz rp st m r wd ag td om : Nat} {ir : Int32} {lk bb : Nat → Nat} {pm : Nat → Option Nat} (hM : mn_at g mo (.inr (11, [.int 0, .ref (mo + 1), .int (nI tl), .ref (mo + 2), .ref (mo + 3), .int (nI e), .int (nI sz), .int (nI rp), .int (nI st), .ref (mo + 4), .ref (mo + 5), .ref (mo + 6), .int ir, .int (nI m), .int (nI r), .int (nI wd), .int (nI ag), .ref (mo + 7), .ref (mo + 8), .ref (mo + 9), .ref (mo + 10), .int (nI td), .int (nI om), .ref (mo + 11), .ref (mo + 12), .ref (mo + 13), .ref (mo + 14), .ref (mo + 15), .ref (mo + 16)]))) (hPm : mn_at g (mo + 7) (.inl (0, 64, .inl (fun j => onI (pm j))))) (hLk : mn_at g (mo + 14) (.inl (0, 60, .inl (fun j => nI (lk j))))) (hBy : mn_at g (mo + 15) (.inl (0, 3, .inl (fun j => nI (bb j))))) {ms : Nat} (hm : m ≤ 60) (hpm : ∀ j q, j < 64 → pm j = some q → q < 1000) (hr3 : r ≤ 3) (hlk : ∀ j, lk j < 60) (hbb : ∀ j, bb j < 3) (hms : cnt (fun j => pm j = none) m = ms) (hno : cnt (fun i => pm (m + i) ≠ none) r < ms) : mn_R E MMo_makeAgain 3 74 0 0 0 [(0, .ref mo)] [] g (fun x g' => x = none ∧ mn_fr (fun q => q = mo ∨ q = mo + 14 ∨ q = mo + 15) g g' ∧ mn_at g' mo (.inr (11, [.int 0, .ref (mo + 1), .int (nI tl), .ref (mo + 2), .ref (mo + 3), .int (nI e), .int (nI sz), .int (nI rp), .int (nI st), .ref (mo + 4), .ref (mo + 5), .ref (mo + 6), .int ir, .int (nI m), .int (nI r), .int (nI wd), .int 0, .ref (mo + 7), .ref (mo + 8), .ref (mo + 9), .ref (mo + 10), .int (nI td), .int (nI om), .ref (mo + 11), .ref (mo + 12), .ref (mo + 13), .ref (mo + 14), .ref (mo + 15), .ref (mo + 16)])) ∧ mn_at g' (mo + 7) (.inl (0, 64, .inl (fun j => onI (pm j)))) ∧ ∃ lk9 bb9 : Nat → Nat, mn_at g' (mo + 14) (.inl (0, 60, .inl (fun j => nI (lk9 j)))) ∧ mn_at g' (mo + 15) (.inl (0, 3, .inl (fun j => nI (bb9 j)))) ∧ (∀ j, lk9 j < 60) ∧ ∀ j, bb9 j < 3) := by
  have hcm := cnt_le (fun j => pm j = none) m
  refine mn_aload_n 0 dMo_makeAgain_0 rfl rfl ?_
  refine mn_iconst (v := 0) dMo_makeAgain_1 (by decide) ?_
  refine mn_putf okMo 16 lMo_159 (by decide) rfl hM rfl rfl (Nat.le_of_ble_eq_true rfl) dMo_makeAgain_2 ?_
  obtain ⟨g1, eg1⟩ : ∃ gg_, gg_ = mn_set g mo (.inr (11, [.int 0, .ref (mo + 1), .int (nI tl), .ref (mo + 2), .ref (mo + 3), .int (nI e), .int (nI sz), .int (nI rp), .int (nI st), .ref (mo + 4), .ref (mo + 5), .ref (mo + 6), .int ir, .int (nI m), .int (nI r), .int (nI wd), .int 0, .ref (mo + 7), .ref (mo + 8), .ref (mo + 9), .ref (mo + 10), .int (nI td), .int (nI om), .ref (mo + 11), .ref (mo + 12), .ref (mo + 13), .ref (mo + 14), .ref (mo + 15), .ref (mo + 16)])) := ⟨_, rfl⟩
  refine mn_R.toG eg1 ?_
  have hM_g1 : mn_at g1 mo (.inr (11, [.int 0, .ref (mo + 1), .int (nI tl), .ref (mo + 2), .ref (mo + 3), .int (nI e), .int (nI sz), .int (nI rp), .int (nI st), .ref (mo + 4), .ref (mo + 5), .ref (mo + 6), .int ir, .int (nI m), .int (nI r), .int (nI wd), .int 0, .ref (mo + 7), .ref (mo + 8), .ref (mo + 9), .ref (mo + 10), .int (nI td), .int (nI om), .ref (mo + 11), .ref (mo + 12), .ref (mo + 13), .ref (mo + 14), .ref (mo + 15), .ref (mo + 16)])) := by rw [eg1]; exact hM.same
  have hPm_g1 : mn_at g1 (mo + 7) (.inl (0, 64, .inl (fun j => onI (pm j)))) := by rw [eg1]; exact hPm.off (by omega)
  have hLk_g1 : mn_at g1 (mo + 14) (.inl (0, 60, .inl (fun j => nI (lk j)))) := by rw [eg1]; exact hLk.off (by omega)
  have hBy_g1 : mn_at g1 (mo + 15) (.inl (0, 3, .inl (fun j => nI (bb j)))) := by rw [eg1]; exact hBy.off (by omega)
  refine mn_iconst (v := 0) dMo_makeAgain_5 (by decide) ?_
  refine mn_istore_n (ls' := [(0, .ref mo), (1, .int 0)]) dMo_makeAgain_6 rfl (by decide) rfl ?_
  refine mn_iconst (v := 0) dMo_makeAgain_7 (by decide) ?_
  refine mn_istore_n (ls' := [(0, .ref mo), (1, .int 0), (2, .int 0)]) dMo_makeAgain_8 rfl (by decide) rfl ?_
  refine c_M_mk1 hm hpm (fun g1 f1 hM1 hPm1 hLk1 => ?_) (m + 1) 0 g1 (by omega) (by omega) mn_fr.rf hM_g1 hPm_g1 hLk_g1
  rw [hms]
  show mn_R E MMo_makeAgain 3 74 _ _ 44 [(0, .ref mo), (1, .int (nI ms))] [] g1 _
  have hBy_g1 := hBy_g1.fr f1 (fun h => by have h9 : (mo + 15) = mo + 14 := h; omega)
  refine mn_iconst (v := 0) dMo_makeAgain_44 (by decide) ?_
  refine mn_istore_n (ls' := [(0, .ref mo), (1, .int (nI ms)), (2, .int 0)]) dMo_makeAgain_45 rfl (by decide) rfl ?_
  refine mn_iconst (v := 0) dMo_makeAgain_46 (by decide) ?_
  refine mn_istore_n (ls' := [(0, .ref mo), (1, .int (nI ms)), (2, .int 0), (3, .int 0)]) dMo_makeAgain_47 rfl (by decide) rfl ?_
  refine c_M_mk2 (ms := ms) hm hpm hr3 (by omega) (fun g2 f2 hM2 hPm2 hBy2 => ?_) (r + 1) 0 g1 (by omega) (by omega) mn_fr.rf hM1 hPm1 hBy_g1
  have hb2 := (by_all (pl := pm) (m := m) (ms := ms) (bb := bb) r).1
  show mn_R E MMo_makeAgain 3 74 _ _ 93 [(0, .ref mo), (1, .int (nI ms)), (2, .int (nI ((byS pm m ms bb r).2)))] [] g2 _
  have hLk1_g2 := hLk1.fr f2 (fun h => by have h9 : (mo + 14) = mo + 15 := h; omega)
  refine mn_iload_n 2 dMo_makeAgain_93 rfl rfl ?_
  refine mn_iload_n 1 dMo_makeAgain_94 rfl rfl ?_
  refine mn_icmp_ge 99 dMo_makeAgain_95 (by decide) (fun c2 => ?_) (fun c2 => ?_)
  · have c2 := (nI_leI (a := ms) (b := ((byS pm m ms bb r).2)) (by omega) (by omega)).mp c2
    exact absurd hno (by omega)
  · have c2 := _root_.mt (nI_leI (a := ms) (b := ((byS pm m ms bb r).2)) (by omega) (by omega)).mpr c2
    exact mn_vret rfl dMo_makeAgain_98 ⟨rfl, (((mn_fr.rf.set eg1 (by show mo = mo ∨ mo = mo + 14 ∨ mo = mo + 15; omega)).tr (f1.mo (fun q h => by have h9 : q = mo + 14 := h; show q = mo ∨ q = mo + 14 ∨ q = mo + 15; omega))).tr (f2.mo (fun q h => by have h9 : q = mo + 15 := h; show q = mo ∨ q = mo + 14 ∨ q = mo + 15; omega))), hM2, hPm2, _, _, hLk1_g2, hBy2, unK_lt60 hlk m hm, byS_lt hbb r hr3⟩
set_option maxRecDepth 100000 in
theorem c_M_mka_0 {E : mn_En} {g : mn_H} {mo tl e sz rp st m r wd ag td om : Nat} {ir : Int32} {lk bb : Nat → Nat} {pm : Nat → Option Nat} (hM : mn_at g mo (.inr (11, [.int 0, .ref (mo + 1), .int (nI tl), .ref (mo + 2), .ref (mo + 3), .int (nI e), .int (nI sz), .int (nI rp), .int (nI st), .ref (mo + 4), .ref (mo + 5), .ref (mo + 6), .int ir, .int (nI m), .int (nI r), .int (nI wd), .int (nI ag), .ref (mo + 7), .ref (mo + 8), .ref (mo + 9), .ref (mo + 10), .int (nI td), .int (nI om), .ref (mo + 11), .ref (mo + 12), .ref (mo + 13), .ref (mo + 14), .ref (mo + 15), .ref (mo + 16)]))) (hPm : mn_at g (mo + 7) (.inl (0, 64, .inl (fun j => onI (pm j))))) (hLk : mn_at g (mo + 14) (.inl (0, 60, .inl (fun j => nI (lk j))))) (hBy : mn_at g (mo + 15) (.inl (0, 3, .inl (fun j => nI (bb j))))) (hm : m ≤ 60) (hpm : ∀ j q, j < 64 → pm j = some q → q < 1000) (hr3 : r ≤ 3) (hwd : 20 ≤ wd) (hwd2 : wd ≤ 80) (hlk : ∀ j, lk j < 60) (hbb : ∀ j, bb j < 3) (hms : cnt (fun j => pm j = none) m = 0) : mn_R E MMo_makeAgain 3 74 0 0 0 [(0, .ref mo)] [] g (fun x g' => x = none ∧ mn_fr (fun q => q = mo ∨ q = mo + 14 ∨ q = mo + 15) g g' ∧ mn_at g' mo (.inr (11, [.int 0, .ref (mo + 1), .int (nI tl), .ref (mo + 2), .ref (mo + 3), .int (nI e), .int (nI sz), .int (nI rp), .int (nI st), .ref (mo + 4), .ref (mo + 5), .ref (mo + 6), .int ir, .int (nI m), .int (nI r), .int (nI wd), .int 0, .ref (mo + 7), .ref (mo + 8), .ref (mo + 9), .ref (mo + 10), .int (nI td), .int (nI om), .ref (mo + 11), .ref (mo + 12), .ref (mo + 13), .ref (mo + 14), .ref (mo + 15), .ref (mo + 16)])) ∧ mn_at g' (mo + 7) (.inl (0, 64, .inl (fun j => onI (pm j)))) ∧ ∃ lk9 bb9 : Nat → Nat, mn_at g' (mo + 14) (.inl (0, 60, .inl (fun j => nI (lk9 j)))) ∧ mn_at g' (mo + 15) (.inl (0, 3, .inl (fun j => nI (bb9 j)))) ∧ (∀ j, lk9 j < 60) ∧ ∀ j, bb9 j < 3) := by
  refine mn_aload_n 0 dMo_makeAgain_0 rfl rfl ?_
  refine mn_iconst (v := 0) dMo_makeAgain_1 (by decide) ?_
  refine mn_putf okMo 16 lMo_159 (by decide) rfl hM rfl rfl (Nat.le_of_ble_eq_true rfl) dMo_makeAgain_2 ?_
  obtain ⟨g1, eg1⟩ : ∃ gg_, gg_ = mn_set g mo (.inr (11, [.int 0, .ref (mo + 1), .int (nI tl), .ref (mo + 2), .ref (mo + 3), .int (nI e), .int (nI sz), .int (nI rp), .int (nI st), .ref (mo + 4), .ref (mo + 5), .ref (mo + 6), .int ir, .int (nI m), .int (nI r), .int (nI wd), .int 0, .ref (mo + 7), .ref (mo + 8), .ref (mo + 9), .ref (mo + 10), .int (nI td), .int (nI om), .ref (mo + 11), .ref (mo + 12), .ref (mo + 13), .ref (mo + 14), .ref (mo + 15), .ref (mo + 16)])) := ⟨_, rfl⟩
  refine mn_R.toG eg1 ?_
  have hM_g1 : mn_at g1 mo (.inr (11, [.int 0, .ref (mo + 1), .int (nI tl), .ref (mo + 2), .ref (mo + 3), .int (nI e), .int (nI sz), .int (nI rp), .int (nI st), .ref (mo + 4), .ref (mo + 5), .ref (mo + 6), .int ir, .int (nI m), .int (nI r), .int (nI wd), .int 0, .ref (mo + 7), .ref (mo + 8), .ref (mo + 9), .ref (mo + 10), .int (nI td), .int (nI om), .ref (mo + 11), .ref (mo + 12), .ref (mo + 13), .ref (mo + 14), .ref (mo + 15), .ref (mo + 16)])) := by rw [eg1]; exact hM.same
  have hPm_g1 : mn_at g1 (mo + 7) (.inl (0, 64, .inl (fun j => onI (pm j)))) := by rw [eg1]; exact hPm.off (by omega)
  have hLk_g1 : mn_at g1 (mo + 14) (.inl (0, 60, .inl (fun j => nI (lk j)))) := by rw [eg1]; exact hLk.off (by omega)
  have hBy_g1 : mn_at g1 (mo + 15) (.inl (0, 3, .inl (fun j => nI (bb j)))) := by rw [eg1]; exact hBy.off (by omega)
  refine mn_iconst (v := 0) dMo_makeAgain_5 (by decide) ?_
  refine mn_istore_n (ls' := [(0, .ref mo), (1, .int 0)]) dMo_makeAgain_6 rfl (by decide) rfl ?_
  refine mn_iconst (v := 0) dMo_makeAgain_7 (by decide) ?_
  refine mn_istore_n (ls' := [(0, .ref mo), (1, .int 0), (2, .int 0)]) dMo_makeAgain_8 rfl (by decide) rfl ?_
  refine c_M_mk1 hm hpm (fun g1 f1 hM1 hPm1 hLk1 => ?_) (m + 1) 0 g1 (by omega) (by omega) mn_fr.rf hM_g1 hPm_g1 hLk_g1
  rw [hms]
  show mn_R E MMo_makeAgain 3 74 _ _ 44 [(0, .ref mo), (1, .int 0)] [] g1 _
  have hBy_g1 := hBy_g1.fr f1 (fun h => by have h9 : (mo + 15) = mo + 14 := h; omega)
  refine mn_iconst (v := 0) dMo_makeAgain_44 (by decide) ?_
  refine mn_istore_n (ls' := [(0, .ref mo), (1, .int 0), (2, .int 0)]) dMo_makeAgain_45 rfl (by decide) rfl ?_
  refine mn_iconst (v := 0) dMo_makeAgain_46 (by decide) ?_
  refine mn_istore_n (ls' := [(0, .ref mo), (1, .int 0), (2, .int 0), (3, .int 0)]) dMo_makeAgain_47 rfl (by decide) rfl ?_
  refine c_M_mk2 (ms := 0) hm hpm hr3 (by omega) (fun g2 f2 hM2 hPm2 hBy2 => ?_) (r + 1) 0 g1 (by omega) (by omega) mn_fr.rf hM1 hPm1 hBy_g1
  have hb2 := (by_all (pl := pm) (m := m) (ms := 0) (bb := bb) r).1
  rw [show (byS pm m 0 bb r).2 = 0 by omega]
  show mn_R E MMo_makeAgain 3 74 _ _ 93 [(0, .ref mo), (1, .int 0), (2, .int 0)] [] g2 _
  have hLk1_g2 := hLk1.fr f2 (fun h => by have h9 : (mo + 14) = mo + 15 := h; omega)
  refine mn_iload_n 2 dMo_makeAgain_93 rfl rfl ?_
  refine mn_iload_n 1 dMo_makeAgain_94 rfl rfl ?_
  refine mn_icmp_ge 99 dMo_makeAgain_95 (by decide) (fun c2 => ?_) (fun c2 => ?_)
  · refine mn_bipush (v := (-2)) dMo_makeAgain_99 (by decide) ?_
    refine mn_istore_n (ls' := [(0, .ref mo), (1, .int 0), (2, .int 0), (3, .int (-2))]) dMo_makeAgain_101 rfl (by decide) rfl ?_
    refine mn_iload_n 3 dMo_makeAgain_102 rfl rfl ?_
    refine mn_aload_n 0 dMo_makeAgain_103 rfl rfl ?_
    refine mn_get okMo 15 lMo_150 (by decide) hM2 rfl dMo_makeAgain_104 ?_
    refine mn_bipush (v := 12) dMo_makeAgain_107 (by decide) ?_
    refine mn_isub (z := nI (wd - 12)) dMo_makeAgain_109 (pk_sub (a := wd) (b := 12) (by omega)) ?_
    refine mn_icmp_ge 129 dMo_makeAgain_110 (by decide) (fun c3 => ?_) (fun c3 => ?_)
    · exact absurd c3 (nI_nl (by omega) (by decide))
    · refine mn_iload_n 1 dMo_makeAgain_113 rfl rfl ?_
      refine mn_if_le 129 dMo_makeAgain_114 (by decide) (fun c4 => ?_) (fun c4 => ?_)
      · refine mn_iconst (v := 0) dMo_makeAgain_129 (by decide) ?_
        refine mn_istore_n (ls' := [(0, .ref mo), (1, .int 0), (2, .int 0), (3, .int 0)]) dMo_makeAgain_130 rfl (by decide) rfl ?_
        refine mn_iload_n 3 dMo_makeAgain_131 rfl rfl ?_
        refine mn_iload_n 1 dMo_makeAgain_132 rfl rfl ?_
        refine mn_icmp_ge 155 dMo_makeAgain_133 (by decide) (fun c5 => ?_) (fun c5 => ?_)
        · refine mn_aload_n 0 dMo_makeAgain_155 rfl rfl ?_
          refine mn_iload_n 1 dMo_makeAgain_156 rfl rfl ?_
          refine mn_putf okMo 16 lMo_159 (by decide) rfl hM2 rfl rfl (Nat.le_of_ble_eq_true rfl) dMo_makeAgain_157 ?_
          obtain ⟨g6, eg6⟩ : ∃ gg_, gg_ = mn_set g2 mo (.inr (11, [.int 0, .ref (mo + 1), .int (nI tl), .ref (mo + 2), .ref (mo + 3), .int (nI e), .int (nI sz), .int (nI rp), .int (nI st), .ref (mo + 4), .ref (mo + 5), .ref (mo + 6), .int ir, .int (nI m), .int (nI r), .int (nI wd), .int 0, .ref (mo + 7), .ref (mo + 8), .ref (mo + 9), .ref (mo + 10), .int (nI td), .int (nI om), .ref (mo + 11), .ref (mo + 12), .ref (mo + 13), .ref (mo + 14), .ref (mo + 15), .ref (mo + 16)])) := ⟨_, rfl⟩
          refine mn_R.toG eg6 ?_
          have hM2_g6 : mn_at g6 mo (.inr (11, [.int 0, .ref (mo + 1), .int (nI tl), .ref (mo + 2), .ref (mo + 3), .int (nI e), .int (nI sz), .int (nI rp), .int (nI st), .ref (mo + 4), .ref (mo + 5), .ref (mo + 6), .int ir, .int (nI m), .int (nI r), .int (nI wd), .int 0, .ref (mo + 7), .ref (mo + 8), .ref (mo + 9), .ref (mo + 10), .int (nI td), .int (nI om), .ref (mo + 11), .ref (mo + 12), .ref (mo + 13), .ref (mo + 14), .ref (mo + 15), .ref (mo + 16)])) := by rw [eg6]; exact hM2.same
          have hPm2_g6 : mn_at g6 (mo + 7) (.inl (0, 64, .inl (fun j => onI (pm j)))) := by rw [eg6]; exact hPm2.off (by omega)
          have hLk1_g6 : mn_at g6 (mo + 14) (.inl (0, 60, .inl (fun j => nI ((unK lk pm m) j)))) := by rw [eg6]; exact hLk1_g2.off (by omega)
          have hBy2_g6 : mn_at g6 (mo + 15) (.inl (0, 3, .inl (fun j => nI (((byS pm m 0 bb r).1) j)))) := by rw [eg6]; exact hBy2.off (by omega)
          exact mn_vret rfl dMo_makeAgain_160 ⟨rfl, ((((mn_fr.rf.set eg1 (by show mo = mo ∨ mo = mo + 14 ∨ mo = mo + 15; omega)).tr (f1.mo (fun q h => by have h9 : q = mo + 14 := h; show q = mo ∨ q = mo + 14 ∨ q = mo + 15; omega))).tr (f2.mo (fun q h => by have h9 : q = mo + 15 := h; show q = mo ∨ q = mo + 14 ∨ q = mo + 15; omega))).set eg6 (by show mo = mo ∨ mo = mo + 14 ∨ mo = mo + 15; omega)), hM2_g6, hPm2_g6, _, _, hLk1_g6, hBy2_g6, unK_lt60 hlk m hm, byS_lt hbb r hr3⟩
        · exact absurd c5 (by decide)
      · exact absurd c4 (by decide)
  · exact absurd c2 (by decide)
set_option maxRecDepth 100000 in
theorem c_M_mka {E : mn_En} {g : mn_H} {mo tl e sz rp st m r wd ag td om : Nat} {ir : Int32} {sl ml mt mg lk bb gr : Nat → Nat} {pm : Nat → Option Nat} (hM : mn_at g mo (.inr (11, [.int 0, .ref (mo + 1), .int (nI tl), .ref (mo + 2), .ref (mo + 3), .int (nI e), .int (nI sz), .int (nI rp), .int (nI st), .ref (mo + 4), .ref (mo + 5), .ref (mo + 6), .int ir, .int (nI m), .int (nI r), .int (nI wd), .int (nI ag), .ref (mo + 7), .ref (mo + 8), .ref (mo + 9), .ref (mo + 10), .int (nI td), .int (nI om), .ref (mo + 11), .ref (mo + 12), .ref (mo + 13), .ref (mo + 14), .ref (mo + 15), .ref (mo + 16)]))) (hSo : mn_at g (mo + 4) (.inl (0, 4800, .inl (fun j => nI (sl j))))) (hPm : mn_at g (mo + 7) (.inl (0, 64, .inl (fun j => onI (pm j))))) (hMl : mn_at g (mo + 8) (.inl (0, 64, .inl (fun j => nI (ml j))))) (hMt : mn_at g (mo + 9) (.inl (0, 64, .inl (fun j => nI (mt j))))) (hMg : mn_at g (mo + 10) (.inl (0, 4800, .inl (fun j => nI (mg j))))) (hLk : mn_at g (mo + 14) (.inl (0, 60, .inl (fun j => nI (lk j))))) (hBy : mn_at g (mo + 15) (.inl (0, 3, .inl (fun j => nI (bb j))))) (hGr : mn_at g (mo + 16) (.inl (0, 12, .inl (fun j => nI (gr j))))) {ms : Nat} (hm : m ≤ 60) (hpm : ∀ j q, j < 64 → pm j = some q → q < 1000) (hr3 : r ≤ 3) (hwd : 20 ≤ wd) (hwd2 : wd ≤ 80) (hmw : m * (wd - 12) ≤ 4080) (hlk : ∀ j, lk j < 60) (hbb : ∀ j, bb j < 3) (hslb : ∀ j, sl j < 256) (hml : ∀ j, ml j < 256) (hmt : ∀ j, mt j < 256) (hmg : ∀ j, mg j < 256) (hgr : ∀ j, gr j < 256) (hp60 : ∀ j q, j < m + r → pm j = some q → q < 60) (hms : cnt (fun j => pm j = none) m = ms) (hk0 : 0 < ms) (hyes : ms ≤ cnt (fun i => pm (m + i) ≠ none) r) : mn_R E MMo_makeAgain 3 74 0 0 0 [(0, .ref mo)] [] g (fun x g' => x = none ∧ mn_fr (fun q => q = mo ∨ (mo + 7 ≤ q ∧ q ≤ mo + 10) ∨ (mo + 14 ≤ q ∧ q ≤ mo + 16)) g g' ∧ ∃ LK BB ml9 mt9 mg9 gr9 : Nat → Nat, LK = unK lk pm m ∧ BB = (byS pm m ms bb r).1 ∧ mn_at g' mo (.inr (11, [.int 0, .ref (mo + 1), .int (nI tl), .ref (mo + 2), .ref (mo + 3), .int (nI e), .int (nI sz), .int (nI rp), .int (nI st), .ref (mo + 4), .ref (mo + 5), .ref (mo + 6), .int ir, .int (nI m), .int (nI r), .int (nI wd), .int (nI ms), .ref (mo + 7), .ref (mo + 8), .ref (mo + 9), .ref (mo + 10), .int (nI td), .int (nI om), .ref (mo + 11), .ref (mo + 12), .ref (mo + 13), .ref (mo + 14), .ref (mo + 15), .ref (mo + 16)])) ∧ mn_at g' (mo + 7) (.inl (0, 64, .inl (fun j => onI ((tuP pm LK ms) j)))) ∧ mn_at g' (mo + 8) (.inl (0, 64, .inl (fun j => nI (ml9 j)))) ∧ mn_at g' (mo + 9) (.inl (0, 64, .inl (fun j => nI (mt9 j)))) ∧ mn_at g' (mo + 10) (.inl (0, 4800, .inl (fun j => nI (mg9 j)))) ∧ mn_at g' (mo + 14) (.inl (0, 60, .inl (fun j => nI (LK j)))) ∧ mn_at g' (mo + 15) (.inl (0, 3, .inl (fun j => nI (BB j)))) ∧ mn_at g' (mo + 16) (.inl (0, 12, .inl (fun j => nI (gr9 j)))) ∧ (∀ j, ml9 j < 256) ∧ (∀ j, mt9 j < 256) ∧ (∀ j, mg9 j < 256) ∧ (∀ j, gr9 j < 256) ∧ (∀ u, u < ms → ml9 (LK u) = XM BB LK (fun a0 => sl (80 * (pm (m + BB a0)).getD 0 + 6)) (eL pm ml) m ms u) ∧ (∀ n, (∀ u, u < ms → n ≠ LK u) → ml9 n = ml n) ∧ (∀ u, u < ms → mt9 (LK u) = XM BB LK (fun a0 => sl (80 * (pm (m + BB a0)).getD 0 + 7)) (eL pm mt) m ms u) ∧ (∀ n, (∀ u, u < ms → n ≠ LK u) → mt9 n = mt n) ∧ (∀ u, u < ms → ∀ i9, i9 < wd - 12 → mg9 (LK u * (wd - 12) + i9) = XM BB LK (fun a0 => sl (80 * (pm (m + BB a0)).getD 0 + 12 + i9)) (eL pm (fun n0 => mg (n0 * (wd - 12) + i9))) m ms u) ∧ (∀ p, (∀ u, u < ms → ¬ (LK u * (wd - 12) ≤ p ∧ p < LK u * (wd - 12) + (wd - 12))) → mg9 p = mg p)) := by
  have hcm := cnt_le (fun j => pm j = none) m
  have hcr := cnt_le (fun i => pm (m + i) ≠ none) r
  have hk3 : ms ≤ 3 := by omega
  refine mn_aload_n 0 dMo_makeAgain_0 rfl rfl ?_
  refine mn_iconst (v := 0) dMo_makeAgain_1 (by decide) ?_
  refine mn_putf okMo 16 lMo_159 (by decide) rfl hM rfl rfl (Nat.le_of_ble_eq_true rfl) dMo_makeAgain_2 ?_
  obtain ⟨g1, eg1⟩ : ∃ gg_, gg_ = mn_set g mo (.inr (11, [.int 0, .ref (mo + 1), .int (nI tl), .ref (mo + 2), .ref (mo + 3), .int (nI e), .int (nI sz), .int (nI rp), .int (nI st), .ref (mo + 4), .ref (mo + 5), .ref (mo + 6), .int ir, .int (nI m), .int (nI r), .int (nI wd), .int 0, .ref (mo + 7), .ref (mo + 8), .ref (mo + 9), .ref (mo + 10), .int (nI td), .int (nI om), .ref (mo + 11), .ref (mo + 12), .ref (mo + 13), .ref (mo + 14), .ref (mo + 15), .ref (mo + 16)])) := ⟨_, rfl⟩
  refine mn_R.toG eg1 ?_
  have hM_g1 : mn_at g1 mo (.inr (11, [.int 0, .ref (mo + 1), .int (nI tl), .ref (mo + 2), .ref (mo + 3), .int (nI e), .int (nI sz), .int (nI rp), .int (nI st), .ref (mo + 4), .ref (mo + 5), .ref (mo + 6), .int ir, .int (nI m), .int (nI r), .int (nI wd), .int 0, .ref (mo + 7), .ref (mo + 8), .ref (mo + 9), .ref (mo + 10), .int (nI td), .int (nI om), .ref (mo + 11), .ref (mo + 12), .ref (mo + 13), .ref (mo + 14), .ref (mo + 15), .ref (mo + 16)])) := by rw [eg1]; exact hM.same
  have hSo_g1 : mn_at g1 (mo + 4) (.inl (0, 4800, .inl (fun j => nI (sl j)))) := by rw [eg1]; exact hSo.off (by omega)
  have hPm_g1 : mn_at g1 (mo + 7) (.inl (0, 64, .inl (fun j => onI (pm j)))) := by rw [eg1]; exact hPm.off (by omega)
  have hMl_g1 : mn_at g1 (mo + 8) (.inl (0, 64, .inl (fun j => nI (ml j)))) := by rw [eg1]; exact hMl.off (by omega)
  have hMt_g1 : mn_at g1 (mo + 9) (.inl (0, 64, .inl (fun j => nI (mt j)))) := by rw [eg1]; exact hMt.off (by omega)
  have hMg_g1 : mn_at g1 (mo + 10) (.inl (0, 4800, .inl (fun j => nI (mg j)))) := by rw [eg1]; exact hMg.off (by omega)
  have hLk_g1 : mn_at g1 (mo + 14) (.inl (0, 60, .inl (fun j => nI (lk j)))) := by rw [eg1]; exact hLk.off (by omega)
  have hBy_g1 : mn_at g1 (mo + 15) (.inl (0, 3, .inl (fun j => nI (bb j)))) := by rw [eg1]; exact hBy.off (by omega)
  have hGr_g1 : mn_at g1 (mo + 16) (.inl (0, 12, .inl (fun j => nI (gr j)))) := by rw [eg1]; exact hGr.off (by omega)
  refine mn_iconst (v := 0) dMo_makeAgain_5 (by decide) ?_
  refine mn_istore_n (ls' := [(0, .ref mo), (1, .int 0)]) dMo_makeAgain_6 rfl (by decide) rfl ?_
  refine mn_iconst (v := 0) dMo_makeAgain_7 (by decide) ?_
  refine mn_istore_n (ls' := [(0, .ref mo), (1, .int 0), (2, .int 0)]) dMo_makeAgain_8 rfl (by decide) rfl ?_
  refine c_M_mk1 hm hpm (fun g1 f1 hM1 hPm1 hLk1 => ?_) (m + 1) 0 g1 (by omega) (by omega) mn_fr.rf hM_g1 hPm_g1 hLk_g1
  rw [hms]
  show mn_R E MMo_makeAgain 3 74 _ _ 44 [(0, .ref mo), (1, .int (nI ms))] [] g1 _
  have hSo_g1 := hSo_g1.fr f1 (fun h => by have h9 : (mo + 4) = mo + 14 := h; omega)
  have hMl_g1 := hMl_g1.fr f1 (fun h => by have h9 : (mo + 8) = mo + 14 := h; omega)
  have hMt_g1 := hMt_g1.fr f1 (fun h => by have h9 : (mo + 9) = mo + 14 := h; omega)
  have hMg_g1 := hMg_g1.fr f1 (fun h => by have h9 : (mo + 10) = mo + 14 := h; omega)
  have hBy_g1 := hBy_g1.fr f1 (fun h => by have h9 : (mo + 15) = mo + 14 := h; omega)
  have hGr_g1 := hGr_g1.fr f1 (fun h => by have h9 : (mo + 16) = mo + 14 := h; omega)
  refine mn_iconst (v := 0) dMo_makeAgain_44 (by decide) ?_
  refine mn_istore_n (ls' := [(0, .ref mo), (1, .int (nI ms)), (2, .int 0)]) dMo_makeAgain_45 rfl (by decide) rfl ?_
  refine mn_iconst (v := 0) dMo_makeAgain_46 (by decide) ?_
  refine mn_istore_n (ls' := [(0, .ref mo), (1, .int (nI ms)), (2, .int 0), (3, .int 0)]) dMo_makeAgain_47 rfl (by decide) rfl ?_
  refine c_M_mk2 (ms := ms) hm hpm hr3 (by omega) (fun g2 f2 hM2 hPm2 hBy2 => ?_) (r + 1) 0 g1 (by omega) (by omega) mn_fr.rf hM1 hPm1 hBy_g1
  have hb2 := (by_all (pl := pm) (m := m) (ms := ms) (bb := bb) r).1
  rw [show (byS pm m ms bb r).2 = ms by omega]
  show mn_R E MMo_makeAgain 3 74 _ _ 93 [(0, .ref mo), (1, .int (nI ms)), (2, .int (nI ms))] [] g2 _
  have hSo_g2 := hSo_g1.fr f2 (fun h => by have h9 : (mo + 4) = mo + 15 := h; omega)
  have hMl_g2 := hMl_g1.fr f2 (fun h => by have h9 : (mo + 8) = mo + 15 := h; omega)
  have hMt_g2 := hMt_g1.fr f2 (fun h => by have h9 : (mo + 9) = mo + 15 := h; omega)
  have hMg_g2 := hMg_g1.fr f2 (fun h => by have h9 : (mo + 10) = mo + 15 := h; omega)
  have hLk1_g2 := hLk1.fr f2 (fun h => by have h9 : (mo + 14) = mo + 15 := h; omega)
  have hGr_g2 := hGr_g1.fr f2 (fun h => by have h9 : (mo + 16) = mo + 15 := h; omega)
  obtain ⟨LK, eLK⟩ : ∃ f, f = unK lk pm m := ⟨_, rfl⟩
  obtain ⟨BB, eBB⟩ : ∃ f, f = (byS pm m ms bb r).1 := ⟨_, rfl⟩
  rw [← eLK] at hLk1_g2
  rw [← eBB] at hBy2
  have hlk9 : ∀ j, LK j < 60 := by rw [eLK]; exact unK_lt60 hlk m hm
  have hbb9 : ∀ j, BB j < 3 := by rw [eBB]; exact byS_lt hbb r hr3
  have hli : ∀ u u9, u < u9 → u9 < ms → LK u < LK u9 := fun u u9 q1 q2 => by rw [eLK]; exact un_mono m u u9 q1 (by rw [hms]; exact q2)
  have hlkm : ∀ u, u < ms → LK u < m := fun u q1 => by rw [eLK]; exact (un_lt (nu := lk) (pl := pm) m u (by rw [hms]; exact q1)).1
  have hlkn : ∀ u, u < ms → pm (LK u) = none := fun u q1 => by rw [eLK]; exact (un_lt (nu := lk) (pl := pm) m u (by rw [hms]; exact q1)).2
  have hbi : ∀ u u9, u < u9 → u9 < ms → BB u < BB u9 := fun u u9 q1 q2 => by rw [eBB]; exact (by_all (pl := pm) (m := m) (ms := ms) (bb := bb) r).2.2 u u9 q1 (by omega)
  have hpk : ∀ a, a < ms → pm (m + BB a) = some ((pm (m + BB a)).getD 0) ∧ (pm (m + BB a)).getD 0 < 60 := fun a q1 => by have h7 := (by_all (pl := pm) (m := m) (ms := ms) (bb := bb) r).2.1 a (by omega); rw [← eBB] at h7; cases h8 : pm (m + BB a) with | none => exact absurd h8 h7.2 | some q => exact ⟨rfl, hp60 (m + BB a) q (by omega) h8⟩
  refine mn_iload_n 2 dMo_makeAgain_93 rfl rfl ?_
  refine mn_iload_n 1 dMo_makeAgain_94 rfl rfl ?_
  refine mn_icmp_ge 99 dMo_makeAgain_95 (by decide) (fun c2 => ?_) (fun c2 => ?_)
  · have c2 := (nI_leI (a := ms) (b := ms) (by omega) (by omega)).mp c2
    refine mn_bipush (v := (-2)) dMo_makeAgain_99 (by decide) ?_
    refine mn_istore_n (ls' := [(0, .ref mo), (1, .int (nI ms)), (2, .int (nI ms)), (3, .int (-2))]) dMo_makeAgain_101 rfl (by decide) rfl ?_
    refine mn_iload_n 3 dMo_makeAgain_102 rfl rfl ?_
    refine mn_aload_n 0 dMo_makeAgain_103 rfl rfl ?_
    refine mn_get okMo 15 lMo_150 (by decide) hM2 rfl dMo_makeAgain_104 ?_
    refine mn_bipush (v := 12) dMo_makeAgain_107 (by decide) ?_
    refine mn_isub (z := nI (wd - 12)) dMo_makeAgain_109 (pk_sub (a := wd) (b := 12) (by omega)) ?_
    refine mn_icmp_ge 129 dMo_makeAgain_110 (by decide) (fun c3 => ?_) (fun c3 => ?_)
    · exact absurd c3 (nI_nl (by omega) (by decide))
    · refine mn_iload_n 1 dMo_makeAgain_113 rfl rfl ?_
      refine mn_if_le 129 dMo_makeAgain_114 (by decide) (fun c4 => ?_) (fun c4 => ?_)
      · have c4 := (nI_leI (a := ms) (b := 0) (by omega) (by omega)).mp c4
        exact absurd c4 (by omega)
      · have c4 := _root_.mt (nI_leI (a := ms) (b := 0) (by omega) (by omega)).mpr c4
        refine mn_aload_n 0 dMo_makeAgain_117 rfl rfl ?_
        refine mn_iload_n 1 dMo_makeAgain_118 rfl rfl ?_
        refine mn_iload_n 3 dMo_makeAgain_119 rfl rfl ?_
        refine mn_callV (d' := 2) (w' := 46) (nc' := 0) (ns' := 0) (As := [.int (nI ms), .int (-2)]) (st := []) okMo_solve lMo_162 dMo_makeAgain_120 hM2 rfl rfl rfl rfl (Nat.le_of_ble_eq_true rfl) (Nat.le_of_ble_eq_true rfl) (by decide) (c_M_solveS hM2 hSo_g2 hPm2 hMt_g2 hLk1_g2 hBy2 hGr_g2 hk3 hm hpm hbb9 hlk9 hpk hslb hmt hgr hli hbi) (fun v g5 hq => ?_)
        obtain ⟨rfl, fg5, GS, TS, hGS, hTS, hGbS, hTbS, hXS, hOS⟩ := hq
        show mn_R E MMo_makeAgain 3 74 _ _ 123 [(0, .ref mo), (1, .int (nI ms)), (2, .int (nI ms)), (3, .int (-2))] [] g5 _
        have hM2_g5 := hM2.fr fg5 (fun h => by have h9 : mo = mo + 16 ∨ mo = mo + 9 := h; omega)
        have hSo_g5 := hSo_g2.fr fg5 (fun h => by have h9 : (mo + 4) = mo + 16 ∨ (mo + 4) = mo + 9 := h; omega)
        have hPm2_g5 := hPm2.fr fg5 (fun h => by have h9 : (mo + 7) = mo + 16 ∨ (mo + 7) = mo + 9 := h; omega)
        have hMl_g5 := hMl_g2.fr fg5 (fun h => by have h9 : (mo + 8) = mo + 16 ∨ (mo + 8) = mo + 9 := h; omega)
        have hMg_g5 := hMg_g2.fr fg5 (fun h => by have h9 : (mo + 10) = mo + 16 ∨ (mo + 10) = mo + 9 := h; omega)
        have hLk1_g5 := hLk1_g2.fr fg5 (fun h => by have h9 : (mo + 14) = mo + 16 ∨ (mo + 14) = mo + 9 := h; omega)
        have hBy2_g5 := hBy2.fr fg5 (fun h => by have h9 : (mo + 15) = mo + 16 ∨ (mo + 15) = mo + 9 := h; omega)
        refine mn_iinc (v := (-1)) (ls' := [(0, .ref mo), (1, .int (nI ms)), (2, .int (nI ms)), (3, .int (-1))]) 3 dMo_makeAgain_123 rfl (by decide) (by decide) rfl ?_
        refine mn_goto 102 dMo_makeAgain_126 (by decide) ?_
        refine mn_iload_n 3 dMo_makeAgain_102 rfl rfl ?_
        refine mn_aload_n 0 dMo_makeAgain_103 rfl rfl ?_
        refine mn_get okMo 15 lMo_150 (by decide) hM2_g5 rfl dMo_makeAgain_104 ?_
        refine mn_bipush (v := 12) dMo_makeAgain_107 (by decide) ?_
        refine mn_isub (z := nI (wd - 12)) dMo_makeAgain_109 (pk_sub (a := wd) (b := 12) (by omega)) ?_
        refine mn_icmp_ge 129 dMo_makeAgain_110 (by decide) (fun c6 => ?_) (fun c6 => ?_)
        · exact absurd c6 (nI_nl (by omega) (by decide))
        · refine mn_iload_n 1 dMo_makeAgain_113 rfl rfl ?_
          refine mn_if_le 129 dMo_makeAgain_114 (by decide) (fun c7 => ?_) (fun c7 => ?_)
          · have c7 := (nI_leI (a := ms) (b := 0) (by omega) (by omega)).mp c7
            exact absurd c7 (by omega)
          · have c7 := _root_.mt (nI_leI (a := ms) (b := 0) (by omega) (by omega)).mpr c7
            refine mn_aload_n 0 dMo_makeAgain_117 rfl rfl ?_
            refine mn_iload_n 1 dMo_makeAgain_118 rfl rfl ?_
            refine mn_iload_n 3 dMo_makeAgain_119 rfl rfl ?_
            refine mn_callV (d' := 2) (w' := 46) (nc' := 0) (ns' := 0) (As := [.int (nI ms), .int (-1)]) (st := []) okMo_solve lMo_162 dMo_makeAgain_120 hM2_g5 rfl rfl rfl rfl (Nat.le_of_ble_eq_true rfl) (Nat.le_of_ble_eq_true rfl) (by decide) (c_M_solveL hM2_g5 hSo_g5 hPm2_g5 hMl_g5 hLk1_g5 hBy2_g5 hGS hk3 hm hpm hbb9 hlk9 hpk hslb hml hGbS hli hbi) (fun v g8 hq => ?_)
            obtain ⟨rfl, fg8, GL, TL, hGL, hTL, hGbL, hTbL, hXL, hOL⟩ := hq
            show mn_R E MMo_makeAgain 3 74 _ _ 123 [(0, .ref mo), (1, .int (nI ms)), (2, .int (nI ms)), (3, .int (-1))] [] g8 _
            have hM2_g8 := hM2_g5.fr fg8 (fun h => by have h9 : mo = mo + 16 ∨ mo = mo + 8 := h; omega)
            have hSo_g8 := hSo_g5.fr fg8 (fun h => by have h9 : (mo + 4) = mo + 16 ∨ (mo + 4) = mo + 8 := h; omega)
            have hPm2_g8 := hPm2_g5.fr fg8 (fun h => by have h9 : (mo + 7) = mo + 16 ∨ (mo + 7) = mo + 8 := h; omega)
            have hTS_g8 := hTS.fr fg8 (fun h => by have h9 : (mo + 9) = mo + 16 ∨ (mo + 9) = mo + 8 := h; omega)
            have hMg_g8 := hMg_g5.fr fg8 (fun h => by have h9 : (mo + 10) = mo + 16 ∨ (mo + 10) = mo + 8 := h; omega)
            have hLk1_g8 := hLk1_g5.fr fg8 (fun h => by have h9 : (mo + 14) = mo + 16 ∨ (mo + 14) = mo + 8 := h; omega)
            have hBy2_g8 := hBy2_g5.fr fg8 (fun h => by have h9 : (mo + 15) = mo + 16 ∨ (mo + 15) = mo + 8 := h; omega)
            refine mn_iinc (v := 0) (ls' := [(0, .ref mo), (1, .int (nI ms)), (2, .int (nI ms)), (3, .int 0)]) 3 dMo_makeAgain_123 rfl (by decide) (by decide) rfl ?_
            refine mn_goto 102 dMo_makeAgain_126 (by decide) ?_
            refine c_M_mk3 hk3 hk0 hm hpm hwd hwd2 hmw hbb9 hlk9 hpk hslb hlkm hlkn hli hbi (fun g8 gr8 mg8 f8 hgb8 hmgb8 hg1 hg2 a1 a2 a3 a4 a5 a6 a7 => ?_) (wd - 12 + 1) 0 g8 GL mg (by omega) (by omega) mn_fr.rf hGbL hmg (fun u hu i9 hi9 => absurd hi9 (by omega)) (fun p _ => rfl) hM2_g8 hSo_g8 hPm2_g8 hMg_g8 hLk1_g8 hBy2_g8 hGL
            have b1 := hTL.fr f8 (fun h => by have h9 : mo + 8 = mo + 16 ∨ mo + 8 = mo + 10 := h; omega)
            have b2 := hTS_g8.fr f8 (fun h => by have h9 : mo + 9 = mo + 16 ∨ mo + 9 = mo + 10 := h; omega)
            have F8 : mn_fr (fun q => q = mo ∨ (mo + 7 ≤ q ∧ q ≤ mo + 10) ∨ (mo + 14 ≤ q ∧ q ≤ mo + 16)) g g8 := (((((mn_fr.rf.set eg1 (by show mo = mo ∨ (mo + 7 ≤ mo ∧ mo ≤ mo + 10) ∨ (mo + 14 ≤ mo ∧ mo ≤ mo + 16); omega)).tr (f1.mo (fun q h => by have h9 : q = mo + 14 := h; show q = mo ∨ (mo + 7 ≤ q ∧ q ≤ mo + 10) ∨ (mo + 14 ≤ q ∧ q ≤ mo + 16); omega))).tr (f2.mo (fun q h => by have h9 : q = mo + 15 := h; show q = mo ∨ (mo + 7 ≤ q ∧ q ≤ mo + 10) ∨ (mo + 14 ≤ q ∧ q ≤ mo + 16); omega))).tr (fg5.mo (fun q h => by have h9 : q = mo + 16 ∨ q = mo + 9 := h; show q = mo ∨ (mo + 7 ≤ q ∧ q ≤ mo + 10) ∨ (mo + 14 ≤ q ∧ q ≤ mo + 16); omega))).tr (fg8.mo (fun q h => by have h9 : q = mo + 16 ∨ q = mo + 8 := h; show q = mo ∨ (mo + 7 ≤ q ∧ q ≤ mo + 10) ∨ (mo + 14 ≤ q ∧ q ≤ mo + 16); omega))).tr (f8.mo (fun q h => by have h9 : q = mo + 16 ∨ q = mo + 10 := h; show q = mo ∨ (mo + 7 ≤ q ∧ q ≤ mo + 10) ∨ (mo + 14 ≤ q ∧ q ≤ mo + 16); omega))
            refine mn_iconst (v := 0) dMo_makeAgain_129 (by decide) ?_
            refine mn_istore_n (ls' := [(0, .ref mo), (1, .int (nI ms)), (3, .int 0)]) dMo_makeAgain_130 rfl (by decide) rfl ?_
            refine mn_R.sub [0, 1, 2] (ls' := [(0, .ref mo), (1, .int (nI ms)), (3, .int 0)]) rfl ?_
            refine mn_R.post (c_M_mk4 (k := ms) hk3 hlk9 (ms + 1) 0 g8 (by omega) (by omega) mn_fr.rf a1 a3 a5) (fun x g' hq => ?_)
            obtain ⟨q1, q2, q3, q4⟩ := hq
            exact ⟨q1, F8.tr (q2.mo (fun q h => by have h9 : q = mo ∨ q = mo + 7 := h; show q = mo ∨ (mo + 7 ≤ q ∧ q ≤ mo + 10) ∨ (mo + 14 ≤ q ∧ q ≤ mo + 16); omega)), LK, BB, TL, TS, mg8, gr8, eLK, eBB, q3, q4, (b1.fr q2 (fun h => by have h9 : mo + 8 = mo ∨ mo + 8 = mo + 7 := h; omega)), (b2.fr q2 (fun h => by have h9 : mo + 9 = mo ∨ mo + 9 = mo + 7 := h; omega)), (a4.fr q2 (fun h => by have h9 : mo + 10 = mo ∨ mo + 10 = mo + 7 := h; omega)), (a5.fr q2 (fun h => by have h9 : mo + 14 = mo ∨ mo + 14 = mo + 7 := h; omega)), (a6.fr q2 (fun h => by have h9 : mo + 15 = mo ∨ mo + 15 = mo + 7 := h; omega)), (a7.fr q2 (fun h => by have h9 : mo + 16 = mo ∨ mo + 16 = mo + 7 := h; omega)), hTbL, hTbS, hmgb8, hgb8, hXL, hOL, hXS, hOS, hg1, hg2⟩
  · have c2 := _root_.mt (nI_leI (a := ms) (b := ms) (by omega) (by omega)).mpr c2
    exact absurd c2 (by omega)
