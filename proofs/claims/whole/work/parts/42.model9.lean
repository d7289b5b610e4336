set_option maxRecDepth 100000 in
theorem c_M_so2 {E : mn_En} {g : mn_H} {mo tl e sz rp st m r wd ag td om : Nat} {ir : Int32} {k a at0 rs : Nat} {x2 : Int32} {Q : Option Value → mn_H → Prop} {lk bb : Nat → Nat} {R : Nat → Nat → Nat} (hk3 : k ≤ 3) (ha : a < k) (hbb : ∀ j, bb j < 3) (hlk : ∀ j, lk j < 60) (hrs : rs < 256) (hR1 : ∀ c, c < k → R a c = twsN 1 (bb a * lk c)) (hR2 : R a 3 = rs) (KK : ∀ (g1 : mn_H) (gr : Nat → Nat), mn_fr (fun q => q = mo + 16) g g1 → (∀ j, gr j < 256) → GrF gr R k (a + 1) → mn_at g1 mo (.inr (11, [.int 0, .ref (mo + 1), .int (nI tl), .ref (mo + 2), .ref (mo + 3), .int (nI e), .int (nI sz), .int (nI rp), .int (nI st), .ref (mo + 4), .ref (mo + 5), .ref (mo + 6), .int ir, .int (nI m), .int (nI r), .int (nI wd), .int (nI ag), .ref (mo + 7), .ref (mo + 8), .ref (mo + 9), .ref (mo + 10), .int (nI td), .int (nI om), .ref (mo + 11), .ref (mo + 12), .ref (mo + 13), .ref (mo + 14), .ref (mo + 15), .ref (mo + 16)])) → mn_at g1 (mo + 14) (.inl (0, 60, .inl (fun j => nI (lk j)))) → mn_at g1 (mo + 15) (.inl (0, 3, .inl (fun j => nI (bb j)))) → mn_at g1 (mo + 16) (.inl (0, 12, .inl (fun j => nI (gr j)))) → mn_R E MMo_solve 2 46 0 0 2 [(0, .ref mo), (1, .int (nI k)), (2, .int x2), (3, .int (nI (a + 1)))] [] g1 Q) : ∀ (fu b : Nat) (g0 : mn_H) (gr : Nat → Nat), b ≤ k → k - b < fu → mn_fr (fun q => q = mo + 16) g g0 → (∀ j, gr j < 256) → GrF gr R k a → (∀ c, c < b → gr (4 * a + c) = R a c) → mn_at g0 mo (.inr (11, [.int 0, .ref (mo + 1), .int (nI tl), .ref (mo + 2), .ref (mo + 3), .int (nI e), .int (nI sz), .int (nI rp), .int (nI st), .ref (mo + 4), .ref (mo + 5), .ref (mo + 6), .int ir, .int (nI m), .int (nI r), .int (nI wd), .int (nI ag), .ref (mo + 7), .ref (mo + 8), .ref (mo + 9), .ref (mo + 10), .int (nI td), .int (nI om), .ref (mo + 11), .ref (mo + 12), .ref (mo + 13), .ref (mo + 14), .ref (mo + 15), .ref (mo + 16)])) → mn_at g0 (mo + 14) (.inl (0, 60, .inl (fun j => nI (lk j)))) → mn_at g0 (mo + 15) (.inl (0, 3, .inl (fun j => nI (bb j)))) → mn_at g0 (mo + 16) (.inl (0, 12, .inl (fun j => nI (gr j)))) → mn_R E MMo_solve 2 46 0 0 144 [(0, .ref mo), (1, .int (nI k)), (2, .int x2), (3, .int (nI a)), (4, .int (nI at0)), (5, .int (nI rs)), (6, .int (nI b))] [] g0 (Q) := by
  intro fu
  induction fu with
  | zero => intro b g0 gr h1 h2; exact absurd h2 (by omega)
  | succ fu ih =>
    intro b g0 gr h1 h2 hfr hgb hgf hrow hM hLk hBy hGr
    have hbl : bb a * lk b ≤ 2 * 59 := Nat.mul_le_mul (by have := hbb a; omega) (by have := hlk b; omega)
    have hbba := hbb a
    have hlkb := hlk b
    refine mn_iload 6 dMo_solve_144 rfl ?_
    refine mn_iload_n 1 dMo_solve_146 rfl rfl ?_
    refine mn_icmp_ge 184 dMo_solve_147 (by decide) (fun c1 => ?_) (fun c1 => ?_)
    · have c1 := (nI_leI (a := k) (b := b) (by omega) (by omega)).mp c1
      refine mn_aload_n 0 dMo_solve_184 rfl rfl ?_
      refine mn_get okMo 28 lMo_62 (by decide) hM rfl dMo_solve_185 ?_
      refine mn_iconst (v := 4) dMo_solve_188 (by decide) ?_
      refine mn_iload_n 3 dMo_solve_189 rfl rfl ?_
      refine mn_imul (z := nI (4 * a)) dMo_solve_190 (pk_mul 4 a) ?_
      refine mn_iconst (v := 3) dMo_solve_191 (by decide) ?_
      refine mn_iadd (z := nI (4 * a + 3)) dMo_solve_192 (nI_add (4 * a) 3) ?_
      refine mn_iload 5 dMo_solve_193 rfl ?_
      refine mn_iastN (j := 4 * a + 3) hGr rfl (by omega) (by omega) dMo_solve_195 ?_
      obtain ⟨g2, eg2⟩ : ∃ gg_, gg_ = mn_set g0 (mo + 16) (.inl (0, 12, .inl (upd (fun j => nI (gr j)) (4 * a + 3) (nI rs)))) := ⟨_, rfl⟩
      refine mn_R.toG eg2 ?_
      have hM_g2 : mn_at g2 mo (.inr (11, [.int 0, .ref (mo + 1), .int (nI tl), .ref (mo + 2), .ref (mo + 3), .int (nI e), .int (nI sz), .int (nI rp), .int (nI st), .ref (mo + 4), .ref (mo + 5), .ref (mo + 6), .int ir, .int (nI m), .int (nI r), .int (nI wd), .int (nI ag), .ref (mo + 7), .ref (mo + 8), .ref (mo + 9), .ref (mo + 10), .int (nI td), .int (nI om), .ref (mo + 11), .ref (mo + 12), .ref (mo + 13), .ref (mo + 14), .ref (mo + 15), .ref (mo + 16)])) := by rw [eg2]; exact hM.off (by omega)
      have hLk_g2 : mn_at g2 (mo + 14) (.inl (0, 60, .inl (fun j => nI (lk j)))) := by rw [eg2]; exact hLk.off (by omega)
      have hBy_g2 : mn_at g2 (mo + 15) (.inl (0, 3, .inl (fun j => nI (bb j)))) := by rw [eg2]; exact hBy.off (by omega)
      have hGr_g2 : mn_at g2 (mo + 16) (.inl (0, 12, .inl (upd (fun j => nI (gr j)) (4 * a + 3) (nI rs)))) := by rw [eg2]; exact hGr.same
      refine mn_iinc (v := nI (a + 1)) (ls' := [(0, .ref mo), (1, .int (nI k)), (2, .int x2), (3, .int (nI (a + 1))), (4, .int (nI at0)), (5, .int (nI rs)), (6, .int (nI b))]) 3 dMo_solve_196 rfl (nI_add a 1) (by decide) rfl ?_
      refine mn_goto 2 dMo_solve_199 (by decide) ?_
      rw [upd_nI] at hGr_g2
      refine mn_R.sub [0, 1, 2, 3] (ls' := [(0, .ref mo), (1, .int (nI k)), (2, .int x2), (3, .int (nI (a + 1)))]) rfl ?_
      obtain rfl : b = k := (by omega)
      exact KK g2 _ (hfr.set eg2 (by show (mo + 16) = mo + 16; omega)) (va_up_lt hgb hrs) (GrF_in hgf hk3 hrow _ hR2) hM_g2 hLk_g2 hBy_g2 hGr_g2
    · have c1 := _root_.mt (nI_leI (a := k) (b := b) (by omega) (by omega)).mpr c1
      refine mn_aload_n 0 dMo_solve_150 rfl rfl ?_
      refine mn_get okMo 28 lMo_62 (by decide) hM rfl dMo_solve_151 ?_
      refine mn_iconst (v := 4) dMo_solve_154 (by decide) ?_
      refine mn_iload_n 3 dMo_solve_155 rfl rfl ?_
      refine mn_imul (z := nI (4 * a)) dMo_solve_156 (pk_mul 4 a) ?_
      refine mn_iload 6 dMo_solve_157 rfl ?_
      refine mn_iadd (z := nI (4 * a + b)) dMo_solve_159 (nI_add (4 * a) b) ?_
      refine mn_aload_n 0 dMo_solve_160 rfl rfl ?_
      refine mn_get okMo 27 lMo_59 (by decide) hM rfl dMo_solve_161 ?_
      refine mn_iload_n 3 dMo_solve_164 rfl rfl ?_
      refine mn_ialdN (j := a) hBy rfl (by omega) (by omega) dMo_solve_165 ?_
      refine mn_aload_n 0 dMo_solve_166 rfl rfl ?_
      refine mn_get okMo 26 lMo_56 (by decide) hM rfl dMo_solve_167 ?_
      refine mn_iload 6 dMo_solve_170 rfl ?_
      refine mn_ialdN (j := b) hLk rfl (by omega) (by omega) dMo_solve_172 ?_
      refine mn_imul (z := nI ((bb a) * (lk b))) dMo_solve_173 (pk_mul (bb a) (lk b)) ?_
      refine mn_cS (d' := 1) (w' := 24) (As := [.int (nI ((bb a) * (lk b)))]) (stk' := [.int (nI (twsN 1 ((bb a) * (lk b)))), .int (nI (4 * a + b)), .ref (mo + 16)]) okMo_power lMo_106 dMo_solve_174 rfl rfl (Nat.le_of_ble_eq_true rfl) (Nat.le_of_ble_eq_true rfl) (by decide) (c_M_power (n := (bb a) * (lk b)) (by omega)) rfl ?_
      refine mn_iastN (j := 4 * a + b) hGr rfl (by omega) (by omega) dMo_solve_177 ?_
      obtain ⟨g3, eg3⟩ : ∃ gg_, gg_ = mn_set g0 (mo + 16) (.inl (0, 12, .inl (upd (fun j => nI (gr j)) (4 * a + b) (nI (twsN 1 ((bb a) * (lk b))))))) := ⟨_, rfl⟩
      refine mn_R.toG eg3 ?_
      have hM_g3 : mn_at g3 mo (.inr (11, [.int 0, .ref (mo + 1), .int (nI tl), .ref (mo + 2), .ref (mo + 3), .int (nI e), .int (nI sz), .int (nI rp), .int (nI st), .ref (mo + 4), .ref (mo + 5), .ref (mo + 6), .int ir, .int (nI m), .int (nI r), .int (nI wd), .int (nI ag), .ref (mo + 7), .ref (mo + 8), .ref (mo + 9), .ref (mo + 10), .int (nI td), .int (nI om), .ref (mo + 11), .ref (mo + 12), .ref (mo + 13), .ref (mo + 14), .ref (mo + 15), .ref (mo + 16)])) := by rw [eg3]; exact hM.off (by omega)
      have hLk_g3 : mn_at g3 (mo + 14) (.inl (0, 60, .inl (fun j => nI (lk j)))) := by rw [eg3]; exact hLk.off (by omega)
      have hBy_g3 : mn_at g3 (mo + 15) (.inl (0, 3, .inl (fun j => nI (bb j)))) := by rw [eg3]; exact hBy.off (by omega)
      have hGr_g3 : mn_at g3 (mo + 16) (.inl (0, 12, .inl (upd (fun j => nI (gr j)) (4 * a + b) (nI (twsN 1 ((bb a) * (lk b))))))) := by rw [eg3]; exact hGr.same
      refine mn_iinc (v := nI (b + 1)) (ls' := [(0, .ref mo), (1, .int (nI k)), (2, .int x2), (3, .int (nI a)), (4, .int (nI at0)), (5, .int (nI rs)), (6, .int (nI (b + 1)))]) 6 dMo_solve_178 rfl (nI_add b 1) (by decide) rfl ?_
      refine mn_goto 144 dMo_solve_181 (by decide) ?_
      rw [upd_nI] at hGr_g3
      refine mn_R.sub [0, 1, 2, 3, 4, 5, 6] (ls' := [(0, .ref mo), (1, .int (nI k)), (2, .int x2), (3, .int (nI a)), (4, .int (nI at0)), (5, .int (nI rs)), (6, .int (nI (b + 1)))]) rfl ?_
      exact ih (b + 1) g3 _ (by omega) (by omega) (hfr.set eg3 (by show (mo + 16) = mo + 16; omega)) (va_up_lt hgb (tw1 _)) (GrF_up hgf hk3) (fun c hc => by rcases Nat.lt_or_ge c b with q | q; rw [va_up_n _ _ (by omega)]; exact hrow c q; obtain rfl : c = b := (by omega); rw [va_up_s]; exact (hR1 c (by omega)).symm) hM_g3 hLk_g3 hBy_g3 hGr_g3
set_option maxRecDepth 100000 in
theorem c_M_so1L {E : mn_En} {g : mn_H} {mo tl e sz rp st m r wd ag td om : Nat} {ir : Int32} {ml bb : Nat → Nat} {pm : Nat → Option Nat} (hM : mn_at g mo (.inr (11, [.int 0, .ref (mo + 1), .int (nI tl), .ref (mo + 2), .ref (mo + 3), .int (nI e), .int (nI sz), .int (nI rp), .int (nI st), .ref (mo + 4), .ref (mo + 5), .ref (mo + 6), .int ir, .int (nI m), .int (nI r), .int (nI wd), .int (nI ag), .ref (mo + 7), .ref (mo + 8), .ref (mo + 9), .ref (mo + 10), .int (nI td), .int (nI om), .ref (mo + 11), .ref (mo + 12), .ref (mo + 13), .ref (mo + 14), .ref (mo + 15), .ref (mo + 16)]))) (hPm : mn_at g (mo + 7) (.inl (0, 64, .inl (fun j => onI (pm j))))) (hMl : mn_at g (mo + 8) (.inl (0, 64, .inl (fun j => nI (ml j))))) (hBy : mn_at g (mo + 15) (.inl (0, 3, .inl (fun j => nI (bb j))))) {k a at0 c0 : Nat} {Q : Option Value → mn_H → Prop} (hm : m ≤ 60) (hpm : ∀ j q, j < 64 → pm j = some q → q < 1000) (hbb : ∀ j, bb j < 3) (ha : a < 3) (hml : ∀ j, ml j < 256) (KK : mn_R E MMo_solve 2 46 0 0 141 [(0, .ref mo), (1, .int (nI k)), (2, .int (-1)), (3, .int (nI a)), (4, .int (nI at0)), (5, .int (nI (c0 ^^^ xK (eL pm ml) (bb a) m)))] [] g Q) : ∀ (fu n : Nat), n ≤ m → m - n < fu → mn_R E MMo_solve 2 46 0 0 82 [(0, .ref mo), (1, .int (nI k)), (2, .int (-1)), (3, .int (nI a)), (4, .int (nI at0)), (5, .int (nI (c0 ^^^ xK (eL pm ml) (bb a) n))), (6, .int (nI n))] [] g (Q) := by
  intro fu
  induction fu with
  | zero => intro n h1 h2; exact absurd h2 (by omega)
  | succ fu ih =>
    intro n h1 h2
    have hbba := hbb a
    refine mn_iload 6 dMo_solve_82 rfl ?_
    refine mn_aload_n 0 dMo_solve_84 rfl rfl ?_
    refine mn_get okMo 13 lMo_144 (by decide) hM rfl dMo_solve_85 ?_
    refine mn_icmp_ge 141 dMo_solve_88 (by decide) (fun c1 => ?_) (fun c1 => ?_)
    · have c1 := (nI_leI (a := m) (b := n) (by omega) (by omega)).mp c1
      refine mn_R.sub [0, 1, 2, 3, 4, 5] (ls' := [(0, .ref mo), (1, .int (nI k)), (2, .int (-1)), (3, .int (nI a)), (4, .int (nI at0)), (5, .int (nI (c0 ^^^ xK (eL pm ml) (bb a) n)))]) rfl ?_
      obtain rfl : n = m := (by omega)
      exact KK
    · have c1 := _root_.mt (nI_leI (a := m) (b := n) (by omega) (by omega)).mpr c1
      have hbn : bb a * n ≤ 2 * 59 := Nat.mul_le_mul (by omega) (by omega)
      refine mn_aload_n 0 dMo_solve_91 rfl rfl ?_
      refine mn_get okMo 17 lMo_35 (by decide) hM rfl dMo_solve_92 ?_
      refine mn_iload 6 dMo_solve_95 rfl ?_
      refine mn_ialdN (j := n) hPm rfl (by omega) (by omega) dMo_solve_97 ?_
      refine mn_bipush (v := (-2)) dMo_solve_98 (by decide) ?_
      refine mn_icmp_ne 108 dMo_solve_100 (by decide) (fun c2 => ?_) (fun c2 => ?_)
      · have hpn : ¬ pm n = none := fun q => c2 ((onI_e (fun q hq => hpm _ q (by omega) hq)).mpr q)
        refine mn_iload 5 dMo_solve_108 rfl ?_
        refine mn_aload_n 0 dMo_solve_110 rfl rfl ?_
        refine mn_get okMo 27 lMo_59 (by decide) hM rfl dMo_solve_111 ?_
        refine mn_iload_n 3 dMo_solve_114 rfl rfl ?_
        refine mn_ialdN (j := a) hBy rfl (by omega) (by omega) dMo_solve_115 ?_
        refine mn_iload 6 dMo_solve_116 rfl ?_
        refine mn_imul (z := nI ((bb a) * n)) dMo_solve_118 (pk_mul (bb a) n) ?_
        refine mn_cS (d' := 1) (w' := 24) (As := [.int (nI ((bb a) * n))]) (stk' := [.int (nI (twsN 1 ((bb a) * n))), .int (nI (c0 ^^^ xK (eL pm ml) (bb a) n))]) okMo_power lMo_106 dMo_solve_119 rfl rfl (Nat.le_of_ble_eq_true rfl) (Nat.le_of_ble_eq_true rfl) (by decide) (c_M_power (n := (bb a) * n) (by omega)) rfl ?_
        refine mn_aload_n 0 dMo_solve_122 rfl rfl ?_
        refine mn_iload 6 dMo_solve_123 rfl ?_
        refine mn_iload_n 2 dMo_solve_125 rfl rfl ?_
        refine mn_cV (d' := 0) (w' := 0) (As := [.int (nI n), .int (-1)]) (stk' := [.int (nI (ml n)), .int (nI (twsN 1 ((bb a) * n))), .int (nI (c0 ^^^ xK (eL pm ml) (bb a) n))]) okMo_known lMo_166 dMo_solve_126 hM rfl rfl rfl rfl (Nat.le_of_ble_eq_true rfl) (Nat.le_of_ble_eq_true rfl) (by decide) (c_M_known_L hM hMl (n := n) (by omega)) rfl ?_
        refine mn_cS (d' := 0) (w' := 0) (As := [.int (nI (twsN 1 ((bb a) * n))), .int (nI (ml n))]) (stk' := [.int (nI (pdN (twsN 1 ((bb a) * n)) (ml n))), .int (nI (c0 ^^^ xK (eL pm ml) (bb a) n))]) okMo_times lMo_100 dMo_solve_129 rfl rfl (Nat.le_of_ble_eq_true rfl) (Nat.le_of_ble_eq_true rfl) (by decide) (c_M_times (a := twsN 1 ((bb a) * n)) (b := ml n) (tw1 _) (hml _)) rfl ?_
        refine mn_ixor (z := nI ((c0 ^^^ xK (eL pm ml) (bb a) n) ^^^ (pdN (twsN 1 ((bb a) * n)) (ml n)))) dMo_solve_132 (nx_xor (c0 ^^^ xK (eL pm ml) (bb a) n) (pdN (twsN 1 ((bb a) * n)) (ml n))) ?_
        refine mn_istore (ls' := [(0, .ref mo), (1, .int (nI k)), (2, .int (-1)), (3, .int (nI a)), (4, .int (nI at0)), (5, .int (nI ((c0 ^^^ xK (eL pm ml) (bb a) n) ^^^ (pdN (twsN 1 ((bb a) * n)) (ml n))))), (6, .int (nI n))]) dMo_solve_133 (by decide) rfl ?_
        refine mn_iinc (v := nI (n + 1)) (ls' := [(0, .ref mo), (1, .int (nI k)), (2, .int (-1)), (3, .int (nI a)), (4, .int (nI at0)), (5, .int (nI ((c0 ^^^ xK (eL pm ml) (bb a) n) ^^^ (pdN (twsN 1 ((bb a) * n)) (ml n))))), (6, .int (nI (n + 1)))]) 6 dMo_solve_135 rfl (nI_add n 1) (by decide) rfl ?_
        refine mn_goto 82 dMo_solve_138 (by decide) ?_
        rw [show (c0 ^^^ xK (eL pm ml) (bb a) n) ^^^ (pdN (twsN 1 ((bb a) * n)) (ml n)) = c0 ^^^ xK (eL pm ml) (bb a) (n + 1) by rw [xK, eL_y hpn, Nat.xor_assoc]]
        exact ih (n + 1) (by omega) (by omega)
      · have hpn : pm n = none := (onI_e (fun q hq => hpm _ q (by omega) hq)).mp c2
        refine mn_iload 5 dMo_solve_103 rfl ?_
        refine mn_goto 133 dMo_solve_105 (by decide) ?_
        refine mn_istore (ls' := [(0, .ref mo), (1, .int (nI k)), (2, .int (-1)), (3, .int (nI a)), (4, .int (nI at0)), (5, .int (nI (c0 ^^^ xK (eL pm ml) (bb a) n))), (6, .int (nI n))]) dMo_solve_133 (by decide) rfl ?_
        refine mn_iinc (v := nI (n + 1)) (ls' := [(0, .ref mo), (1, .int (nI k)), (2, .int (-1)), (3, .int (nI a)), (4, .int (nI at0)), (5, .int (nI (c0 ^^^ xK (eL pm ml) (bb a) n))), (6, .int (nI (n + 1)))]) 6 dMo_solve_135 rfl (nI_add n 1) (by decide) rfl ?_
        refine mn_goto 82 dMo_solve_138 (by decide) ?_
        rw [show c0 ^^^ xK (eL pm ml) (bb a) n = c0 ^^^ xK (eL pm ml) (bb a) (n + 1) by rw [xK, eL_n hpn, pd_0r _ (tw1 _), Nat.xor_zero]]
        exact ih (n + 1) (by omega) (by omega)
set_option maxRecDepth 100000 in
theorem c_M_so3L {E : mn_En} {g : mn_H} {mo tl e sz rp st m r wd ag td om : Nat} {ir : Int32} {sl ml lk bb : Nat → Nat} {pm : Nat → Option Nat} {k : Nat} {pk : Nat → Nat} {Q : Option Value → mn_H → Prop} (hk3 : k ≤ 3) (hm : m ≤ 60) (hpm : ∀ j q, j < 64 → pm j = some q → q < 1000) (hbb : ∀ j, bb j < 3) (hlk : ∀ j, lk j < 60) (hpk : ∀ a, a < k → pm (m + bb a) = some (pk a) ∧ pk a < 60) (hslb : ∀ j, sl j < 256) (hml : ∀ j, ml j < 256) (KK : ∀ (g1 : mn_H) (gr : Nat → Nat), mn_fr (fun q => q = mo + 16) g g1 → (∀ j, gr j < 256) → GrF gr (RMx bb lk (fun a0 => sl (80 * pk a0 + 6)) (eL pm ml) m) k k → mn_at g1 mo (.inr (11, [.int 0, .ref (mo + 1), .int (nI tl), .ref (mo + 2), .ref (mo + 3), .int (nI e), .int (nI sz), .int (nI rp), .int (nI st), .ref (mo + 4), .ref (mo + 5), .ref (mo + 6), .int ir, .int (nI m), .int (nI r), .int (nI wd), .int (nI ag), .ref (mo + 7), .ref (mo + 8), .ref (mo + 9), .ref (mo + 10), .int (nI td), .int (nI om), .ref (mo + 11), .ref (mo + 12), .ref (mo + 13), .ref (mo + 14), .ref (mo + 15), .ref (mo + 16)])) → mn_at g1 (mo + 4) (.inl (0, 4800, .inl (fun j => nI (sl j)))) → mn_at g1 (mo + 7) (.inl (0, 64, .inl (fun j => onI (pm j)))) → mn_at g1 (mo + 8) (.inl (0, 64, .inl (fun j => nI (ml j)))) → mn_at g1 (mo + 14) (.inl (0, 60, .inl (fun j => nI (lk j)))) → mn_at g1 (mo + 15) (.inl (0, 3, .inl (fun j => nI (bb j)))) → mn_at g1 (mo + 16) (.inl (0, 12, .inl (fun j => nI (gr j)))) → mn_R E MMo_solve 2 46 0 0 204 [(0, .ref mo), (1, .int (nI k)), (2, .int (-1)), (3, .int 0)] [] g1 Q) : ∀ (fu a : Nat) (g0 : mn_H) (gr : Nat → Nat), a ≤ k → k - a < fu → mn_fr (fun q => q = mo + 16) g g0 → (∀ j, gr j < 256) → GrF gr (RMx bb lk (fun a0 => sl (80 * pk a0 + 6)) (eL pm ml) m) k a → mn_at g0 mo (.inr (11, [.int 0, .ref (mo + 1), .int (nI tl), .ref (mo + 2), .ref (mo + 3), .int (nI e), .int (nI sz), .int (nI rp), .int (nI st), .ref (mo + 4), .ref (mo + 5), .ref (mo + 6), .int ir, .int (nI m), .int (nI r), .int (nI wd), .int (nI ag), .ref (mo + 7), .ref (mo + 8), .ref (mo + 9), .ref (mo + 10), .int (nI td), .int (nI om), .ref (mo + 11), .ref (mo + 12), .ref (mo + 13), .ref (mo + 14), .ref (mo + 15), .ref (mo + 16)])) → mn_at g0 (mo + 4) (.inl (0, 4800, .inl (fun j => nI (sl j)))) → mn_at g0 (mo + 7) (.inl (0, 64, .inl (fun j => onI (pm j)))) → mn_at g0 (mo + 8) (.inl (0, 64, .inl (fun j => nI (ml j)))) → mn_at g0 (mo + 14) (.inl (0, 60, .inl (fun j => nI (lk j)))) → mn_at g0 (mo + 15) (.inl (0, 3, .inl (fun j => nI (bb j)))) → mn_at g0 (mo + 16) (.inl (0, 12, .inl (fun j => nI (gr j)))) → mn_R E MMo_solve 2 46 0 0 2 [(0, .ref mo), (1, .int (nI k)), (2, .int (-1)), (3, .int (nI a))] [] g0 (Q) := by
  intro fu
  induction fu with
  | zero => intro a g0 gr h1 h2; exact absurd h2 (by omega)
  | succ fu ih =>
    intro a g0 gr h1 h2 hfr hgb hgf hM hSo hPm hMl hLk hBy hGr
    have hbba := hbb a
    refine mn_iload_n 3 dMo_solve_2 rfl rfl ?_
    refine mn_iload_n 1 dMo_solve_3 rfl rfl ?_
    refine mn_icmp_ge 202 dMo_solve_4 (by decide) (fun c1 => ?_) (fun c1 => ?_)
    · have c1 := (nI_leI (a := k) (b := a) (by omega) (by omega)).mp c1
      refine mn_iconst (v := 0) dMo_solve_202 (by decide) ?_
      refine mn_istore_n (ls' := [(0, .ref mo), (1, .int (nI k)), (2, .int (-1)), (3, .int 0)]) dMo_solve_203 rfl (by decide) rfl ?_
      refine mn_R.sub [0, 1, 2, 3] (ls' := [(0, .ref mo), (1, .int (nI k)), (2, .int (-1)), (3, .int 0)]) rfl ?_
      obtain rfl : a = k := (by omega)
      exact KK g0 gr hfr hgb hgf hM hSo hPm hMl hLk hBy hGr
    · have c1 := _root_.mt (nI_leI (a := k) (b := a) (by omega) (by omega)).mpr c1
      refine mn_bipush (v := 80) dMo_solve_7 (by decide) ?_
      refine mn_aload_n 0 dMo_solve_9 rfl rfl ?_
      refine mn_get okMo 17 lMo_35 (by decide) hM rfl dMo_solve_10 ?_
      refine mn_aload_n 0 dMo_solve_13 rfl rfl ?_
      refine mn_get okMo 13 lMo_144 (by decide) hM rfl dMo_solve_14 ?_
      refine mn_aload_n 0 dMo_solve_17 rfl rfl ?_
      refine mn_get okMo 27 lMo_59 (by decide) hM rfl dMo_solve_18 ?_
      refine mn_iload_n 3 dMo_solve_21 rfl rfl ?_
      refine mn_ialdN (j := a) hBy rfl (by omega) (by omega) dMo_solve_22 ?_
      refine mn_iadd (z := nI (m + (bb a))) dMo_solve_23 (nI_add m (bb a)) ?_
      refine mn_ialdN (j := m + (bb a)) hPm rfl (by omega) (by omega) dMo_solve_24 ?_
      have hpka := (hpk a (by omega)).1
      have hpk6 := (hpk a (by omega)).2
      rw [hpka]
      show mn_R E MMo_solve 2 46 _ _ 25 [(0, .ref mo), (1, .int (nI k)), (2, .int (-1)), (3, .int (nI a))] [.int (nI (pk a)), .int 80] g0 _
      refine mn_imul (z := nI (80 * (pk a))) dMo_solve_25 (pk_mul 80 (pk a)) ?_
      refine mn_istore (ls' := [(0, .ref mo), (1, .int (nI k)), (2, .int (-1)), (3, .int (nI a)), (4, .int (nI (80 * (pk a))))]) dMo_solve_26 (by decide) rfl ?_
      refine mn_iload_n 2 dMo_solve_28 rfl rfl ?_
      refine mn_iconst (v := -1) dMo_solve_29 (by decide) ?_
      refine mn_icmp_ne 46 dMo_solve_30 (by decide) (fun c2 => ?_) (fun c2 => ?_)
      · exact absurd c2 (by decide)
      · refine mn_aload_n 0 dMo_solve_33 rfl rfl ?_
        refine mn_get okMo 9 lMo_26 (by decide) hM rfl dMo_solve_34 ?_
        refine mn_iload 4 dMo_solve_37 rfl ?_
        refine mn_bipush (v := 6) dMo_solve_39 (by decide) ?_
        refine mn_iadd (z := nI (80 * (pk a) + 6)) dMo_solve_41 (nI_add (80 * (pk a)) 6) ?_
        refine mn_ialdN (j := 80 * (pk a) + 6) hSo rfl (by omega) (by omega) dMo_solve_42 ?_
        refine mn_goto 77 dMo_solve_43 (by decide) ?_
        refine mn_istore (ls' := [(0, .ref mo), (1, .int (nI k)), (2, .int (-1)), (3, .int (nI a)), (4, .int (nI (80 * (pk a)))), (5, .int (nI (sl (80 * (pk a) + 6))))]) dMo_solve_77 (by decide) rfl ?_
        refine mn_iconst (v := 0) dMo_solve_79 (by decide) ?_
        refine mn_istore (ls' := [(0, .ref mo), (1, .int (nI k)), (2, .int (-1)), (3, .int (nI a)), (4, .int (nI (80 * (pk a)))), (5, .int (nI (sl (80 * (pk a) + 6)))), (6, .int 0)]) dMo_solve_80 (by decide) rfl ?_
        rw [show sl (80 * pk a + 6) = sl (80 * pk a + 6) ^^^ xK (eL pm ml) (bb a) 0 from (Nat.xor_zero _).symm]
        refine c_M_so1L hM hPm hMl hBy hm hpm hbb (by omega) hml ?_ (m + 1) 0 (by omega) (by omega)
        refine mn_iconst (v := 0) dMo_solve_141 (by decide) ?_
        refine mn_istore (ls' := [(0, .ref mo), (1, .int (nI k)), (2, .int (-1)), (3, .int (nI a)), (4, .int (nI (80 * (pk a)))), (5, .int (nI (sl (80 * pk a + 6) ^^^ xK (eL pm ml) (bb a) m))), (6, .int 0)]) dMo_solve_142 (by decide) rfl ?_
        have hFb : ∀ n, (eL pm ml) n < 256 := eL_lt (fun n => hml _)
        refine c_M_so2 (R := (RMx bb lk (fun a0 => sl (80 * pk a0 + 6)) (eL pm ml) m)) hk3 (by omega) hbb hlk (xor_lt8 (hslb _) (xK_lt hFb _ _)) (fun c hc => by unfold RMx; rw [if_neg (by omega)]) (by unfold RMx; rw [if_pos rfl]) (fun g1 gr1 f1 hgb1 hgf1 hM1 hLk1 hBy1 hGr1 => ?_) (k + 1) 0 g0 gr (by omega) (by omega) mn_fr.rf hgb hgf (fun c hc => absurd hc (by omega)) hM hLk hBy hGr
        exact ih (a + 1) g1 gr1 (by omega) (by omega) (hfr.tr f1) hgb1 hgf1 hM1 (hSo.fr f1 (fun h => by have h9 : mo + 4 = mo + 16 := h; omega)) (hPm.fr f1 (fun h => by have h9 : mo + 7 = mo + 16 := h; omega)) (hMl.fr f1 (fun h => by have h9 : mo + 8 = mo + 16 := h; omega)) hLk1 hBy1 hGr1
set_option maxRecDepth 100000 in
theorem c_M_so9L {E : mn_En} {g : mn_H} {mo tl e sz rp st m r wd ag td om : Nat} {ir : Int32} {ml lk gr : Nat → Nat} {k : Nat} (hk3 : k ≤ 3) (hlk : ∀ j, lk j < 60) (hgb : ∀ j, gr j < 256) (hinj : ∀ u u9, u < u9 → u9 < k → lk u ≠ lk u9) : ∀ (fu a : Nat) (g0 : mn_H) (T0 : Nat → Nat), a ≤ k → k - a < fu → mn_fr (fun q => q = mo + 8) g g0 → (∀ j, T0 j < 256) → (∀ u, u < a → T0 (lk u) = gr (4 * u + 3)) → (∀ p, (∀ u, u < a → p ≠ lk u) → T0 p = ml p) → mn_at g0 mo (.inr (11, [.int 0, .ref (mo + 1), .int (nI tl), .ref (mo + 2), .ref (mo + 3), .int (nI e), .int (nI sz), .int (nI rp), .int (nI st), .ref (mo + 4), .ref (mo + 5), .ref (mo + 6), .int ir, .int (nI m), .int (nI r), .int (nI wd), .int (nI ag), .ref (mo + 7), .ref (mo + 8), .ref (mo + 9), .ref (mo + 10), .int (nI td), .int (nI om), .ref (mo + 11), .ref (mo + 12), .ref (mo + 13), .ref (mo + 14), .ref (mo + 15), .ref (mo + 16)])) → mn_at g0 (mo + 8) (.inl (0, 64, .inl (fun j => nI (T0 j)))) → mn_at g0 (mo + 14) (.inl (0, 60, .inl (fun j => nI (lk j)))) → mn_at g0 (mo + 16) (.inl (0, 12, .inl (fun j => nI (gr j)))) → mn_R E MMo_solve 2 46 0 0 452 [(0, .ref mo), (1, .int (nI k)), (2, .int (-1)), (3, .int (nI a))] [] g0 (fun x g' => x = none ∧ mn_fr (fun q => q = mo + 8) g g' ∧ ∃ T9 : Nat → Nat, mn_at g' (mo + 8) (.inl (0, 64, .inl (fun j => nI (T9 j)))) ∧ (∀ j, T9 j < 256) ∧ (∀ u, u < k → T9 (lk u) = gr (4 * u + 3)) ∧ ∀ p, (∀ u, u < k → p ≠ lk u) → T9 p = ml p) := by
  intro fu
  induction fu with
  | zero => intro a g0 T0 h1 h2; exact absurd h2 (by omega)
  | succ fu ih =>
    intro a g0 T0 h1 h2 hfr hTb hT1 hT2 hM hMl hLk hGr
    have hlka := hlk a
    refine mn_iload_n 3 dMo_solve_452 rfl rfl ?_
    refine mn_iload_n 1 dMo_solve_453 rfl rfl ?_
    refine mn_icmp_ge 549 dMo_solve_454 (by decide) (fun c1 => ?_) (fun c1 => ?_)
    · have c1 := (nI_leI (a := k) (b := a) (by omega) (by omega)).mp c1
      exact mn_vret rfl dMo_solve_549 (by obtain rfl : a = k := (by omega); exact ⟨rfl, hfr, T0, hMl, hTb, hT1, hT2⟩)
    · have c1 := _root_.mt (nI_leI (a := k) (b := a) (by omega) (by omega)).mpr c1
      refine mn_aload_n 0 dMo_solve_457 rfl rfl ?_
      refine mn_get okMo 26 lMo_56 (by decide) hM rfl dMo_solve_458 ?_
      refine mn_iload_n 3 dMo_solve_461 rfl rfl ?_
      refine mn_ialdN (j := a) hLk rfl (by omega) (by omega) dMo_solve_462 ?_
      refine mn_istore (ls' := [(0, .ref mo), (1, .int (nI k)), (2, .int (-1)), (3, .int (nI a)), (4, .int (nI (lk a)))]) dMo_solve_463 (by decide) rfl ?_
      refine mn_iload_n 2 dMo_solve_465 rfl rfl ?_
      refine mn_iconst (v := -1) dMo_solve_466 (by decide) ?_
      refine mn_icmp_ne 490 dMo_solve_467 (by decide) (fun c2 => ?_) (fun c2 => ?_)
      · exact absurd c2 (by decide)
      · refine mn_aload_n 0 dMo_solve_470 rfl rfl ?_
        refine mn_get okMo 18 lMo_38 (by decide) hM rfl dMo_solve_471 ?_
        refine mn_iload 4 dMo_solve_474 rfl ?_
        refine mn_aload_n 0 dMo_solve_476 rfl rfl ?_
        refine mn_get okMo 28 lMo_62 (by decide) hM rfl dMo_solve_477 ?_
        refine mn_iconst (v := 4) dMo_solve_480 (by decide) ?_
        refine mn_iload_n 3 dMo_solve_481 rfl rfl ?_
        refine mn_imul (z := nI (4 * a)) dMo_solve_482 (pk_mul 4 a) ?_
        refine mn_iconst (v := 3) dMo_solve_483 (by decide) ?_
        refine mn_iadd (z := nI (4 * a + 3)) dMo_solve_484 (nI_add (4 * a) 3) ?_
        refine mn_ialdN (j := 4 * a + 3) hGr rfl (by omega) (by omega) dMo_solve_485 ?_
        refine mn_iastN (j := lk a) hMl rfl (by omega) (by omega) dMo_solve_486 ?_
        obtain ⟨g3, eg3⟩ : ∃ gg_, gg_ = mn_set g0 (mo + 8) (.inl (0, 64, .inl (upd (fun j => nI (T0 j)) (lk a) (nI (gr (4 * a + 3)))))) := ⟨_, rfl⟩
        refine mn_R.toG eg3 ?_
        have hM_g3 : mn_at g3 mo (.inr (11, [.int 0, .ref (mo + 1), .int (nI tl), .ref (mo + 2), .ref (mo + 3), .int (nI e), .int (nI sz), .int (nI rp), .int (nI st), .ref (mo + 4), .ref (mo + 5), .ref (mo + 6), .int ir, .int (nI m), .int (nI r), .int (nI wd), .int (nI ag), .ref (mo + 7), .ref (mo + 8), .ref (mo + 9), .ref (mo + 10), .int (nI td), .int (nI om), .ref (mo + 11), .ref (mo + 12), .ref (mo + 13), .ref (mo + 14), .ref (mo + 15), .ref (mo + 16)])) := by rw [eg3]; exact hM.off (by omega)
        have hMl_g3 : mn_at g3 (mo + 8) (.inl (0, 64, .inl (upd (fun j => nI (T0 j)) (lk a) (nI (gr (4 * a + 3)))))) := by rw [eg3]; exact hMl.same
        have hLk_g3 : mn_at g3 (mo + 14) (.inl (0, 60, .inl (fun j => nI (lk j)))) := by rw [eg3]; exact hLk.off (by omega)
        have hGr_g3 : mn_at g3 (mo + 16) (.inl (0, 12, .inl (fun j => nI (gr j)))) := by rw [eg3]; exact hGr.off (by omega)
        refine mn_goto 543 dMo_solve_487 (by decide) ?_
        refine mn_iinc (v := nI (a + 1)) (ls' := [(0, .ref mo), (1, .int (nI k)), (2, .int (-1)), (3, .int (nI (a + 1))), (4, .int (nI (lk a)))]) 3 dMo_solve_543 rfl (nI_add a 1) (by decide) rfl ?_
        refine mn_goto 452 dMo_solve_546 (by decide) ?_
        rw [upd_nI] at hMl_g3
        refine mn_R.sub [0, 1, 2, 3] (ls' := [(0, .ref mo), (1, .int (nI k)), (2, .int (-1)), (3, .int (nI (a + 1)))]) rfl ?_
        exact ih (a + 1) g3 _ (by omega) (by omega) (hfr.set eg3 (by show (mo + 8) = mo + 8; omega)) (va_up_lt hTb (hgb _)) (fun u hu => by rcases Nat.lt_or_ge u a with q | q; rw [va_up_n _ _ (hinj u a q (by omega))]; exact hT1 u q; obtain rfl : u = a := (by omega); exact va_up_s _ _ _) (fun p hp => by rw [va_up_n _ _ (hp a (by omega))]; exact hT2 p (fun u hu => hp u (by omega))) hM_g3 hMl_g3 hLk_g3 hGr_g3
set_option maxRecDepth 100000 in
theorem c_M_solveL {E : mn_En} {g : mn_H} {mo tl e sz rp st m r wd ag td om : Nat} {ir : Int32} {sl ml lk bb gr : Nat → Nat} {pm : Nat → Option Nat} (hM : mn_at g mo (.inr (11, [.int 0, .ref (mo + 1), .int (nI tl), .ref (mo + 2), .ref (mo + 3), .int (nI e), .int (nI sz), .int (nI rp), .int (nI st), .ref (mo + 4), .ref (mo + 5), .ref (mo + 6), .int ir, .int (nI m), .int (nI r), .int (nI wd), .int (nI ag), .ref (mo + 7), .ref (mo + 8), .ref (mo + 9), .ref (mo + 10), .int (nI td), .int (nI om), .ref (mo + 11), .ref (mo + 12), .ref (mo + 13), .ref (mo + 14), .ref (mo + 15), .ref (mo + 16)]))) (hSo : mn_at g (mo + 4) (.inl (0, 4800, .inl (fun j => nI (sl j))))) (hPm : mn_at g (mo + 7) (.inl (0, 64, .inl (fun j => onI (pm j))))) (hMl : mn_at g (mo + 8) (.inl (0, 64, .inl (fun j => nI (ml j))))) (hLk : mn_at g (mo + 14) (.inl (0, 60, .inl (fun j => nI (lk j))))) (hBy : mn_at g (mo + 15) (.inl (0, 3, .inl (fun j => nI (bb j))))) (hGr : mn_at g (mo + 16) (.inl (0, 12, .inl (fun j => nI (gr j))))) {k : Nat} {pk : Nat → Nat} (hk3 : k ≤ 3) (hm : m ≤ 60) (hpm : ∀ j q, j < 64 → pm j = some q → q < 1000) (hbb : ∀ j, bb j < 3) (hlk : ∀ j, lk j < 60) (hpk : ∀ a, a < k → pm (m + bb a) = some (pk a) ∧ pk a < 60) (hslb : ∀ j, sl j < 256) (hml : ∀ j, ml j < 256) (hgr : ∀ j, gr j < 256) (hli : ∀ u u9, u < u9 → u9 < k → lk u < lk u9) (hbi : ∀ u u9, u < u9 → u9 < k → bb u < bb u9) : mn_R E MMo_solve 2 46 0 0 0 [(0, .ref mo), (1, .int (nI k)), (2, .int (-1))] [] g (fun x g' => x = none ∧ mn_fr (fun q => q = mo + 16 ∨ q = mo + 8) g g' ∧ ∃ G9 T9 : Nat → Nat, mn_at g' (mo + 16) (.inl (0, 12, .inl (fun j => nI (G9 j)))) ∧ mn_at g' (mo + 8) (.inl (0, 64, .inl (fun j => nI (T9 j)))) ∧ (∀ j, G9 j < 256) ∧ (∀ j, T9 j < 256) ∧ (∀ u, u < k → T9 (lk u) = XM bb lk (fun a0 => sl (80 * pk a0 + 6)) (eL pm ml) m k u) ∧ ∀ p, (∀ u, u < k → p ≠ lk u) → T9 p = ml p) := by
  refine mn_iconst (v := 0) dMo_solve_0 (by decide) ?_
  refine mn_istore_n (ls' := [(0, .ref mo), (1, .int (nI k)), (2, .int (-1)), (3, .int 0)]) dMo_solve_1 rfl (by decide) rfl ?_
  refine c_M_so3L hk3 hm hpm hbb hlk hpk hslb hml (fun g1 gr1 f1 hgb1 hgf1 hM1 hSo1 hPm1 hMl1 hLk1 hBy1 hGr1 => ?_) (k + 1) 0 g gr (by omega) (by omega) mn_fr.rf hgr (fun i c hi => absurd hi (by omega)) hM hSo hPm hMl hLk hBy hGr
  have hel := GrF_R hgf1
  have hpv := piv (RMx_pw bb lk (fun a0 => sl (80 * pk a0 + 6)) (eL pm ml) m hk3) hk3 (fun u hu => hbi u (u + 1) (by omega) hu) (fun u _ => hbb u) (fun u hu => hli u (u + 1) (by omega) hu) (fun u _ => hlk u)
  refine c_M_so8 (R := fun i c => gr1 (4 * i + c)) hk3 (fun q hq => by rw [(elR_O hel (by decide) (by decide) hk3 q (by omega) q hq).1 q hq]; exact hpv q hq) (fun g2 gr2 f2 hgb2 hgq2 hM2 hGr2 => ?_) (k + 1) 0 g1 gr1 (by omega) (by omega) mn_fr.rf hgb1 (fun i c _ _ => rfl) hM1 hGr1
  refine mn_R.post (c_M_so9L hk3 hlk hgb2 (fun u u9 h1 h2 => by have := hli u u9 h1 h2; omega) (k + 1) 0 g2 ml (by omega) (by omega) mn_fr.rf hml (fun u hu => absurd hu (by omega)) (fun p _ => rfl) hM2 (hMl1.fr f2 (fun h => by have h9 : mo + 8 = mo + 16 := h; omega)) (hLk1.fr f2 (fun h => by have h9 : mo + 14 = mo + 16 := h; omega)) hGr2) (fun x g' hq => ?_)
  obtain ⟨q1, q2, T9, q3, q4, q5, q6⟩ := hq
  exact ⟨q1, ((f1.mo (fun q h => by have h9 : q = mo + 16 := h; show q = mo + 16 ∨ q = mo + 8; omega)).tr (f2.mo (fun q h => by have h9 : q = mo + 16 := h; show q = mo + 16 ∨ q = mo + 8; omega))).tr (q2.mo (fun q h => by have h9 : q = mo + 8 := h; show q = mo + 16 ∨ q = mo + 8; omega)), gr2, T9, hGr2.fr q2 (fun h => by have h9 : mo + 16 = mo + 8 := h; omega), q3, hgb2, q4, fun u hu => by rw [q5 u hu, hgq2 u 3 (by omega) (by decide)]; exact (elR_O hel (by decide) (by decide) hk3 k (Nat.le_refl _) u hu).2, q6⟩
set_option maxRecDepth 100000 in
theorem c_M_so1S {E : mn_En} {g : mn_H} {mo tl e sz rp st m r wd ag td om : Nat} {ir : Int32} {mt bb : Nat → Nat} {pm : Nat → Option Nat} (hM : mn_at g mo (.inr (11, [.int 0, .ref (mo + 1), .int (nI tl), .ref (mo + 2), .ref (mo + 3), .int (nI e), .int (nI sz), .int (nI rp), .int (nI st), .ref (mo + 4), .ref (mo + 5), .ref (mo + 6), .int ir, .int (nI m), .int (nI r), .int (nI wd), .int (nI ag), .ref (mo + 7), .ref (mo + 8), .ref (mo + 9), .ref (mo + 10), .int (nI td), .int (nI om), .ref (mo + 11), .ref (mo + 12), .ref (mo + 13), .ref (mo + 14), .ref (mo + 15), .ref (mo + 16)]))) (hPm : mn_at g (mo + 7) (.inl (0, 64, .inl (fun j => onI (pm j))))) (hMt : mn_at g (mo + 9) (.inl (0, 64, .inl (fun j => nI (mt j))))) (hBy : mn_at g (mo + 15) (.inl (0, 3, .inl (fun j => nI (bb j))))) {k a at0 c0 : Nat} {Q : Option Value → mn_H → Prop} (hm : m ≤ 60) (hpm : ∀ j q, j < 64 → pm j = some q → q < 1000) (hbb : ∀ j, bb j < 3) (ha : a < 3) (hmt : ∀ j, mt j < 256) (KK : mn_R E MMo_solve 2 46 0 0 141 [(0, .ref mo), (1, .int (nI k)), (2, .int (-2)), (3, .int (nI a)), (4, .int (nI at0)), (5, .int (nI (c0 ^^^ xK (eL pm mt) (bb a) m)))] [] g Q) : ∀ (fu n : Nat), n ≤ m → m - n < fu → mn_R E MMo_solve 2 46 0 0 82 [(0, .ref mo), (1, .int (nI k)), (2, .int (-2)), (3, .int (nI a)), (4, .int (nI at0)), (5, .int (nI (c0 ^^^ xK (eL pm mt) (bb a) n))), (6, .int (nI n))] [] g (Q) := by
  intro fu
  induction fu with
  | zero => intro n h1 h2; exact absurd h2 (by omega)
  | succ fu ih =>
    intro n h1 h2
    have hbba := hbb a
    refine mn_iload 6 dMo_solve_82 rfl ?_
    refine mn_aload_n 0 dMo_solve_84 rfl rfl ?_
    refine mn_get okMo 13 lMo_144 (by decide) hM rfl dMo_solve_85 ?_
    refine mn_icmp_ge 141 dMo_solve_88 (by decide) (fun c1 => ?_) (fun c1 => ?_)
    · have c1 := (nI_leI (a := m) (b := n) (by omega) (by omega)).mp c1
      refine mn_R.sub [0, 1, 2, 3, 4, 5] (ls' := [(0, .ref mo), (1, .int (nI k)), (2, .int (-2)), (3, .int (nI a)), (4, .int (nI at0)), (5, .int (nI (c0 ^^^ xK (eL pm mt) (bb a) n)))]) rfl ?_
      obtain rfl : n = m := (by omega)
      exact KK
    · have c1 := _root_.mt (nI_leI (a := m) (b := n) (by omega) (by omega)).mpr c1
      have hbn : bb a * n ≤ 2 * 59 := Nat.mul_le_mul (by omega) (by omega)
      refine mn_aload_n 0 dMo_solve_91 rfl rfl ?_
      refine mn_get okMo 17 lMo_35 (by decide) hM rfl dMo_solve_92 ?_
      refine mn_iload 6 dMo_solve_95 rfl ?_
      refine mn_ialdN (j := n) hPm rfl (by omega) (by omega) dMo_solve_97 ?_
      refine mn_bipush (v := (-2)) dMo_solve_98 (by decide) ?_
      refine mn_icmp_ne 108 dMo_solve_100 (by decide) (fun c2 => ?_) (fun c2 => ?_)
      · have hpn : ¬ pm n = none := fun q => c2 ((onI_e (fun q hq => hpm _ q (by omega) hq)).mpr q)
        refine mn_iload 5 dMo_solve_108 rfl ?_
        refine mn_aload_n 0 dMo_solve_110 rfl rfl ?_
        refine mn_get okMo 27 lMo_59 (by decide) hM rfl dMo_solve_111 ?_
        refine mn_iload_n 3 dMo_solve_114 rfl rfl ?_
        refine mn_ialdN (j := a) hBy rfl (by omega) (by omega) dMo_solve_115 ?_
        refine mn_iload 6 dMo_solve_116 rfl ?_
        refine mn_imul (z := nI ((bb a) * n)) dMo_solve_118 (pk_mul (bb a) n) ?_
        refine mn_cS (d' := 1) (w' := 24) (As := [.int (nI ((bb a) * n))]) (stk' := [.int (nI (twsN 1 ((bb a) * n))), .int (nI (c0 ^^^ xK (eL pm mt) (bb a) n))]) okMo_power lMo_106 dMo_solve_119 rfl rfl (Nat.le_of_ble_eq_true rfl) (Nat.le_of_ble_eq_true rfl) (by decide) (c_M_power (n := (bb a) * n) (by omega)) rfl ?_
        refine mn_aload_n 0 dMo_solve_122 rfl rfl ?_
        refine mn_iload 6 dMo_solve_123 rfl ?_
        refine mn_iload_n 2 dMo_solve_125 rfl rfl ?_
        refine mn_cV (d' := 0) (w' := 0) (As := [.int (nI n), .int (-2)]) (stk' := [.int (nI (mt n)), .int (nI (twsN 1 ((bb a) * n))), .int (nI (c0 ^^^ xK (eL pm mt) (bb a) n))]) okMo_known lMo_166 dMo_solve_126 hM rfl rfl rfl rfl (Nat.le_of_ble_eq_true rfl) (Nat.le_of_ble_eq_true rfl) (by decide) (c_M_known_S hM hMt (n := n) (by omega)) rfl ?_
        refine mn_cS (d' := 0) (w' := 0) (As := [.int (nI (twsN 1 ((bb a) * n))), .int (nI (mt n))]) (stk' := [.int (nI (pdN (twsN 1 ((bb a) * n)) (mt n))), .int (nI (c0 ^^^ xK (eL pm mt) (bb a) n))]) okMo_times lMo_100 dMo_solve_129 rfl rfl (Nat.le_of_ble_eq_true rfl) (Nat.le_of_ble_eq_true rfl) (by decide) (c_M_times (a := twsN 1 ((bb a) * n)) (b := mt n) (tw1 _) (hmt _)) rfl ?_
        refine mn_ixor (z := nI ((c0 ^^^ xK (eL pm mt) (bb a) n) ^^^ (pdN (twsN 1 ((bb a) * n)) (mt n)))) dMo_solve_132 (nx_xor (c0 ^^^ xK (eL pm mt) (bb a) n) (pdN (twsN 1 ((bb a) * n)) (mt n))) ?_
        refine mn_istore (ls' := [(0, .ref mo), (1, .int (nI k)), (2, .int (-2)), (3, .int (nI a)), (4, .int (nI at0)), (5, .int (nI ((c0 ^^^ xK (eL pm mt) (bb a) n) ^^^ (pdN (twsN 1 ((bb a) * n)) (mt n))))), (6, .int (nI n))]) dMo_solve_133 (by decide) rfl ?_
        refine mn_iinc (v := nI (n + 1)) (ls' := [(0, .ref mo), (1, .int (nI k)), (2, .int (-2)), (3, .int (nI a)), (4, .int (nI at0)), (5, .int (nI ((c0 ^^^ xK (eL pm mt) (bb a) n) ^^^ (pdN (twsN 1 ((bb a) * n)) (mt n))))), (6, .int (nI (n + 1)))]) 6 dMo_solve_135 rfl (nI_add n 1) (by decide) rfl ?_
        refine mn_goto 82 dMo_solve_138 (by decide) ?_
        rw [show (c0 ^^^ xK (eL pm mt) (bb a) n) ^^^ (pdN (twsN 1 ((bb a) * n)) (mt n)) = c0 ^^^ xK (eL pm mt) (bb a) (n + 1) by rw [xK, eL_y hpn, Nat.xor_assoc]]
        exact ih (n + 1) (by omega) (by omega)
      · have hpn : pm n = none := (onI_e (fun q hq => hpm _ q (by omega) hq)).mp c2
        refine mn_iload 5 dMo_solve_103 rfl ?_
        refine mn_goto 133 dMo_solve_105 (by decide) ?_
        refine mn_istore (ls' := [(0, .ref mo), (1, .int (nI k)), (2, .int (-2)), (3, .int (nI a)), (4, .int (nI at0)), (5, .int (nI (c0 ^^^ xK (eL pm mt) (bb a) n))), (6, .int (nI n))]) dMo_solve_133 (by decide) rfl ?_
        refine mn_iinc (v := nI (n + 1)) (ls' := [(0, .ref mo), (1, .int (nI k)), (2, .int (-2)), (3, .int (nI a)), (4, .int (nI at0)), (5, .int (nI (c0 ^^^ xK (eL pm mt) (bb a) n))), (6, .int (nI (n + 1)))]) 6 dMo_solve_135 rfl (nI_add n 1) (by decide) rfl ?_
        refine mn_goto 82 dMo_solve_138 (by decide) ?_
        rw [show c0 ^^^ xK (eL pm mt) (bb a) n = c0 ^^^ xK (eL pm mt) (bb a) (n + 1) by rw [xK, eL_n hpn, pd_0r _ (tw1 _), Nat.xor_zero]]
        exact ih (n + 1) (by omega) (by omega)
set_option maxRecDepth 100000 in
theorem c_M_so3S {E : mn_En} {g : mn_H} {mo tl e sz rp st m r wd ag td om : Nat} {ir : Int32} {sl mt lk bb : Nat → Nat} {pm : Nat → Option Nat} {k : Nat} {pk : Nat → Nat} {Q : Option Value → mn_H → Prop} (hk3 : k ≤ 3) (hm : m ≤ 60) (hpm : ∀ j q, j < 64 → pm j = some q → q < 1000) (hbb : ∀ j, bb j < 3) (hlk : ∀ j, lk j < 60) (hpk : ∀ a, a < k → pm (m + bb a) = some (pk a) ∧ pk a < 60) (hslb : ∀ j, sl j < 256) (hmt : ∀ j, mt j < 256) (KK : ∀ (g1 : mn_H) (gr : Nat → Nat), mn_fr (fun q => q = mo + 16) g g1 → (∀ j, gr j < 256) → GrF gr (RMx bb lk (fun a0 => sl (80 * pk a0 + 7)) (eL pm mt) m) k k → mn_at g1 mo (.inr (11, [.int 0, .ref (mo + 1), .int (nI tl), .ref (mo + 2), .ref (mo + 3), .int (nI e), .int (nI sz), .int (nI rp), .int (nI st), .ref (mo + 4), .ref (mo + 5), .ref (mo + 6), .int ir, .int (nI m), .int (nI r), .int (nI wd), .int (nI ag), .ref (mo + 7), .ref (mo + 8), .ref (mo + 9), .ref (mo + 10), .int (nI td), .int (nI om), .ref (mo + 11), .ref (mo + 12), .ref (mo + 13), .ref (mo + 14), .ref (mo + 15), .ref (mo + 16)])) → mn_at g1 (mo + 4) (.inl (0, 4800, .inl (fun j => nI (sl j)))) → mn_at g1 (mo + 7) (.inl (0, 64, .inl (fun j => onI (pm j)))) → mn_at g1 (mo + 9) (.inl (0, 64, .inl (fun j => nI (mt j)))) → mn_at g1 (mo + 14) (.inl (0, 60, .inl (fun j => nI (lk j)))) → mn_at g1 (mo + 15) (.inl (0, 3, .inl (fun j => nI (bb j)))) → mn_at g1 (mo + 16) (.inl (0, 12, .inl (fun j => nI (gr j)))) → mn_R E MMo_solve 2 46 0 0 204 [(0, .ref mo), (1, .int (nI k)), (2, .int (-2)), (3, .int 0)] [] g1 Q) : ∀ (fu a : Nat) (g0 : mn_H) (gr : Nat → Nat), a ≤ k → k - a < fu → mn_fr (fun q => q = mo + 16) g g0 → (∀ j, gr j < 256) → GrF gr (RMx bb lk (fun a0 => sl (80 * pk a0 + 7)) (eL pm mt) m) k a → mn_at g0 mo (.inr (11, [.int 0, .ref (mo + 1), .int (nI tl), .ref (mo + 2), .ref (mo + 3), .int (nI e), .int (nI sz), .int (nI rp), .int (nI st), .ref (mo + 4), .ref (mo + 5), .ref (mo + 6), .int ir, .int (nI m), .int (nI r), .int (nI wd), .int (nI ag), .ref (mo + 7), .ref (mo + 8), .ref (mo + 9), .ref (mo + 10), .int (nI td), .int (nI om), .ref (mo + 11), .ref (mo + 12), .ref (mo + 13), .ref (mo + 14), .ref (mo + 15), .ref (mo + 16)])) → mn_at g0 (mo + 4) (.inl (0, 4800, .inl (fun j => nI (sl j)))) → mn_at g0 (mo + 7) (.inl (0, 64, .inl (fun j => onI (pm j)))) → mn_at g0 (mo + 9) (.inl (0, 64, .inl (fun j => nI (mt j)))) → mn_at g0 (mo + 14) (.inl (0, 60, .inl (fun j => nI (lk j)))) → mn_at g0 (mo + 15) (.inl (0, 3, .inl (fun j => nI (bb j)))) → mn_at g0 (mo + 16) (.inl (0, 12, .inl (fun j => nI (gr j)))) → mn_R E MMo_solve 2 46 0 0 2 [(0, .ref mo), (1, .int (nI k)), (2, .int (-2)), (3, .int (nI a))] [] g0 (Q) := by
  intro fu
  induction fu with
  | zero => intro a g0 gr h1 h2; exact absurd h2 (by omega)
  | succ fu ih =>
    intro a g0 gr h1 h2 hfr hgb hgf hM hSo hPm hMt hLk hBy hGr
    have hbba := hbb a
    refine mn_iload_n 3 dMo_solve_2 rfl rfl ?_
    refine mn_iload_n 1 dMo_solve_3 rfl rfl ?_
    refine mn_icmp_ge 202 dMo_solve_4 (by decide) (fun c1 => ?_) (fun c1 => ?_)
    · have c1 := (nI_leI (a := k) (b := a) (by omega) (by omega)).mp c1
      refine mn_iconst (v := 0) dMo_solve_202 (by decide) ?_
      refine mn_istore_n (ls' := [(0, .ref mo), (1, .int (nI k)), (2, .int (-2)), (3, .int 0)]) dMo_solve_203 rfl (by decide) rfl ?_
      refine mn_R.sub [0, 1, 2, 3] (ls' := [(0, .ref mo), (1, .int (nI k)), (2, .int (-2)), (3, .int 0)]) rfl ?_
      obtain rfl : a = k := (by omega)
      exact KK g0 gr hfr hgb hgf hM hSo hPm hMt hLk hBy hGr
    · have c1 := _root_.mt (nI_leI (a := k) (b := a) (by omega) (by omega)).mpr c1
      refine mn_bipush (v := 80) dMo_solve_7 (by decide) ?_
      refine mn_aload_n 0 dMo_solve_9 rfl rfl ?_
      refine mn_get okMo 17 lMo_35 (by decide) hM rfl dMo_solve_10 ?_
      refine mn_aload_n 0 dMo_solve_13 rfl rfl ?_
      refine mn_get okMo 13 lMo_144 (by decide) hM rfl dMo_solve_14 ?_
      refine mn_aload_n 0 dMo_solve_17 rfl rfl ?_
      refine mn_get okMo 27 lMo_59 (by decide) hM rfl dMo_solve_18 ?_
      refine mn_iload_n 3 dMo_solve_21 rfl rfl ?_
      refine mn_ialdN (j := a) hBy rfl (by omega) (by omega) dMo_solve_22 ?_
      refine mn_iadd (z := nI (m + (bb a))) dMo_solve_23 (nI_add m (bb a)) ?_
      refine mn_ialdN (j := m + (bb a)) hPm rfl (by omega) (by omega) dMo_solve_24 ?_
      have hpka := (hpk a (by omega)).1
      have hpk6 := (hpk a (by omega)).2
      rw [hpka]
      show mn_R E MMo_solve 2 46 _ _ 25 [(0, .ref mo), (1, .int (nI k)), (2, .int (-2)), (3, .int (nI a))] [.int (nI (pk a)), .int 80] g0 _
      refine mn_imul (z := nI (80 * (pk a))) dMo_solve_25 (pk_mul 80 (pk a)) ?_
      refine mn_istore (ls' := [(0, .ref mo), (1, .int (nI k)), (2, .int (-2)), (3, .int (nI a)), (4, .int (nI (80 * (pk a))))]) dMo_solve_26 (by decide) rfl ?_
      refine mn_iload_n 2 dMo_solve_28 rfl rfl ?_
      refine mn_iconst (v := -1) dMo_solve_29 (by decide) ?_
      refine mn_icmp_ne 46 dMo_solve_30 (by decide) (fun c2 => ?_) (fun c2 => ?_)
      · refine mn_iload_n 2 dMo_solve_46 rfl rfl ?_
        refine mn_bipush (v := (-2)) dMo_solve_47 (by decide) ?_
        refine mn_icmp_ne 65 dMo_solve_49 (by decide) (fun c3 => ?_) (fun c3 => ?_)
        · exact absurd c3 (by decide)
        · refine mn_aload_n 0 dMo_solve_52 rfl rfl ?_
          refine mn_get okMo 9 lMo_26 (by decide) hM rfl dMo_solve_53 ?_
          refine mn_iload 4 dMo_solve_56 rfl ?_
          refine mn_bipush (v := 7) dMo_solve_58 (by decide) ?_
          refine mn_iadd (z := nI (80 * (pk a) + 7)) dMo_solve_60 (nI_add (80 * (pk a)) 7) ?_
          refine mn_ialdN (j := 80 * (pk a) + 7) hSo rfl (by omega) (by omega) dMo_solve_61 ?_
          refine mn_goto 77 dMo_solve_62 (by decide) ?_
          refine mn_istore (ls' := [(0, .ref mo), (1, .int (nI k)), (2, .int (-2)), (3, .int (nI a)), (4, .int (nI (80 * (pk a)))), (5, .int (nI (sl (80 * (pk a) + 7))))]) dMo_solve_77 (by decide) rfl ?_
          refine mn_iconst (v := 0) dMo_solve_79 (by decide) ?_
          refine mn_istore (ls' := [(0, .ref mo), (1, .int (nI k)), (2, .int (-2)), (3, .int (nI a)), (4, .int (nI (80 * (pk a)))), (5, .int (nI (sl (80 * (pk a) + 7)))), (6, .int 0)]) dMo_solve_80 (by decide) rfl ?_
          rw [show sl (80 * pk a + 7) = sl (80 * pk a + 7) ^^^ xK (eL pm mt) (bb a) 0 from (Nat.xor_zero _).symm]
          refine c_M_so1S hM hPm hMt hBy hm hpm hbb (by omega) hmt ?_ (m + 1) 0 (by omega) (by omega)
          refine mn_iconst (v := 0) dMo_solve_141 (by decide) ?_
          refine mn_istore (ls' := [(0, .ref mo), (1, .int (nI k)), (2, .int (-2)), (3, .int (nI a)), (4, .int (nI (80 * (pk a)))), (5, .int (nI (sl (80 * pk a + 7) ^^^ xK (eL pm mt) (bb a) m))), (6, .int 0)]) dMo_solve_142 (by decide) rfl ?_
          have hFb : ∀ n, (eL pm mt) n < 256 := eL_lt (fun n => hmt _)
          refine c_M_so2 (R := (RMx bb lk (fun a0 => sl (80 * pk a0 + 7)) (eL pm mt) m)) hk3 (by omega) hbb hlk (xor_lt8 (hslb _) (xK_lt hFb _ _)) (fun c hc => by unfold RMx; rw [if_neg (by omega)]) (by unfold RMx; rw [if_pos rfl]) (fun g1 gr1 f1 hgb1 hgf1 hM1 hLk1 hBy1 hGr1 => ?_) (k + 1) 0 g0 gr (by omega) (by omega) mn_fr.rf hgb hgf (fun c hc => absurd hc (by omega)) hM hLk hBy hGr
          exact ih (a + 1) g1 gr1 (by omega) (by omega) (hfr.tr f1) hgb1 hgf1 hM1 (hSo.fr f1 (fun h => by have h9 : mo + 4 = mo + 16 := h; omega)) (hPm.fr f1 (fun h => by have h9 : mo + 7 = mo + 16 := h; omega)) (hMt.fr f1 (fun h => by have h9 : mo + 9 = mo + 16 := h; omega)) hLk1 hBy1 hGr1
      · exact absurd c2 (by decide)
set_option maxRecDepth 100000 in
theorem c_M_so9S {E : mn_En} {g : mn_H} {mo tl e sz rp st m r wd ag td om : Nat} {ir : Int32} {mt lk gr : Nat → Nat} {k : Nat} (hk3 : k ≤ 3) (hlk : ∀ j, lk j < 60) (hgb : ∀ j, gr j < 256) (hinj : ∀ u u9, u < u9 → u9 < k → lk u ≠ lk u9) : ∀ (fu a : Nat) (g0 : mn_H) (T0 : Nat → Nat), a ≤ k → k - a < fu → mn_fr (fun q => q = mo + 9) g g0 → (∀ j, T0 j < 256) → (∀ u, u < a → T0 (lk u) = gr (4 * u + 3)) → (∀ p, (∀ u, u < a → p ≠ lk u) → T0 p = mt p) → mn_at g0 mo (.inr (11, [.int 0, .ref (mo + 1), .int (nI tl), .ref (mo + 2), .ref (mo + 3), .int (nI e), .int (nI sz), .int (nI rp), .int (nI st), .ref (mo + 4), .ref (mo + 5), .ref (mo + 6), .int ir, .int (nI m), .int (nI r), .int (nI wd), .int (nI ag), .ref (mo + 7), .ref (mo + 8), .ref (mo + 9), .ref (mo + 10), .int (nI td), .int (nI om), .ref (mo + 11), .ref (mo + 12), .ref (mo + 13), .ref (mo + 14), .ref (mo + 15), .ref (mo + 16)])) → mn_at g0 (mo + 9) (.inl (0, 64, .inl (fun j => nI (T0 j)))) → mn_at g0 (mo + 14) (.inl (0, 60, .inl (fun j => nI (lk j)))) → mn_at g0 (mo + 16) (.inl (0, 12, .inl (fun j => nI (gr j)))) → mn_R E MMo_solve 2 46 0 0 452 [(0, .ref mo), (1, .int (nI k)), (2, .int (-2)), (3, .int (nI a))] [] g0 (fun x g' => x = none ∧ mn_fr (fun q => q = mo + 9) g g' ∧ ∃ T9 : Nat → Nat, mn_at g' (mo + 9) (.inl (0, 64, .inl (fun j => nI (T9 j)))) ∧ (∀ j, T9 j < 256) ∧ (∀ u, u < k → T9 (lk u) = gr (4 * u + 3)) ∧ ∀ p, (∀ u, u < k → p ≠ lk u) → T9 p = mt p) := by
  intro fu
  induction fu with
  | zero => intro a g0 T0 h1 h2; exact absurd h2 (by omega)
  | succ fu ih =>
    intro a g0 T0 h1 h2 hfr hTb hT1 hT2 hM hMt hLk hGr
    have hlka := hlk a
    refine mn_iload_n 3 dMo_solve_452 rfl rfl ?_
    refine mn_iload_n 1 dMo_solve_453 rfl rfl ?_
    refine mn_icmp_ge 549 dMo_solve_454 (by decide) (fun c1 => ?_) (fun c1 => ?_)
    · have c1 := (nI_leI (a := k) (b := a) (by omega) (by omega)).mp c1
      exact mn_vret rfl dMo_solve_549 (by obtain rfl : a = k := (by omega); exact ⟨rfl, hfr, T0, hMt, hTb, hT1, hT2⟩)
    · have c1 := _root_.mt (nI_leI (a := k) (b := a) (by omega) (by omega)).mpr c1
      refine mn_aload_n 0 dMo_solve_457 rfl rfl ?_
      refine mn_get okMo 26 lMo_56 (by decide) hM rfl dMo_solve_458 ?_
      refine mn_iload_n 3 dMo_solve_461 rfl rfl ?_
      refine mn_ialdN (j := a) hLk rfl (by omega) (by omega) dMo_solve_462 ?_
      refine mn_istore (ls' := [(0, .ref mo), (1, .int (nI k)), (2, .int (-2)), (3, .int (nI a)), (4, .int (nI (lk a)))]) dMo_solve_463 (by decide) rfl ?_
      refine mn_iload_n 2 dMo_solve_465 rfl rfl ?_
      refine mn_iconst (v := -1) dMo_solve_466 (by decide) ?_
      refine mn_icmp_ne 490 dMo_solve_467 (by decide) (fun c2 => ?_) (fun c2 => ?_)
      · refine mn_iload_n 2 dMo_solve_490 rfl rfl ?_
        refine mn_bipush (v := (-2)) dMo_solve_491 (by decide) ?_
        refine mn_icmp_ne 516 dMo_solve_493 (by decide) (fun c3 => ?_) (fun c3 => ?_)
        · exact absurd c3 (by decide)
        · refine mn_aload_n 0 dMo_solve_496 rfl rfl ?_
          refine mn_get okMo 19 lMo_41 (by decide) hM rfl dMo_solve_497 ?_
          refine mn_iload 4 dMo_solve_500 rfl ?_
          refine mn_aload_n 0 dMo_solve_502 rfl rfl ?_
          refine mn_get okMo 28 lMo_62 (by decide) hM rfl dMo_solve_503 ?_
          refine mn_iconst (v := 4) dMo_solve_506 (by decide) ?_
          refine mn_iload_n 3 dMo_solve_507 rfl rfl ?_
          refine mn_imul (z := nI (4 * a)) dMo_solve_508 (pk_mul 4 a) ?_
          refine mn_iconst (v := 3) dMo_solve_509 (by decide) ?_
          refine mn_iadd (z := nI (4 * a + 3)) dMo_solve_510 (nI_add (4 * a) 3) ?_
          refine mn_ialdN (j := 4 * a + 3) hGr rfl (by omega) (by omega) dMo_solve_511 ?_
          refine mn_iastN (j := lk a) hMt rfl (by omega) (by omega) dMo_solve_512 ?_
          obtain ⟨g4, eg4⟩ : ∃ gg_, gg_ = mn_set g0 (mo + 9) (.inl (0, 64, .inl (upd (fun j => nI (T0 j)) (lk a) (nI (gr (4 * a + 3)))))) := ⟨_, rfl⟩
          refine mn_R.toG eg4 ?_
          have hM_g4 : mn_at g4 mo (.inr (11, [.int 0, .ref (mo + 1), .int (nI tl), .ref (mo + 2), .ref (mo + 3), .int (nI e), .int (nI sz), .int (nI rp), .int (nI st), .ref (mo + 4), .ref (mo + 5), .ref (mo + 6), .int ir, .int (nI m), .int (nI r), .int (nI wd), .int (nI ag), .ref (mo + 7), .ref (mo + 8), .ref (mo + 9), .ref (mo + 10), .int (nI td), .int (nI om), .ref (mo + 11), .ref (mo + 12), .ref (mo + 13), .ref (mo + 14), .ref (mo + 15), .ref (mo + 16)])) := by rw [eg4]; exact hM.off (by omega)
          have hMt_g4 : mn_at g4 (mo + 9) (.inl (0, 64, .inl (upd (fun j => nI (T0 j)) (lk a) (nI (gr (4 * a + 3)))))) := by rw [eg4]; exact hMt.same
          have hLk_g4 : mn_at g4 (mo + 14) (.inl (0, 60, .inl (fun j => nI (lk j)))) := by rw [eg4]; exact hLk.off (by omega)
          have hGr_g4 : mn_at g4 (mo + 16) (.inl (0, 12, .inl (fun j => nI (gr j)))) := by rw [eg4]; exact hGr.off (by omega)
          refine mn_goto 543 dMo_solve_513 (by decide) ?_
          refine mn_iinc (v := nI (a + 1)) (ls' := [(0, .ref mo), (1, .int (nI k)), (2, .int (-2)), (3, .int (nI (a + 1))), (4, .int (nI (lk a)))]) 3 dMo_solve_543 rfl (nI_add a 1) (by decide) rfl ?_
          refine mn_goto 452 dMo_solve_546 (by decide) ?_
          rw [upd_nI] at hMt_g4
          refine mn_R.sub [0, 1, 2, 3] (ls' := [(0, .ref mo), (1, .int (nI k)), (2, .int (-2)), (3, .int (nI (a + 1)))]) rfl ?_
          exact ih (a + 1) g4 _ (by omega) (by omega) (hfr.set eg4 (by show (mo + 9) = mo + 9; omega)) (va_up_lt hTb (hgb _)) (fun u hu => by rcases Nat.lt_or_ge u a with q | q; rw [va_up_n _ _ (hinj u a q (by omega))]; exact hT1 u q; obtain rfl : u = a := (by omega); exact va_up_s _ _ _) (fun p hp => by rw [va_up_n _ _ (hp a (by omega))]; exact hT2 p (fun u hu => hp u (by omega))) hM_g4 hMt_g4 hLk_g4 hGr_g4
      · exact absurd c2 (by decide)
set_option maxRecDepth 100000 in
theorem c_M_solveS {E : mn_En} {g : mn_H} {mo tl e sz rp st m r wd ag td om : Nat} {ir : Int32} {sl mt lk bb gr : Nat → Nat} {pm : Nat → Option Nat} (hM : mn_at g mo (.inr (11, [.int 0, .ref (mo + 1), .int (nI tl), .ref (mo + 2), .ref (mo + 3), .int (nI e), .int (nI sz), .int (nI rp), .int (nI st), .ref (mo + 4), .ref (mo + 5), .ref (mo + 6), .int ir, .int (nI m), .int (nI r), .int (nI wd), .int (nI ag), .ref (mo + 7), .ref (mo + 8), .ref (mo + 9), .ref (mo + 10), .int (nI td), .int (nI om), .ref (mo + 11), .ref (mo + 12), .ref (mo + 13), .ref (mo + 14), .ref (mo + 15), .ref (mo + 16)]))) (hSo : mn_at g (mo + 4) (.inl (0, 4800, .inl (fun j => nI (sl j))))) (hPm : mn_at g (mo + 7) (.inl (0, 64, .inl (fun j => onI (pm j))))) (hMt : mn_at g (mo + 9) (.inl (0, 64, .inl (fun j => nI (mt j))))) (hLk : mn_at g (mo + 14) (.inl (0, 60, .inl (fun j => nI (lk j))))) (hBy : mn_at g (mo + 15) (.inl (0, 3, .inl (fun j => nI (bb j))))) (hGr : mn_at g (mo + 16) (.inl (0, 12, .inl (fun j => nI (gr j))))) {k : Nat} {pk : Nat → Nat} (hk3 : k ≤ 3) (hm : m ≤ 60) (hpm : ∀ j q, j < 64 → pm j = some q → q < 1000) (hbb : ∀ j, bb j < 3) (hlk : ∀ j, lk j < 60) (hpk : ∀ a, a < k → pm (m + bb a) = some (pk a) ∧ pk a < 60) (hslb : ∀ j, sl j < 256) (hmt : ∀ j, mt j < 256) (hgr : ∀ j, gr j < 256) (hli : ∀ u u9, u < u9 → u9 < k → lk u < lk u9) (hbi : ∀ u u9, u < u9 → u9 < k → bb u < bb u9) : mn_R E MMo_solve 2 46 0 0 0 [(0, .ref mo), (1, .int (nI k)), (2, .int (-2))] [] g (fun x g' => x = none ∧ mn_fr (fun q => q = mo + 16 ∨ q = mo + 9) g g' ∧ ∃ G9 T9 : Nat → Nat, mn_at g' (mo + 16) (.inl (0, 12, .inl (fun j => nI (G9 j)))) ∧ mn_at g' (mo + 9) (.inl (0, 64, .inl (fun j => nI (T9 j)))) ∧ (∀ j, G9 j < 256) ∧ (∀ j, T9 j < 256) ∧ (∀ u, u < k → T9 (lk u) = XM bb lk (fun a0 => sl (80 * pk a0 + 7)) (eL pm mt) m k u) ∧ ∀ p, (∀ u, u < k → p ≠ lk u) → T9 p = mt p) := by
  refine mn_iconst (v := 0) dMo_solve_0 (by decide) ?_
  refine mn_istore_n (ls' := [(0, .ref mo), (1, .int (nI k)), (2, .int (-2)), (3, .int 0)]) dMo_solve_1 rfl (by decide) rfl ?_
  refine c_M_so3S hk3 hm hpm hbb hlk hpk hslb hmt (fun g1 gr1 f1 hgb1 hgf1 hM1 hSo1 hPm1 hMt1 hLk1 hBy1 hGr1 => ?_) (k + 1) 0 g gr (by omega) (by omega) mn_fr.rf hgr (fun i c hi => absurd hi (by omega)) hM hSo hPm hMt hLk hBy hGr
  have hel := GrF_R hgf1
  have hpv := piv (RMx_pw bb lk (fun a0 => sl (80 * pk a0 + 7)) (eL pm mt) m hk3) hk3 (fun u hu => hbi u (u + 1) (by omega) hu) (fun u _ => hbb u) (fun u hu => hli u (u + 1) (by omega) hu) (fun u _ => hlk u)
  refine c_M_so8 (R := fun i c => gr1 (4 * i + c)) hk3 (fun q hq => by rw [(elR_O hel (by decide) (by decide) hk3 q (by omega) q hq).1 q hq]; exact hpv q hq) (fun g2 gr2 f2 hgb2 hgq2 hM2 hGr2 => ?_) (k + 1) 0 g1 gr1 (by omega) (by omega) mn_fr.rf hgb1 (fun i c _ _ => rfl) hM1 hGr1
  refine mn_R.post (c_M_so9S hk3 hlk hgb2 (fun u u9 h1 h2 => by have := hli u u9 h1 h2; omega) (k + 1) 0 g2 mt (by omega) (by omega) mn_fr.rf hmt (fun u hu => absurd hu (by omega)) (fun p _ => rfl) hM2 (hMt1.fr f2 (fun h => by have h9 : mo + 9 = mo + 16 := h; omega)) (hLk1.fr f2 (fun h => by have h9 : mo + 14 = mo + 16 := h; omega)) hGr2) (fun x g' hq => ?_)
  obtain ⟨q1, q2, T9, q3, q4, q5, q6⟩ := hq
  exact ⟨q1, ((f1.mo (fun q h => by have h9 : q = mo + 16 := h; show q = mo + 16 ∨ q = mo + 9; omega)).tr (f2.mo (fun q h => by have h9 : q = mo + 16 := h; show q = mo + 16 ∨ q = mo + 9; omega))).tr (q2.mo (fun q h => by have h9 : q = mo + 9 := h; show q = mo + 16 ∨ q = mo + 9; omega)), gr2, T9, hGr2.fr q2 (fun h => by have h9 : mo + 16 = mo + 9 := h; omega), q3, hgb2, q4, fun u hu => by rw [q5 u hu, hgq2 u 3 (by omega) (by decide)]; exact (elR_O hel (by decide) (by decide) hk3 k (Nat.le_refl _) u hu).2, q6⟩
set_option maxRecDepth 100000 in
theorem c_M_so1B {E : mn_En} {g : mn_H} {mo tl e sz rp st m r wd ag td om : Nat} {ir : Int32} {mg bb : Nat → Nat} {pm : Nat → Option Nat} (hM : mn_at g mo (.inr (11, [.int 0, .ref (mo + 1), .int (nI tl), .ref (mo + 2), .ref (mo + 3), .int (nI e), .int (nI sz), .int (nI rp), .int (nI st), .ref (mo + 4), .ref (mo + 5), .ref (mo + 6), .int ir, .int (nI m), .int (nI r), .int (nI wd), .int (nI ag), .ref (mo + 7), .ref (mo + 8), .ref (mo + 9), .ref (mo + 10), .int (nI td), .int (nI om), .ref (mo + 11), .ref (mo + 12), .ref (mo + 13), .ref (mo + 14), .ref (mo + 15), .ref (mo + 16)]))) (hPm : mn_at g (mo + 7) (.inl (0, 64, .inl (fun j => onI (pm j))))) (hMg : mn_at g (mo + 10) (.inl (0, 4800, .inl (fun j => nI (mg j))))) (hBy : mn_at g (mo + 15) (.inl (0, 3, .inl (fun j => nI (bb j))))) {k a at0 c0 : Nat} {Q : Option Value → mn_H → Prop} (hm : m ≤ 60) (hpm : ∀ j q, j < 64 → pm j = some q → q < 1000) (hbb : ∀ j, bb j < 3) (ha : a < 3) (hmg : ∀ j, mg j < 256) {i : Nat} (hwd : 20 ≤ wd) (hwd2 : wd ≤ 80) (hmw : m * (wd - 12) ≤ 4080) (hi : i < wd - 12) (KK : mn_R E MMo_solve 2 46 0 0 141 [(0, .ref mo), (1, .int (nI k)), (2, .int (nI i)), (3, .int (nI a)), (4, .int (nI at0)), (5, .int (nI (c0 ^^^ xK (eL pm (fun n0 => mg (n0 * (wd - 12) + i))) (bb a) m)))] [] g Q) : ∀ (fu n : Nat), n ≤ m → m - n < fu → mn_R E MMo_solve 2 46 0 0 82 [(0, .ref mo), (1, .int (nI k)), (2, .int (nI i)), (3, .int (nI a)), (4, .int (nI at0)), (5, .int (nI (c0 ^^^ xK (eL pm (fun n0 => mg (n0 * (wd - 12) + i))) (bb a) n))), (6, .int (nI n))] [] g (Q) := by
  intro fu
  induction fu with
  | zero => intro n h1 h2; exact absurd h2 (by omega)
  | succ fu ih =>
    intro n h1 h2
    have hbba := hbb a
    refine mn_iload 6 dMo_solve_82 rfl ?_
    refine mn_aload_n 0 dMo_solve_84 rfl rfl ?_
    refine mn_get okMo 13 lMo_144 (by decide) hM rfl dMo_solve_85 ?_
    refine mn_icmp_ge 141 dMo_solve_88 (by decide) (fun c1 => ?_) (fun c1 => ?_)
    · have c1 := (nI_leI (a := m) (b := n) (by omega) (by omega)).mp c1
      refine mn_R.sub [0, 1, 2, 3, 4, 5] (ls' := [(0, .ref mo), (1, .int (nI k)), (2, .int (nI i)), (3, .int (nI a)), (4, .int (nI at0)), (5, .int (nI (c0 ^^^ xK (eL pm (fun n0 => mg (n0 * (wd - 12) + i))) (bb a) n)))]) rfl ?_
      obtain rfl : n = m := (by omega)
      exact KK
    · have c1 := _root_.mt (nI_leI (a := m) (b := n) (by omega) (by omega)).mpr c1
      have hbn : bb a * n ≤ 2 * 59 := Nat.mul_le_mul (by omega) (by omega)
      refine mn_aload_n 0 dMo_solve_91 rfl rfl ?_
      refine mn_get okMo 17 lMo_35 (by decide) hM rfl dMo_solve_92 ?_
      refine mn_iload 6 dMo_solve_95 rfl ?_
      refine mn_ialdN (j := n) hPm rfl (by omega) (by omega) dMo_solve_97 ?_
      refine mn_bipush (v := (-2)) dMo_solve_98 (by decide) ?_
      refine mn_icmp_ne 108 dMo_solve_100 (by decide) (fun c2 => ?_) (fun c2 => ?_)
      · have hpn : ¬ pm n = none := fun q => c2 ((onI_e (fun q hq => hpm _ q (by omega) hq)).mpr q)
        refine mn_iload 5 dMo_solve_108 rfl ?_
        refine mn_aload_n 0 dMo_solve_110 rfl rfl ?_
        refine mn_get okMo 27 lMo_59 (by decide) hM rfl dMo_solve_111 ?_
        refine mn_iload_n 3 dMo_solve_114 rfl rfl ?_
        refine mn_ialdN (j := a) hBy rfl (by omega) (by omega) dMo_solve_115 ?_
        refine mn_iload 6 dMo_solve_116 rfl ?_
        refine mn_imul (z := nI ((bb a) * n)) dMo_solve_118 (pk_mul (bb a) n) ?_
        refine mn_cS (d' := 1) (w' := 24) (As := [.int (nI ((bb a) * n))]) (stk' := [.int (nI (twsN 1 ((bb a) * n))), .int (nI (c0 ^^^ xK (eL pm (fun n0 => mg (n0 * (wd - 12) + i))) (bb a) n))]) okMo_power lMo_106 dMo_solve_119 rfl rfl (Nat.le_of_ble_eq_true rfl) (Nat.le_of_ble_eq_true rfl) (by decide) (c_M_power (n := (bb a) * n) (by omega)) rfl ?_
        refine mn_aload_n 0 dMo_solve_122 rfl rfl ?_
        refine mn_iload 6 dMo_solve_123 rfl ?_
        refine mn_iload_n 2 dMo_solve_125 rfl rfl ?_
        refine mn_cV (d' := 0) (w' := 0) (As := [.int (nI n), .int (nI i)]) (stk' := [.int (nI (mg (n * (wd - 12) + i))), .int (nI (twsN 1 ((bb a) * n))), .int (nI (c0 ^^^ xK (eL pm (fun n0 => mg (n0 * (wd - 12) + i))) (bb a) n))]) okMo_known lMo_166 dMo_solve_126 hM rfl rfl rfl rfl (Nat.le_of_ble_eq_true rfl) (Nat.le_of_ble_eq_true rfl) (by decide) (c_M_known_B hM hMg (n := n) (by omega) hwd hwd2 hmw hi) rfl ?_
        refine mn_cS (d' := 0) (w' := 0) (As := [.int (nI (twsN 1 ((bb a) * n))), .int (nI (mg (n * (wd - 12) + i)))]) (stk' := [.int (nI (pdN (twsN 1 ((bb a) * n)) (mg (n * (wd - 12) + i)))), .int (nI (c0 ^^^ xK (eL pm (fun n0 => mg (n0 * (wd - 12) + i))) (bb a) n))]) okMo_times lMo_100 dMo_solve_129 rfl rfl (Nat.le_of_ble_eq_true rfl) (Nat.le_of_ble_eq_true rfl) (by decide) (c_M_times (a := twsN 1 ((bb a) * n)) (b := mg (n * (wd - 12) + i)) (tw1 _) (hmg _)) rfl ?_
        refine mn_ixor (z := nI ((c0 ^^^ xK (eL pm (fun n0 => mg (n0 * (wd - 12) + i))) (bb a) n) ^^^ (pdN (twsN 1 ((bb a) * n)) (mg (n * (wd - 12) + i))))) dMo_solve_132 (nx_xor (c0 ^^^ xK (eL pm (fun n0 => mg (n0 * (wd - 12) + i))) (bb a) n) (pdN (twsN 1 ((bb a) * n)) (mg (n * (wd - 12) + i)))) ?_
        refine mn_istore (ls' := [(0, .ref mo), (1, .int (nI k)), (2, .int (nI i)), (3, .int (nI a)), (4, .int (nI at0)), (5, .int (nI ((c0 ^^^ xK (eL pm (fun n0 => mg (n0 * (wd - 12) + i))) (bb a) n) ^^^ (pdN (twsN 1 ((bb a) * n)) (mg (n * (wd - 12) + i)))))), (6, .int (nI n))]) dMo_solve_133 (by decide) rfl ?_
        refine mn_iinc (v := nI (n + 1)) (ls' := [(0, .ref mo), (1, .int (nI k)), (2, .int (nI i)), (3, .int (nI a)), (4, .int (nI at0)), (5, .int (nI ((c0 ^^^ xK (eL pm (fun n0 => mg (n0 * (wd - 12) + i))) (bb a) n) ^^^ (pdN (twsN 1 ((bb a) * n)) (mg (n * (wd - 12) + i)))))), (6, .int (nI (n + 1)))]) 6 dMo_solve_135 rfl (nI_add n 1) (by decide) rfl ?_
        refine mn_goto 82 dMo_solve_138 (by decide) ?_
        rw [show (c0 ^^^ xK (eL pm (fun n0 => mg (n0 * (wd - 12) + i))) (bb a) n) ^^^ (pdN (twsN 1 ((bb a) * n)) (mg (n * (wd - 12) + i))) = c0 ^^^ xK (eL pm (fun n0 => mg (n0 * (wd - 12) + i))) (bb a) (n + 1) by rw [xK, eL_y hpn, Nat.xor_assoc]]
        exact ih (n + 1) (by omega) (by omega)
      · have hpn : pm n = none := (onI_e (fun q hq => hpm _ q (by omega) hq)).mp c2
        refine mn_iload 5 dMo_solve_103 rfl ?_
        refine mn_goto 133 dMo_solve_105 (by decide) ?_
        refine mn_istore (ls' := [(0, .ref mo), (1, .int (nI k)), (2, .int (nI i)), (3, .int (nI a)), (4, .int (nI at0)), (5, .int (nI (c0 ^^^ xK (eL pm (fun n0 => mg (n0 * (wd - 12) + i))) (bb a) n))), (6, .int (nI n))]) dMo_solve_133 (by decide) rfl ?_
        refine mn_iinc (v := nI (n + 1)) (ls' := [(0, .ref mo), (1, .int (nI k)), (2, .int (nI i)), (3, .int (nI a)), (4, .int (nI at0)), (5, .int (nI (c0 ^^^ xK (eL pm (fun n0 => mg (n0 * (wd - 12) + i))) (bb a) n))), (6, .int (nI (n + 1)))]) 6 dMo_solve_135 rfl (nI_add n 1) (by decide) rfl ?_
        refine mn_goto 82 dMo_solve_138 (by decide) ?_
        rw [show c0 ^^^ xK (eL pm (fun n0 => mg (n0 * (wd - 12) + i))) (bb a) n = c0 ^^^ xK (eL pm (fun n0 => mg (n0 * (wd - 12) + i))) (bb a) (n + 1) by rw [xK, eL_n hpn, pd_0r _ (tw1 _), Nat.xor_zero]]
        exact ih (n + 1) (by omega) (by omega)
set_option maxRecDepth 100000 in
theorem c_M_so3B {E : mn_En} {g : mn_H} {mo tl e sz rp st m r wd ag td om : Nat} {ir : Int32} {sl mg lk bb : Nat → Nat} {pm : Nat → Option Nat} {k : Nat} {pk : Nat → Nat} {Q : Option Value → mn_H → Prop} (hk3 : k ≤ 3) (hm : m ≤ 60) (hpm : ∀ j q, j < 64 → pm j = some q → q < 1000) (hbb : ∀ j, bb j < 3) (hlk : ∀ j, lk j < 60) (hpk : ∀ a, a < k → pm (m + bb a) = some (pk a) ∧ pk a < 60) (hslb : ∀ j, sl j < 256) (hmg : ∀ j, mg j < 256) {i : Nat} (hwd : 20 ≤ wd) (hwd2 : wd ≤ 80) (hmw : m * (wd - 12) ≤ 4080) (hi : i < wd - 12) (KK : ∀ (g1 : mn_H) (gr : Nat → Nat), mn_fr (fun q => q = mo + 16) g g1 → (∀ j, gr j < 256) → GrF gr (RMx bb lk (fun a0 => sl (80 * pk a0 + 12 + i)) (eL pm (fun n0 => mg (n0 * (wd - 12) + i))) m) k k → mn_at g1 mo (.inr (11, [.int 0, .ref (mo + 1), .int (nI tl), .ref (mo + 2), .ref (mo + 3), .int (nI e), .int (nI sz), .int (nI rp), .int (nI st), .ref (mo + 4), .ref (mo + 5), .ref (mo + 6), .int ir, .int (nI m), .int (nI r), .int (nI wd), .int (nI ag), .ref (mo + 7), .ref (mo + 8), .ref (mo + 9), .ref (mo + 10), .int (nI td), .int (nI om), .ref (mo + 11), .ref (mo + 12), .ref (mo + 13), .ref (mo + 14), .ref (mo + 15), .ref (mo + 16)])) → mn_at g1 (mo + 4) (.inl (0, 4800, .inl (fun j => nI (sl j)))) → mn_at g1 (mo + 7) (.inl (0, 64, .inl (fun j => onI (pm j)))) → mn_at g1 (mo + 10) (.inl (0, 4800, .inl (fun j => nI (mg j)))) → mn_at g1 (mo + 14) (.inl (0, 60, .inl (fun j => nI (lk j)))) → mn_at g1 (mo + 15) (.inl (0, 3, .inl (fun j => nI (bb j)))) → mn_at g1 (mo + 16) (.inl (0, 12, .inl (fun j => nI (gr j)))) → mn_R E MMo_solve 2 46 0 0 204 [(0, .ref mo), (1, .int (nI k)), (2, .int (nI i)), (3, .int 0)] [] g1 Q) : ∀ (fu a : Nat) (g0 : mn_H) (gr : Nat → Nat), a ≤ k → k - a < fu → mn_fr (fun q => q = mo + 16) g g0 → (∀ j, gr j < 256) → GrF gr (RMx bb lk (fun a0 => sl (80 * pk a0 + 12 + i)) (eL pm (fun n0 => mg (n0 * (wd - 12) + i))) m) k a → mn_at g0 mo (.inr (11, [.int 0, .ref (mo + 1), .int (nI tl), .ref (mo + 2), .ref (mo + 3), .int (nI e), .int (nI sz), .int (nI rp), .int (nI st), .ref (mo + 4), .ref (mo + 5), .ref (mo + 6), .int ir, .int (nI m), .int (nI r), .int (nI wd), .int (nI ag), .ref (mo + 7), .ref (mo + 8), .ref (mo + 9), .ref (mo + 10), .int (nI td), .int (nI om), .ref (mo + 11), .ref (mo + 12), .ref (mo + 13), .ref (mo + 14), .ref (mo + 15), .ref (mo + 16)])) → mn_at g0 (mo + 4) (.inl (0, 4800, .inl (fun j => nI (sl j)))) → mn_at g0 (mo + 7) (.inl (0, 64, .inl (fun j => onI (pm j)))) → mn_at g0 (mo + 10) (.inl (0, 4800, .inl (fun j => nI (mg j)))) → mn_at g0 (mo + 14) (.inl (0, 60, .inl (fun j => nI (lk j)))) → mn_at g0 (mo + 15) (.inl (0, 3, .inl (fun j => nI (bb j)))) → mn_at g0 (mo + 16) (.inl (0, 12, .inl (fun j => nI (gr j)))) → mn_R E MMo_solve 2 46 0 0 2 [(0, .ref mo), (1, .int (nI k)), (2, .int (nI i)), (3, .int (nI a))] [] g0 (Q) := by
  intro fu
  induction fu with
  | zero => intro a g0 gr h1 h2; exact absurd h2 (by omega)
  | succ fu ih =>
    intro a g0 gr h1 h2 hfr hgb hgf hM hSo hPm hMg hLk hBy hGr
    have hbba := hbb a
    refine mn_iload_n 3 dMo_solve_2 rfl rfl ?_
    refine mn_iload_n 1 dMo_solve_3 rfl rfl ?_
    refine mn_icmp_ge 202 dMo_solve_4 (by decide) (fun c1 => ?_) (fun c1 => ?_)
    · have c1 := (nI_leI (a := k) (b := a) (by omega) (by omega)).mp c1
      refine mn_iconst (v := 0) dMo_solve_202 (by decide) ?_
      refine mn_istore_n (ls' := [(0, .ref mo), (1, .int (nI k)), (2, .int (nI i)), (3, .int 0)]) dMo_solve_203 rfl (by decide) rfl ?_
      refine mn_R.sub [0, 1, 2, 3] (ls' := [(0, .ref mo), (1, .int (nI k)), (2, .int (nI i)), (3, .int 0)]) rfl ?_
      obtain rfl : a = k := (by omega)
      exact KK g0 gr hfr hgb hgf hM hSo hPm hMg hLk hBy hGr
    · have c1 := _root_.mt (nI_leI (a := k) (b := a) (by omega) (by omega)).mpr c1
      refine mn_bipush (v := 80) dMo_solve_7 (by decide) ?_
      refine mn_aload_n 0 dMo_solve_9 rfl rfl ?_
      refine mn_get okMo 17 lMo_35 (by decide) hM rfl dMo_solve_10 ?_
      refine mn_aload_n 0 dMo_solve_13 rfl rfl ?_
      refine mn_get okMo 13 lMo_144 (by decide) hM rfl dMo_solve_14 ?_
      refine mn_aload_n 0 dMo_solve_17 rfl rfl ?_
      refine mn_get okMo 27 lMo_59 (by decide) hM rfl dMo_solve_18 ?_
      refine mn_iload_n 3 dMo_solve_21 rfl rfl ?_
      refine mn_ialdN (j := a) hBy rfl (by omega) (by omega) dMo_solve_22 ?_
      refine mn_iadd (z := nI (m + (bb a))) dMo_solve_23 (nI_add m (bb a)) ?_
      refine mn_ialdN (j := m + (bb a)) hPm rfl (by omega) (by omega) dMo_solve_24 ?_
      have hpka := (hpk a (by omega)).1
      have hpk6 := (hpk a (by omega)).2
      rw [hpka]
      show mn_R E MMo_solve 2 46 _ _ 25 [(0, .ref mo), (1, .int (nI k)), (2, .int (nI i)), (3, .int (nI a))] [.int (nI (pk a)), .int 80] g0 _
      refine mn_imul (z := nI (80 * (pk a))) dMo_solve_25 (pk_mul 80 (pk a)) ?_
      refine mn_istore (ls' := [(0, .ref mo), (1, .int (nI k)), (2, .int (nI i)), (3, .int (nI a)), (4, .int (nI (80 * (pk a))))]) dMo_solve_26 (by decide) rfl ?_
      refine mn_iload_n 2 dMo_solve_28 rfl rfl ?_
      refine mn_iconst (v := -1) dMo_solve_29 (by decide) ?_
      refine mn_icmp_ne 46 dMo_solve_30 (by decide) (fun c2 => ?_) (fun c2 => ?_)
      · refine mn_iload_n 2 dMo_solve_46 rfl rfl ?_
        refine mn_bipush (v := (-2)) dMo_solve_47 (by decide) ?_
        refine mn_icmp_ne 65 dMo_solve_49 (by decide) (fun c3 => ?_) (fun c3 => ?_)
        · refine mn_aload_n 0 dMo_solve_65 rfl rfl ?_
          refine mn_get okMo 9 lMo_26 (by decide) hM rfl dMo_solve_66 ?_
          refine mn_iload 4 dMo_solve_69 rfl ?_
          refine mn_bipush (v := 12) dMo_solve_71 (by decide) ?_
          refine mn_iadd (z := nI (80 * (pk a) + 12)) dMo_solve_73 (nI_add (80 * (pk a)) 12) ?_
          refine mn_iload_n 2 dMo_solve_74 rfl rfl ?_
          refine mn_iadd (z := nI (80 * (pk a) + 12 + i)) dMo_solve_75 (nI_add (80 * (pk a) + 12) i) ?_
          refine mn_ialdN (j := 80 * (pk a) + 12 + i) hSo rfl (by omega) (by omega) dMo_solve_76 ?_
          refine mn_istore (ls' := [(0, .ref mo), (1, .int (nI k)), (2, .int (nI i)), (3, .int (nI a)), (4, .int (nI (80 * (pk a)))), (5, .int (nI (sl (80 * (pk a) + 12 + i))))]) dMo_solve_77 (by decide) rfl ?_
          refine mn_iconst (v := 0) dMo_solve_79 (by decide) ?_
          refine mn_istore (ls' := [(0, .ref mo), (1, .int (nI k)), (2, .int (nI i)), (3, .int (nI a)), (4, .int (nI (80 * (pk a)))), (5, .int (nI (sl (80 * (pk a) + 12 + i)))), (6, .int 0)]) dMo_solve_80 (by decide) rfl ?_
          rw [show sl (80 * pk a + 12 + i) = sl (80 * pk a + 12 + i) ^^^ xK (eL pm (fun n0 => mg (n0 * (wd - 12) + i))) (bb a) 0 from (Nat.xor_zero _).symm]
          refine c_M_so1B hM hPm hMg hBy hm hpm hbb (by omega) hmg hwd hwd2 hmw hi ?_ (m + 1) 0 (by omega) (by omega)
          refine mn_iconst (v := 0) dMo_solve_141 (by decide) ?_
          refine mn_istore (ls' := [(0, .ref mo), (1, .int (nI k)), (2, .int (nI i)), (3, .int (nI a)), (4, .int (nI (80 * (pk a)))), (5, .int (nI (sl (80 * pk a + 12 + i) ^^^ xK (eL pm (fun n0 => mg (n0 * (wd - 12) + i))) (bb a) m))), (6, .int 0)]) dMo_solve_142 (by decide) rfl ?_
          have hFb : ∀ n, (eL pm (fun n0 => mg (n0 * (wd - 12) + i))) n < 256 := eL_lt (fun n => hmg _)
          refine c_M_so2 (R := (RMx bb lk (fun a0 => sl (80 * pk a0 + 12 + i)) (eL pm (fun n0 => mg (n0 * (wd - 12) + i))) m)) hk3 (by omega) hbb hlk (xor_lt8 (hslb _) (xK_lt hFb _ _)) (fun c hc => by unfold RMx; rw [if_neg (by omega)]) (by unfold RMx; rw [if_pos rfl]) (fun g1 gr1 f1 hgb1 hgf1 hM1 hLk1 hBy1 hGr1 => ?_) (k + 1) 0 g0 gr (by omega) (by omega) mn_fr.rf hgb hgf (fun c hc => absurd hc (by omega)) hM hLk hBy hGr
          exact ih (a + 1) g1 gr1 (by omega) (by omega) (hfr.tr f1) hgb1 hgf1 hM1 (hSo.fr f1 (fun h => by have h9 : mo + 4 = mo + 16 := h; omega)) (hPm.fr f1 (fun h => by have h9 : mo + 7 = mo + 16 := h; omega)) (hMg.fr f1 (fun h => by have h9 : mo + 10 = mo + 16 := h; omega)) hLk1 hBy1 hGr1
        · exact absurd c3 (nI_nn (by omega) (by decide))
      · exact absurd c2 (nI_nn (by omega) (by decide))
set_option maxRecDepth 100000 in
theorem c_M_so9B {E : mn_En} {g : mn_H} {mo tl e sz rp st m r wd ag td om : Nat} {ir : Int32} {mg lk gr : Nat → Nat} {k : Nat} {i : Nat} (hwd : 20 ≤ wd) (hwd2 : wd ≤ 80) (hmw : m * (wd - 12) ≤ 4080) (hi : i < wd - 12) (hk3 : k ≤ 3) (hlk : ∀ j, lk j < 60) (hlkm : ∀ u, u < k → lk u < m) (hgb : ∀ j, gr j < 256) (hinj : ∀ u u9, u < u9 → u9 < k → lk u * (wd - 12) + i ≠ lk u9 * (wd - 12) + i) : ∀ (fu a : Nat) (g0 : mn_H) (T0 : Nat → Nat), a ≤ k → k - a < fu → mn_fr (fun q => q = mo + 10) g g0 → (∀ j, T0 j < 256) → (∀ u, u < a → T0 (lk u * (wd - 12) + i) = gr (4 * u + 3)) → (∀ p, (∀ u, u < a → p ≠ lk u * (wd - 12) + i) → T0 p = mg p) → mn_at g0 mo (.inr (11, [.int 0, .ref (mo + 1), .int (nI tl), .ref (mo + 2), .ref (mo + 3), .int (nI e), .int (nI sz), .int (nI rp), .int (nI st), .ref (mo + 4), .ref (mo + 5), .ref (mo + 6), .int ir, .int (nI m), .int (nI r), .int (nI wd), .int (nI ag), .ref (mo + 7), .ref (mo + 8), .ref (mo + 9), .ref (mo + 10), .int (nI td), .int (nI om), .ref (mo + 11), .ref (mo + 12), .ref (mo + 13), .ref (mo + 14), .ref (mo + 15), .ref (mo + 16)])) → mn_at g0 (mo + 10) (.inl (0, 4800, .inl (fun j => nI (T0 j)))) → mn_at g0 (mo + 14) (.inl (0, 60, .inl (fun j => nI (lk j)))) → mn_at g0 (mo + 16) (.inl (0, 12, .inl (fun j => nI (gr j)))) → mn_R E MMo_solve 2 46 0 0 452 [(0, .ref mo), (1, .int (nI k)), (2, .int (nI i)), (3, .int (nI a))] [] g0 (fun x g' => x = none ∧ mn_fr (fun q => q = mo + 10) g g' ∧ ∃ T9 : Nat → Nat, mn_at g' (mo + 10) (.inl (0, 4800, .inl (fun j => nI (T9 j)))) ∧ (∀ j, T9 j < 256) ∧ (∀ u, u < k → T9 (lk u * (wd - 12) + i) = gr (4 * u + 3)) ∧ ∀ p, (∀ u, u < k → p ≠ lk u * (wd - 12) + i) → T9 p = mg p) := by
  intro fu
  induction fu with
  | zero => intro a g0 T0 h1 h2; exact absurd h2 (by omega)
  | succ fu ih =>
    intro a g0 T0 h1 h2 hfr hTb hT1 hT2 hM hMg hLk hGr
    have hlka := hlk a
    have hlm : ∀ u, u < k → lk u * (wd - 12) + (wd - 12) ≤ m * (wd - 12) := fun u hu => by have h9 := Nat.mul_le_mul_right (wd - 12) (show lk u + 1 ≤ m from hlkm u hu); rw [Nat.succ_mul] at h9; exact h9
    refine mn_iload_n 3 dMo_solve_452 rfl rfl ?_
    refine mn_iload_n 1 dMo_solve_453 rfl rfl ?_
    refine mn_icmp_ge 549 dMo_solve_454 (by decide) (fun c1 => ?_) (fun c1 => ?_)
    · have c1 := (nI_leI (a := k) (b := a) (by omega) (by omega)).mp c1
      exact mn_vret rfl dMo_solve_549 (by obtain rfl : a = k := (by omega); exact ⟨rfl, hfr, T0, hMg, hTb, hT1, hT2⟩)
    · have c1 := _root_.mt (nI_leI (a := k) (b := a) (by omega) (by omega)).mpr c1
      refine mn_aload_n 0 dMo_solve_457 rfl rfl ?_
      refine mn_get okMo 26 lMo_56 (by decide) hM rfl dMo_solve_458 ?_
      refine mn_iload_n 3 dMo_solve_461 rfl rfl ?_
      refine mn_ialdN (j := a) hLk rfl (by omega) (by omega) dMo_solve_462 ?_
      refine mn_istore (ls' := [(0, .ref mo), (1, .int (nI k)), (2, .int (nI i)), (3, .int (nI a)), (4, .int (nI (lk a)))]) dMo_solve_463 (by decide) rfl ?_
      have hlma := hlm a (by omega)
      refine mn_iload_n 2 dMo_solve_465 rfl rfl ?_
      refine mn_iconst (v := -1) dMo_solve_466 (by decide) ?_
      refine mn_icmp_ne 490 dMo_solve_467 (by decide) (fun c2 => ?_) (fun c2 => ?_)
      · refine mn_iload_n 2 dMo_solve_490 rfl rfl ?_
        refine mn_bipush (v := (-2)) dMo_solve_491 (by decide) ?_
        refine mn_icmp_ne 516 dMo_solve_493 (by decide) (fun c3 => ?_) (fun c3 => ?_)
        · refine mn_aload_n 0 dMo_solve_516 rfl rfl ?_
          refine mn_get okMo 20 lMo_44 (by decide) hM rfl dMo_solve_517 ?_
          refine mn_iload 4 dMo_solve_520 rfl ?_
          refine mn_aload_n 0 dMo_solve_522 rfl rfl ?_
          refine mn_get okMo 15 lMo_150 (by decide) hM rfl dMo_solve_523 ?_
          refine mn_bipush (v := 12) dMo_solve_526 (by decide) ?_
          refine mn_isub (z := nI (wd - 12)) dMo_solve_528 (pk_sub (a := wd) (b := 12) (by omega)) ?_
          refine mn_imul (z := nI ((lk a) * (wd - 12))) dMo_solve_529 (pk_mul (lk a) (wd - 12)) ?_
          refine mn_iload_n 2 dMo_solve_530 rfl rfl ?_
          refine mn_iadd (z := nI ((lk a) * (wd - 12) + i)) dMo_solve_531 (nI_add ((lk a) * (wd - 12)) i) ?_
          refine mn_aload_n 0 dMo_solve_532 rfl rfl ?_
          refine mn_get okMo 28 lMo_62 (by decide) hM rfl dMo_solve_533 ?_
          refine mn_iconst (v := 4) dMo_solve_536 (by decide) ?_
          refine mn_iload_n 3 dMo_solve_537 rfl rfl ?_
          refine mn_imul (z := nI (4 * a)) dMo_solve_538 (pk_mul 4 a) ?_
          refine mn_iconst (v := 3) dMo_solve_539 (by decide) ?_
          refine mn_iadd (z := nI (4 * a + 3)) dMo_solve_540 (nI_add (4 * a) 3) ?_
          refine mn_ialdN (j := 4 * a + 3) hGr rfl (by omega) (by omega) dMo_solve_541 ?_
          refine mn_iastN (j := (lk a) * (wd - 12) + i) hMg rfl (by omega) (by omega) dMo_solve_542 ?_
          obtain ⟨g4, eg4⟩ : ∃ gg_, gg_ = mn_set g0 (mo + 10) (.inl (0, 4800, .inl (upd (fun j => nI (T0 j)) ((lk a) * (wd - 12) + i) (nI (gr (4 * a + 3)))))) := ⟨_, rfl⟩
          refine mn_R.toG eg4 ?_
          have hM_g4 : mn_at g4 mo (.inr (11, [.int 0, .ref (mo + 1), .int (nI tl), .ref (mo + 2), .ref (mo + 3), .int (nI e), .int (nI sz), .int (nI rp), .int (nI st), .ref (mo + 4), .ref (mo + 5), .ref (mo + 6), .int ir, .int (nI m), .int (nI r), .int (nI wd), .int (nI ag), .ref (mo + 7), .ref (mo + 8), .ref (mo + 9), .ref (mo + 10), .int (nI td), .int (nI om), .ref (mo + 11), .ref (mo + 12), .ref (mo + 13), .ref (mo + 14), .ref (mo + 15), .ref (mo + 16)])) := by rw [eg4]; exact hM.off (by omega)
          have hMg_g4 : mn_at g4 (mo + 10) (.inl (0, 4800, .inl (upd (fun j => nI (T0 j)) ((lk a) * (wd - 12) + i) (nI (gr (4 * a + 3)))))) := by rw [eg4]; exact hMg.same
          have hLk_g4 : mn_at g4 (mo + 14) (.inl (0, 60, .inl (fun j => nI (lk j)))) := by rw [eg4]; exact hLk.off (by omega)
          have hGr_g4 : mn_at g4 (mo + 16) (.inl (0, 12, .inl (fun j => nI (gr j)))) := by rw [eg4]; exact hGr.off (by omega)
          refine mn_iinc (v := nI (a + 1)) (ls' := [(0, .ref mo), (1, .int (nI k)), (2, .int (nI i)), (3, .int (nI (a + 1))), (4, .int (nI (lk a)))]) 3 dMo_solve_543 rfl (nI_add a 1) (by decide) rfl ?_
          refine mn_goto 452 dMo_solve_546 (by decide) ?_
          rw [upd_nI] at hMg_g4
          refine mn_R.sub [0, 1, 2, 3] (ls' := [(0, .ref mo), (1, .int (nI k)), (2, .int (nI i)), (3, .int (nI (a + 1)))]) rfl ?_
          exact ih (a + 1) g4 _ (by omega) (by omega) (hfr.set eg4 (by show (mo + 10) = mo + 10; omega)) (va_up_lt hTb (hgb _)) (fun u hu => by rcases Nat.lt_or_ge u a with q | q; rw [va_up_n _ _ (hinj u a q (by omega))]; exact hT1 u q; obtain rfl : u = a := (by omega); exact va_up_s _ _ _) (fun p hp => by rw [va_up_n _ _ (hp a (by omega))]; exact hT2 p (fun u hu => hp u (by omega))) hM_g4 hMg_g4 hLk_g4 hGr_g4
        · exact absurd c3 (nI_nn (by omega) (by decide))
      · exact absurd c2 (nI_nn (by omega) (by decide))
set_option maxRecDepth 100000 in
theorem c_M_solveB {E : mn_En} {g : mn_H} {mo tl e sz rp st m r wd ag td om : Nat} {ir : Int32} {sl mg lk bb gr : Nat → Nat} {pm : Nat → Option Nat} (hM : mn_at g mo (.inr (11, [.int 0, .ref (mo + 1), .int (nI tl), .ref (mo + 2), .ref (mo + 3), .int (nI e), .int (nI sz), .int (nI rp), .int (nI st), .ref (mo + 4), .ref (mo + 5), .ref (mo + 6), .int ir, .int (nI m), .int (nI r), .int (nI wd), .int (nI ag), .ref (mo + 7), .ref (mo + 8), .ref (mo + 9), .ref (mo + 10), .int (nI td), .int (nI om), .ref (mo + 11), .ref (mo + 12), .ref (mo + 13), .ref (mo + 14), .ref (mo + 15), .ref (mo + 16)]))) (hSo : mn_at g (mo + 4) (.inl (0, 4800, .inl (fun j => nI (sl j))))) (hPm : mn_at g (mo + 7) (.inl (0, 64, .inl (fun j => onI (pm j))))) (hMg : mn_at g (mo + 10) (.inl (0, 4800, .inl (fun j => nI (mg j))))) (hLk : mn_at g (mo + 14) (.inl (0, 60, .inl (fun j => nI (lk j))))) (hBy : mn_at g (mo + 15) (.inl (0, 3, .inl (fun j => nI (bb j))))) (hGr : mn_at g (mo + 16) (.inl (0, 12, .inl (fun j => nI (gr j))))) {k : Nat} {pk : Nat → Nat} (hk3 : k ≤ 3) (hm : m ≤ 60) (hpm : ∀ j q, j < 64 → pm j = some q → q < 1000) (hbb : ∀ j, bb j < 3) (hlk : ∀ j, lk j < 60) (hpk : ∀ a, a < k → pm (m + bb a) = some (pk a) ∧ pk a < 60) (hslb : ∀ j, sl j < 256) (hmg : ∀ j, mg j < 256) {i : Nat} (hwd : 20 ≤ wd) (hwd2 : wd ≤ 80) (hmw : m * (wd - 12) ≤ 4080) (hi : i < wd - 12) (hlkm : ∀ u, u < k → lk u < m) (hgr : ∀ j, gr j < 256) (hli : ∀ u u9, u < u9 → u9 < k → lk u < lk u9) (hbi : ∀ u u9, u < u9 → u9 < k → bb u < bb u9) : mn_R E MMo_solve 2 46 0 0 0 [(0, .ref mo), (1, .int (nI k)), (2, .int (nI i))] [] g (fun x g' => x = none ∧ mn_fr (fun q => q = mo + 16 ∨ q = mo + 10) g g' ∧ ∃ G9 T9 : Nat → Nat, mn_at g' (mo + 16) (.inl (0, 12, .inl (fun j => nI (G9 j)))) ∧ mn_at g' (mo + 10) (.inl (0, 4800, .inl (fun j => nI (T9 j)))) ∧ (∀ j, G9 j < 256) ∧ (∀ j, T9 j < 256) ∧ (∀ u, u < k → T9 (lk u * (wd - 12) + i) = XM bb lk (fun a0 => sl (80 * pk a0 + 12 + i)) (eL pm (fun n0 => mg (n0 * (wd - 12) + i))) m k u) ∧ ∀ p, (∀ u, u < k → p ≠ lk u * (wd - 12) + i) → T9 p = mg p) := by
  refine mn_iconst (v := 0) dMo_solve_0 (by decide) ?_
  refine mn_istore_n (ls' := [(0, .ref mo), (1, .int (nI k)), (2, .int (nI i)), (3, .int 0)]) dMo_solve_1 rfl (by decide) rfl ?_
  refine c_M_so3B hk3 hm hpm hbb hlk hpk hslb hmg hwd hwd2 hmw hi (fun g1 gr1 f1 hgb1 hgf1 hM1 hSo1 hPm1 hMg1 hLk1 hBy1 hGr1 => ?_) (k + 1) 0 g gr (by omega) (by omega) mn_fr.rf hgr (fun i c hi => absurd hi (by omega)) hM hSo hPm hMg hLk hBy hGr
  have hel := GrF_R hgf1
  have hpv := piv (RMx_pw bb lk (fun a0 => sl (80 * pk a0 + 12 + i)) (eL pm (fun n0 => mg (n0 * (wd - 12) + i))) m hk3) hk3 (fun u hu => hbi u (u + 1) (by omega) hu) (fun u _ => hbb u) (fun u hu => hli u (u + 1) (by omega) hu) (fun u _ => hlk u)
  refine c_M_so8 (R := fun i c => gr1 (4 * i + c)) hk3 (fun q hq => by rw [(elR_O hel (by decide) (by decide) hk3 q (by omega) q hq).1 q hq]; exact hpv q hq) (fun g2 gr2 f2 hgb2 hgq2 hM2 hGr2 => ?_) (k + 1) 0 g1 gr1 (by omega) (by omega) mn_fr.rf hgb1 (fun i c _ _ => rfl) hM1 hGr1
  refine mn_R.post (c_M_so9B hwd hwd2 hmw hi hk3 hlk hlkm hgb2 (fun u u9 h1 h2 e9 => by have h3 := hli u u9 h1 h2; have h4 := Nat.mul_le_mul_right (wd - 12) (show lk u + 1 ≤ lk u9 from h3); rw [Nat.succ_mul] at h4; omega) (k + 1) 0 g2 mg (by omega) (by omega) mn_fr.rf hmg (fun u hu => absurd hu (by omega)) (fun p _ => rfl) hM2 (hMg1.fr f2 (fun h => by have h9 : mo + 10 = mo + 16 := h; omega)) (hLk1.fr f2 (fun h => by have h9 : mo + 14 = mo + 16 := h; omega)) hGr2) (fun x g' hq => ?_)
  obtain ⟨q1, q2, T9, q3, q4, q5, q6⟩ := hq
  exact ⟨q1, ((f1.mo (fun q h => by have h9 : q = mo + 16 := h; show q = mo + 16 ∨ q = mo + 10; omega)).tr (f2.mo (fun q h => by have h9 : q = mo + 16 := h; show q = mo + 16 ∨ q = mo + 10; omega))).tr (q2.mo (fun q h => by have h9 : q = mo + 10 := h; show q = mo + 16 ∨ q = mo + 10; omega)), gr2, T9, hGr2.fr q2 (fun h => by have h9 : mo + 16 = mo + 10 := h; omega), q3, hgb2, q4, fun u hu => by rw [q5 u hu, hgq2 u 3 (by omega) (by decide)]; exact (elR_O hel (by decide) (by decide) hk3 k (Nat.le_refl _) u hu).2, q6⟩
