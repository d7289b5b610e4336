set_option maxRecDepth 100000 in
theorem c_M_so4 {E : mn_En} {g : mn_H} {mo tl e sz rp st m r wd ag td om : Nat} {ir : Int32} {k a : Nat} {x2 : Int32} {Q : Option Value → mn_H → Prop} {gr : Nat → Nat} (ha : a < 3) (KK : ∀ g1, mn_fr (fun q => q = mo + 16) g g1 → mn_at g1 mo (.inr (11, [.int 0, .ref (mo + 1), .int (nI tl), .ref (mo + 2), .ref (mo + 3), .int (nI e), .int (nI sz), .int (nI rp), .int (nI st), .ref (mo + 4), .ref (mo + 5), .ref (mo + 6), .int ir, .int (nI m), .int (nI r), .int (nI wd), .int (nI ag), .ref (mo + 7), .ref (mo + 8), .ref (mo + 9), .ref (mo + 10), .int (nI td), .int (nI om), .ref (mo + 11), .ref (mo + 12), .ref (mo + 13), .ref (mo + 14), .ref (mo + 15), .ref (mo + 16)])) → mn_at g1 (mo + 16) (.inl (0, 12, .inl (fun j => nI (gr j)))) → mn_R E MMo_solve 2 46 0 0 297 [(0, .ref mo), (1, .int (nI k)), (2, .int x2), (3, .int (nI a))] [] g1 Q) : ∀ (fu b : Nat) (g0 : mn_H), b ≤ 4 → 4 - b < fu → mn_fr (fun q => q = mo + 16) g g0 → mn_at g0 mo (.inr (11, [.int 0, .ref (mo + 1), .int (nI tl), .ref (mo + 2), .ref (mo + 3), .int (nI e), .int (nI sz), .int (nI rp), .int (nI st), .ref (mo + 4), .ref (mo + 5), .ref (mo + 6), .int ir, .int (nI m), .int (nI r), .int (nI wd), .int (nI ag), .ref (mo + 7), .ref (mo + 8), .ref (mo + 9), .ref (mo + 10), .int (nI td), .int (nI om), .ref (mo + 11), .ref (mo + 12), .ref (mo + 13), .ref (mo + 14), .ref (mo + 15), .ref (mo + 16)])) → mn_at g0 (mo + 16) (.inl (0, 12, .inl (fun j => nI (gr j)))) → mn_R E MMo_solve 2 46 0 0 235 [(0, .ref mo), (1, .int (nI k)), (2, .int x2), (3, .int (nI a)), (4, .int (nI a)), (5, .int (nI b))] [] g0 (Q) := by
  intro fu
  induction fu with
  | zero => intro b g0 h1 h2; exact absurd h2 (by omega)
  | succ fu ih =>
    intro b g0 h1 h2 hfr hM hGr
    refine mn_iload 5 dMo_solve_235 rfl ?_
    refine mn_iconst (v := 4) dMo_solve_237 (by decide) ?_
    refine mn_icmp_ge 297 dMo_solve_238 (by decide) (fun c1 => ?_) (fun c1 => ?_)
    · have c1 := (nI_leI (a := 4) (b := b) (by omega) (by omega)).mp c1
      refine mn_R.sub [0, 1, 2, 3] (ls' := [(0, .ref mo), (1, .int (nI k)), (2, .int x2), (3, .int (nI a))]) rfl ?_
      exact KK g0 hfr hM hGr
    · have c1 := _root_.mt (nI_leI (a := 4) (b := b) (by omega) (by omega)).mpr c1
      refine mn_aload_n 0 dMo_solve_241 rfl rfl ?_
      refine mn_get okMo 28 lMo_62 (by decide) hM rfl dMo_solve_242 ?_
      refine mn_iconst (v := 4) dMo_solve_245 (by decide) ?_
      refine mn_iload_n 3 dMo_solve_246 rfl rfl ?_
      refine mn_imul (z := nI (4 * a)) dMo_solve_247 (pk_mul 4 a) ?_
      refine mn_iload 5 dMo_solve_248 rfl ?_
      refine mn_iadd (z := nI (4 * a + b)) dMo_solve_250 (nI_add (4 * a) b) ?_
      refine mn_ialdN (j := 4 * a + b) hGr rfl (by omega) (by omega) dMo_solve_251 ?_
      refine mn_istore (ls' := [(0, .ref mo), (1, .int (nI k)), (2, .int x2), (3, .int (nI a)), (4, .int (nI a)), (5, .int (nI b)), (6, .int (nI (gr (4 * a + b))))]) dMo_solve_252 (by decide) rfl ?_
      refine mn_aload_n 0 dMo_solve_254 rfl rfl ?_
      refine mn_get okMo 28 lMo_62 (by decide) hM rfl dMo_solve_255 ?_
      refine mn_iconst (v := 4) dMo_solve_258 (by decide) ?_
      refine mn_iload_n 3 dMo_solve_259 rfl rfl ?_
      refine mn_imul (z := nI (4 * a)) dMo_solve_260 (pk_mul 4 a) ?_
      refine mn_iload 5 dMo_solve_261 rfl ?_
      refine mn_iadd (z := nI (4 * a + b)) dMo_solve_263 (nI_add (4 * a) b) ?_
      refine mn_aload_n 0 dMo_solve_264 rfl rfl ?_
      refine mn_get okMo 28 lMo_62 (by decide) hM rfl dMo_solve_265 ?_
      refine mn_iconst (v := 4) dMo_solve_268 (by decide) ?_
      refine mn_iload 4 dMo_solve_269 rfl ?_
      refine mn_imul (z := nI (4 * a)) dMo_solve_271 (pk_mul 4 a) ?_
      refine mn_iload 5 dMo_solve_272 rfl ?_
      refine mn_iadd (z := nI (4 * a + b)) dMo_solve_274 (nI_add (4 * a) b) ?_
      refine mn_ialdN (j := 4 * a + b) hGr rfl (by omega) (by omega) dMo_solve_275 ?_
      refine mn_iastN (j := 4 * a + b) hGr rfl (by omega) (by omega) dMo_solve_276 ?_
      obtain ⟨g2, eg2⟩ : ∃ gg_, gg_ = mn_set g0 (mo + 16) (.inl (0, 12, .inl (upd (fun j => nI (gr j)) (4 * a + b) (nI (gr (4 * a + b)))))) := ⟨_, rfl⟩
      refine mn_R.toG eg2 ?_
      have hM_g2 : mn_at g2 mo (.inr (11, [.int 0, .ref (mo + 1), .int (nI tl), .ref (mo + 2), .ref (mo + 3), .int (nI e), .int (nI sz), .int (nI rp), .int (nI st), .ref (mo + 4), .ref (mo + 5), .ref (mo + 6), .int ir, .int (nI m), .int (nI r), .int (nI wd), .int (nI ag), .ref (mo + 7), .ref (mo + 8), .ref (mo + 9), .ref (mo + 10), .int (nI td), .int (nI om), .ref (mo + 11), .ref (mo + 12), .ref (mo + 13), .ref (mo + 14), .ref (mo + 15), .ref (mo + 16)])) := by rw [eg2]; exact hM.off (by omega)
      have hGr_g2 : mn_at g2 (mo + 16) (.inl (0, 12, .inl (upd (fun j => nI (gr j)) (4 * a + b) (nI (gr (4 * a + b)))))) := by rw [eg2]; exact hGr.same
      refine mn_aload_n 0 dMo_solve_277 rfl rfl ?_
      refine mn_get okMo 28 lMo_62 (by decide) hM_g2 rfl dMo_solve_278 ?_
      refine mn_iconst (v := 4) dMo_solve_281 (by decide) ?_
      refine mn_iload 4 dMo_solve_282 rfl ?_
      refine mn_imul (z := nI (4 * a)) dMo_solve_284 (pk_mul 4 a) ?_
      refine mn_iload 5 dMo_solve_285 rfl ?_
      refine mn_iadd (z := nI (4 * a + b)) dMo_solve_287 (nI_add (4 * a) b) ?_
      refine mn_iload 6 dMo_solve_288 rfl ?_
      refine mn_iastN (j := 4 * a + b) hGr_g2 rfl (by omega) (by omega) dMo_solve_290 ?_
      obtain ⟨g3, eg3⟩ : ∃ gg_, gg_ = mn_set g2 (mo + 16) (.inl (0, 12, .inl (upd (upd (fun j => nI (gr j)) (4 * a + b) (nI (gr (4 * a + b)))) (4 * a + b) (nI (gr (4 * a + b)))))) := ⟨_, rfl⟩
      refine mn_R.toG eg3 ?_
      have hM_g3 : mn_at g3 mo (.inr (11, [.int 0, .ref (mo + 1), .int (nI tl), .ref (mo + 2), .ref (mo + 3), .int (nI e), .int (nI sz), .int (nI rp), .int (nI st), .ref (mo + 4), .ref (mo + 5), .ref (mo + 6), .int ir, .int (nI m), .int (nI r), .int (nI wd), .int (nI ag), .ref (mo + 7), .ref (mo + 8), .ref (mo + 9), .ref (mo + 10), .int (nI td), .int (nI om), .ref (mo + 11), .ref (mo + 12), .ref (mo + 13), .ref (mo + 14), .ref (mo + 15), .ref (mo + 16)])) := by rw [eg3]; exact hM_g2.off (by omega)
      have hGr_g3 : mn_at g3 (mo + 16) (.inl (0, 12, .inl (upd (upd (fun j => nI (gr j)) (4 * a + b) (nI (gr (4 * a + b)))) (4 * a + b) (nI (gr (4 * a + b)))))) := by rw [eg3]; exact hGr_g2.same
      refine mn_iinc (v := nI (b + 1)) (ls' := [(0, .ref mo), (1, .int (nI k)), (2, .int x2), (3, .int (nI a)), (4, .int (nI a)), (5, .int (nI (b + 1))), (6, .int (nI (gr (4 * a + b))))]) 5 dMo_solve_291 rfl (nI_add b 1) (by decide) rfl ?_
      refine mn_goto 235 dMo_solve_294 (by decide) ?_
      have h9 : mn_at g3 (mo + 16) (.inl (0, 12, .inl (fun j => nI (gr j)))) := by have h8 := hGr_g3; rw [upd_nI, va_up_id, upd_nI, va_up_id] at h8; exact h8
      refine mn_R.sub [0, 1, 2, 3, 4, 5] (ls' := [(0, .ref mo), (1, .int (nI k)), (2, .int x2), (3, .int (nI a)), (4, .int (nI a)), (5, .int (nI (b + 1)))]) rfl ?_
      exact ih (b + 1) g3 (by omega) (by omega) ((hfr.set eg2 (by show (mo + 16) = mo + 16; omega)).set eg3 (by show (mo + 16) = mo + 16; omega)) hM_g3 h9
set_option maxRecDepth 100000 in
theorem c_M_so5 {E : mn_En} {g : mn_H} {mo tl e sz rp st m r wd ag td om : Nat} {ir : Int32} {k a : Nat} {x2 : Int32} {Q : Option Value → mn_H → Prop} {f : Nat} {R : Nat → Nat → Nat} (ha : a < 3) (hf : f < 256) (KK : ∀ (g1 : mn_H) (gr : Nat → Nat), mn_fr (fun q => q = mo + 16) g g1 → (∀ j, gr j < 256) → GrQ gr (scA R a f) → mn_at g1 mo (.inr (11, [.int 0, .ref (mo + 1), .int (nI tl), .ref (mo + 2), .ref (mo + 3), .int (nI e), .int (nI sz), .int (nI rp), .int (nI st), .ref (mo + 4), .ref (mo + 5), .ref (mo + 6), .int ir, .int (nI m), .int (nI r), .int (nI wd), .int (nI ag), .ref (mo + 7), .ref (mo + 8), .ref (mo + 9), .ref (mo + 10), .int (nI td), .int (nI om), .ref (mo + 11), .ref (mo + 12), .ref (mo + 13), .ref (mo + 14), .ref (mo + 15), .ref (mo + 16)])) → mn_at g1 (mo + 16) (.inl (0, 12, .inl (fun j => nI (gr j)))) → mn_R E MMo_solve 2 46 0 0 354 [(0, .ref mo), (1, .int (nI k)), (2, .int x2), (3, .int (nI a))] [] g1 Q) : ∀ (fu b : Nat) (g0 : mn_H) (gr : Nat → Nat), b ≤ 4 → 4 - b < fu → mn_fr (fun q => q = mo + 16) g g0 → (∀ j, gr j < 256) → GrQ gr (scB R a f b) → mn_at g0 mo (.inr (11, [.int 0, .ref (mo + 1), .int (nI tl), .ref (mo + 2), .ref (mo + 3), .int (nI e), .int (nI sz), .int (nI rp), .int (nI st), .ref (mo + 4), .ref (mo + 5), .ref (mo + 6), .int ir, .int (nI m), .int (nI r), .int (nI wd), .int (nI ag), .ref (mo + 7), .ref (mo + 8), .ref (mo + 9), .ref (mo + 10), .int (nI td), .int (nI om), .ref (mo + 11), .ref (mo + 12), .ref (mo + 13), .ref (mo + 14), .ref (mo + 15), .ref (mo + 16)])) → mn_at g0 (mo + 16) (.inl (0, 12, .inl (fun j => nI (gr j)))) → mn_R E MMo_solve 2 46 0 0 315 [(0, .ref mo), (1, .int (nI k)), (2, .int x2), (3, .int (nI a)), (5, .int (nI f)), (6, .int (nI b))] [] g0 (Q) := by
  intro fu
  induction fu with
  | zero => intro b g0 gr h1 h2; exact absurd h2 (by omega)
  | succ fu ih =>
    intro b g0 gr h1 h2 hfr hgb hgq hM hGr
    refine mn_iload 5 dMo_solve_315 rfl ?_
    refine mn_iconst (v := 4) dMo_solve_317 (by decide) ?_
    refine mn_icmp_ge 354 dMo_solve_318 (by decide) (fun c1 => ?_) (fun c1 => ?_)
    · have c1 := (nI_leI (a := 4) (b := b) (by omega) (by omega)).mp c1
      refine mn_R.sub [0, 1, 2, 3] (ls' := [(0, .ref mo), (1, .int (nI k)), (2, .int x2), (3, .int (nI a))]) rfl ?_
      obtain rfl : b = 4 := (by omega)
      exact KK g0 gr hfr hgb (scB_4 hgq) hM hGr
    · have c1 := _root_.mt (nI_leI (a := 4) (b := b) (by omega) (by omega)).mpr c1
      refine mn_aload_n 0 dMo_solve_321 rfl rfl ?_
      refine mn_get okMo 28 lMo_62 (by decide) hM rfl dMo_solve_322 ?_
      refine mn_iconst (v := 4) dMo_solve_325 (by decide) ?_
      refine mn_iload_n 3 dMo_solve_326 rfl rfl ?_
      refine mn_imul (z := nI (4 * a)) dMo_solve_327 (pk_mul 4 a) ?_
      refine mn_iload 5 dMo_solve_328 rfl ?_
      refine mn_iadd (z := nI (4 * a + b)) dMo_solve_330 (nI_add (4 * a) b) ?_
      refine mn_iload 4 dMo_solve_331 rfl ?_
      refine mn_aload_n 0 dMo_solve_333 rfl rfl ?_
      refine mn_get okMo 28 lMo_62 (by decide) hM rfl dMo_solve_334 ?_
      refine mn_iconst (v := 4) dMo_solve_337 (by decide) ?_
      refine mn_iload_n 3 dMo_solve_338 rfl rfl ?_
      refine mn_imul (z := nI (4 * a)) dMo_solve_339 (pk_mul 4 a) ?_
      refine mn_iload 5 dMo_solve_340 rfl ?_
      refine mn_iadd (z := nI (4 * a + b)) dMo_solve_342 (nI_add (4 * a) b) ?_
      refine mn_ialdN (j := 4 * a + b) hGr rfl (by omega) (by omega) dMo_solve_343 ?_
      refine mn_cS (d' := 0) (w' := 0) (As := [.int (nI f), .int (nI (gr (4 * a + b)))]) (stk' := [.int (nI (pdN f (gr (4 * a + b)))), .int (nI (4 * a + b)), .ref (mo + 16)]) okMo_times lMo_100 dMo_solve_344 rfl rfl (Nat.le_of_ble_eq_true rfl) (Nat.le_of_ble_eq_true rfl) (by decide) (c_M_times (a := f) (b := gr (4 * a + b)) (by omega) (hgb _)) rfl ?_
      refine mn_iastN (j := 4 * a + b) hGr rfl (by omega) (by omega) dMo_solve_347 ?_
      obtain ⟨g2, eg2⟩ : ∃ gg_, gg_ = mn_set g0 (mo + 16) (.inl (0, 12, .inl (upd (fun j => nI (gr j)) (4 * a + b) (nI (pdN f (gr (4 * a + b))))))) := ⟨_, rfl⟩
      refine mn_R.toG eg2 ?_
      have hM_g2 : mn_at g2 mo (.inr (11, [.int 0, .ref (mo + 1), .int (nI tl), .ref (mo + 2), .ref (mo + 3), .int (nI e), .int (nI sz), .int (nI rp), .int (nI st), .ref (mo + 4), .ref (mo + 5), .ref (mo + 6), .int ir, .int (nI m), .int (nI r), .int (nI wd), .int (nI ag), .ref (mo + 7), .ref (mo + 8), .ref (mo + 9), .ref (mo + 10), .int (nI td), .int (nI om), .ref (mo + 11), .ref (mo + 12), .ref (mo + 13), .ref (mo + 14), .ref (mo + 15), .ref (mo + 16)])) := by rw [eg2]; exact hM.off (by omega)
      have hGr_g2 : mn_at g2 (mo + 16) (.inl (0, 12, .inl (upd (fun j => nI (gr j)) (4 * a + b) (nI (pdN f (gr (4 * a + b))))))) := by rw [eg2]; exact hGr.same
      refine mn_iinc (v := nI (b + 1)) (ls' := [(0, .ref mo), (1, .int (nI k)), (2, .int x2), (3, .int (nI a)), (5, .int (nI f)), (6, .int (nI (b + 1)))]) 5 dMo_solve_348 rfl (nI_add b 1) (by decide) rfl ?_
      refine mn_goto 315 dMo_solve_351 (by decide) ?_
      rw [upd_nI] at hGr_g2
      have hat := scB_at hgq ha (show b < 4 by omega)
      refine mn_R.sub [0, 1, 2, 3, 4, 5] (ls' := [(0, .ref mo), (1, .int (nI k)), (2, .int x2), (3, .int (nI a)), (5, .int (nI f)), (6, .int (nI (b + 1)))]) rfl ?_
      exact ih (b + 1) g2 _ (by omega) (by omega) (hfr.set eg2 (by show (mo + 16) = mo + 16; omega)) (va_up_lt hgb (pd_lt hf (hgb _))) (scB_s hgq (by omega) (by rw [pd_comm hf (hgb _), hat])) hM_g2 hGr_g2
set_option maxRecDepth 100000 in
theorem c_M_so6 {E : mn_En} {g : mn_H} {mo tl e sz rp st m r wd ag td om : Nat} {ir : Int32} {k a : Nat} {x2 : Int32} {Q : Option Value → mn_H → Prop} {f c : Nat} {R : Nat → Nat → Nat} (ha : a < 3) (hc : c < 3) (hca : ¬ c = a) (hf : f < 256) (KK : ∀ (g1 : mn_H) (gr : Nat → Nat), mn_fr (fun q => q = mo + 16) g g1 → (∀ j, gr j < 256) → GrQ gr (adA R c a f) → mn_at g1 mo (.inr (11, [.int 0, .ref (mo + 1), .int (nI tl), .ref (mo + 2), .ref (mo + 3), .int (nI e), .int (nI sz), .int (nI rp), .int (nI st), .ref (mo + 4), .ref (mo + 5), .ref (mo + 6), .int ir, .int (nI m), .int (nI r), .int (nI wd), .int (nI ag), .ref (mo + 7), .ref (mo + 8), .ref (mo + 9), .ref (mo + 10), .int (nI td), .int (nI om), .ref (mo + 11), .ref (mo + 12), .ref (mo + 13), .ref (mo + 14), .ref (mo + 15), .ref (mo + 16)])) → mn_at g1 (mo + 16) (.inl (0, 12, .inl (fun j => nI (gr j)))) → mn_R E MMo_solve 2 46 0 0 438 [(0, .ref mo), (1, .int (nI k)), (2, .int x2), (3, .int (nI a)), (6, .int (nI c))] [] g1 Q) : ∀ (fu b : Nat) (g0 : mn_H) (gr : Nat → Nat), b ≤ 4 → 4 - b < fu → mn_fr (fun q => q = mo + 16) g g0 → (∀ j, gr j < 256) → GrQ gr (adB R c a f b) → mn_at g0 mo (.inr (11, [.int 0, .ref (mo + 1), .int (nI tl), .ref (mo + 2), .ref (mo + 3), .int (nI e), .int (nI sz), .int (nI rp), .int (nI st), .ref (mo + 4), .ref (mo + 5), .ref (mo + 6), .int ir, .int (nI m), .int (nI r), .int (nI wd), .int (nI ag), .ref (mo + 7), .ref (mo + 8), .ref (mo + 9), .ref (mo + 10), .int (nI td), .int (nI om), .ref (mo + 11), .ref (mo + 12), .ref (mo + 13), .ref (mo + 14), .ref (mo + 15), .ref (mo + 16)])) → mn_at g0 (mo + 16) (.inl (0, 12, .inl (fun j => nI (gr j)))) → mn_R E MMo_solve 2 46 0 0 379 [(0, .ref mo), (1, .int (nI k)), (2, .int x2), (3, .int (nI a)), (6, .int (nI c)), (7, .int (nI f)), (8, .int (nI b))] [] g0 (Q) := by
  intro fu
  induction fu with
  | zero => intro b g0 gr h1 h2; exact absurd h2 (by omega)
  | succ fu ih =>
    intro b g0 gr h1 h2 hfr hgb hgq hM hGr
    refine mn_iload 6 dMo_solve_379 rfl ?_
    refine mn_iconst (v := 4) dMo_solve_381 (by decide) ?_
    refine mn_icmp_ge 438 dMo_solve_382 (by decide) (fun c1 => ?_) (fun c1 => ?_)
    · have c1 := (nI_leI (a := 4) (b := b) (by omega) (by omega)).mp c1
      refine mn_R.sub [0, 1, 2, 3, 4] (ls' := [(0, .ref mo), (1, .int (nI k)), (2, .int x2), (3, .int (nI a)), (6, .int (nI c))]) rfl ?_
      obtain rfl : b = 4 := (by omega)
      exact KK g0 gr hfr hgb (adB_4 hgq) hM hGr
    · have c1 := _root_.mt (nI_leI (a := 4) (b := b) (by omega) (by omega)).mpr c1
      refine mn_iload 4 dMo_solve_385 rfl ?_
      refine mn_iload_n 3 dMo_solve_387 rfl rfl ?_
      refine mn_icmp_eq 438 dMo_solve_388 (by decide) (fun c2 => ?_) (fun c2 => ?_)
      · have c2 := (nI_eq (a := c) (b := a) (by omega) (by omega)).mp c2
        exact absurd c2 hca
      · have c2 := _root_.mt (nI_eq (a := c) (b := a) (by omega) (by omega)).mpr c2
        refine mn_aload_n 0 dMo_solve_391 rfl rfl ?_
        refine mn_get okMo 28 lMo_62 (by decide) hM rfl dMo_solve_392 ?_
        refine mn_iconst (v := 4) dMo_solve_395 (by decide) ?_
        refine mn_iload 4 dMo_solve_396 rfl ?_
        refine mn_imul (z := nI (4 * c)) dMo_solve_398 (pk_mul 4 c) ?_
        refine mn_iload 6 dMo_solve_399 rfl ?_
        refine mn_iadd (z := nI (4 * c + b)) dMo_solve_401 (nI_add (4 * c) b) ?_
        refine mn_aload_n 0 dMo_solve_402 rfl rfl ?_
        refine mn_get okMo 28 lMo_62 (by decide) hM rfl dMo_solve_403 ?_
        refine mn_iconst (v := 4) dMo_solve_406 (by decide) ?_
        refine mn_iload 4 dMo_solve_407 rfl ?_
        refine mn_imul (z := nI (4 * c)) dMo_solve_409 (pk_mul 4 c) ?_
        refine mn_iload 6 dMo_solve_410 rfl ?_
        refine mn_iadd (z := nI (4 * c + b)) dMo_solve_412 (nI_add (4 * c) b) ?_
        refine mn_ialdN (j := 4 * c + b) hGr rfl (by omega) (by omega) dMo_solve_413 ?_
        refine mn_iload 5 dMo_solve_414 rfl ?_
        refine mn_aload_n 0 dMo_solve_416 rfl rfl ?_
        refine mn_get okMo 28 lMo_62 (by decide) hM rfl dMo_solve_417 ?_
        refine mn_iconst (v := 4) dMo_solve_420 (by decide) ?_
        refine mn_iload_n 3 dMo_solve_421 rfl rfl ?_
        refine mn_imul (z := nI (4 * a)) dMo_solve_422 (pk_mul 4 a) ?_
        refine mn_iload 6 dMo_solve_423 rfl ?_
        refine mn_iadd (z := nI (4 * a + b)) dMo_solve_425 (nI_add (4 * a) b) ?_
        refine mn_ialdN (j := 4 * a + b) hGr rfl (by omega) (by omega) dMo_solve_426 ?_
        refine mn_cS (d' := 0) (w' := 0) (As := [.int (nI f), .int (nI (gr (4 * a + b)))]) (stk' := [.int (nI (pdN f (gr (4 * a + b)))), .int (nI (gr (4 * c + b))), .int (nI (4 * c + b)), .ref (mo + 16)]) okMo_times lMo_100 dMo_solve_427 rfl rfl (Nat.le_of_ble_eq_true rfl) (Nat.le_of_ble_eq_true rfl) (by decide) (c_M_times (a := f) (b := gr (4 * a + b)) (by omega) (hgb _)) rfl ?_
        refine mn_ixor (z := nI ((gr (4 * c + b)) ^^^ (pdN f (gr (4 * a + b))))) dMo_solve_430 (nx_xor (gr (4 * c + b)) (pdN f (gr (4 * a + b)))) ?_
        refine mn_iastN (j := 4 * c + b) hGr rfl (by omega) (by omega) dMo_solve_431 ?_
        obtain ⟨g3, eg3⟩ : ∃ gg_, gg_ = mn_set g0 (mo + 16) (.inl (0, 12, .inl (upd (fun j => nI (gr j)) (4 * c + b) (nI ((gr (4 * c + b)) ^^^ (pdN f (gr (4 * a + b)))))))) := ⟨_, rfl⟩
        refine mn_R.toG eg3 ?_
        have hM_g3 : mn_at g3 mo (.inr (11, [.int 0, .ref (mo + 1), .int (nI tl), .ref (mo + 2), .ref (mo + 3), .int (nI e), .int (nI sz), .int (nI rp), .int (nI st), .ref (mo + 4), .ref (mo + 5), .ref (mo + 6), .int ir, .int (nI m), .int (nI r), .int (nI wd), .int (nI ag), .ref (mo + 7), .ref (mo + 8), .ref (mo + 9), .ref (mo + 10), .int (nI td), .int (nI om), .ref (mo + 11), .ref (mo + 12), .ref (mo + 13), .ref (mo + 14), .ref (mo + 15), .ref (mo + 16)])) := by rw [eg3]; exact hM.off (by omega)
        have hGr_g3 : mn_at g3 (mo + 16) (.inl (0, 12, .inl (upd (fun j => nI (gr j)) (4 * c + b) (nI ((gr (4 * c + b)) ^^^ (pdN f (gr (4 * a + b)))))))) := by rw [eg3]; exact hGr.same
        refine mn_iinc (v := nI (b + 1)) (ls' := [(0, .ref mo), (1, .int (nI k)), (2, .int x2), (3, .int (nI a)), (6, .int (nI c)), (7, .int (nI f)), (8, .int (nI (b + 1)))]) 6 dMo_solve_432 rfl (nI_add b 1) (by decide) rfl ?_
        refine mn_goto 379 dMo_solve_435 (by decide) ?_
        rw [upd_nI] at hGr_g3
        have hao := adB_o hgq hc (show b < 4 by omega)
        have haq := adB_q hgq ha (show b < 4 by omega)
        refine mn_R.sub [0, 1, 2, 3, 4, 5, 6] (ls' := [(0, .ref mo), (1, .int (nI k)), (2, .int x2), (3, .int (nI a)), (6, .int (nI c)), (7, .int (nI f)), (8, .int (nI (b + 1)))]) rfl ?_
        exact ih (b + 1) g3 _ (by omega) (by omega) (hfr.set eg3 (by show (mo + 16) = mo + 16; omega)) (va_up_lt hgb (xor_lt8 (hgb _) (pd_lt hf (hgb _)))) (adB_s hgq (by omega) (by rw [pd_comm hf (hgb _), hao, haq])) hM_g3 hGr_g3
set_option maxRecDepth 100000 in
theorem c_M_so7 {E : mn_En} {g : mn_H} {mo tl e sz rp st m r wd ag td om : Nat} {ir : Int32} {k a : Nat} {x2 : Int32} {Q : Option Value → mn_H → Prop} {R : Nat → Nat → Nat} (ha : a < 3) (hk3 : k ≤ 3) (KK : ∀ (g1 : mn_H) (gr : Nat → Nat), mn_fr (fun q => q = mo + 16) g g1 → (∀ j, gr j < 256) → GrQ gr (elI R a k) → mn_at g1 mo (.inr (11, [.int 0, .ref (mo + 1), .int (nI tl), .ref (mo + 2), .ref (mo + 3), .int (nI e), .int (nI sz), .int (nI rp), .int (nI st), .ref (mo + 4), .ref (mo + 5), .ref (mo + 6), .int ir, .int (nI m), .int (nI r), .int (nI wd), .int (nI ag), .ref (mo + 7), .ref (mo + 8), .ref (mo + 9), .ref (mo + 10), .int (nI td), .int (nI om), .ref (mo + 11), .ref (mo + 12), .ref (mo + 13), .ref (mo + 14), .ref (mo + 15), .ref (mo + 16)])) → mn_at g1 (mo + 16) (.inl (0, 12, .inl (fun j => nI (gr j)))) → mn_R E MMo_solve 2 46 0 0 204 [(0, .ref mo), (1, .int (nI k)), (2, .int x2), (3, .int (nI (a + 1)))] [] g1 Q) : ∀ (fu c : Nat) (g0 : mn_H) (gr : Nat → Nat), c ≤ k → k - c < fu → mn_fr (fun q => q = mo + 16) g g0 → (∀ j, gr j < 256) → GrQ gr (elI R a c) → mn_at g0 mo (.inr (11, [.int 0, .ref (mo + 1), .int (nI tl), .ref (mo + 2), .ref (mo + 3), .int (nI e), .int (nI sz), .int (nI rp), .int (nI st), .ref (mo + 4), .ref (mo + 5), .ref (mo + 6), .int ir, .int (nI m), .int (nI r), .int (nI wd), .int (nI ag), .ref (mo + 7), .ref (mo + 8), .ref (mo + 9), .ref (mo + 10), .int (nI td), .int (nI om), .ref (mo + 11), .ref (mo + 12), .ref (mo + 13), .ref (mo + 14), .ref (mo + 15), .ref (mo + 16)])) → mn_at g0 (mo + 16) (.inl (0, 12, .inl (fun j => nI (gr j)))) → mn_R E MMo_solve 2 46 0 0 357 [(0, .ref mo), (1, .int (nI k)), (2, .int x2), (3, .int (nI a)), (6, .int (nI c))] [] g0 (Q) := by
  intro fu
  induction fu with
  | zero => intro c g0 gr h1 h2; exact absurd h2 (by omega)
  | succ fu ih =>
    intro c g0 gr h1 h2 hfr hgb hgq hM hGr
    refine mn_iload 4 dMo_solve_357 rfl ?_
    refine mn_iload_n 1 dMo_solve_359 rfl rfl ?_
    refine mn_icmp_ge 444 dMo_solve_360 (by decide) (fun c1 => ?_) (fun c1 => ?_)
    · have c1 := (nI_leI (a := k) (b := c) (by omega) (by omega)).mp c1
      refine mn_iinc (v := nI (a + 1)) (ls' := [(0, .ref mo), (1, .int (nI k)), (2, .int x2), (3, .int (nI (a + 1))), (6, .int (nI c))]) 3 dMo_solve_444 rfl (nI_add a 1) (by decide) rfl ?_
      refine mn_goto 204 dMo_solve_447 (by decide) ?_
      refine mn_R.sub [0, 1, 2, 3] (ls' := [(0, .ref mo), (1, .int (nI k)), (2, .int x2), (3, .int (nI (a + 1)))]) rfl ?_
      obtain rfl : c = k := (by omega)
      exact KK g0 gr hfr hgb hgq hM hGr
    · have c1 := _root_.mt (nI_leI (a := k) (b := c) (by omega) (by omega)).mpr c1
      refine mn_aload_n 0 dMo_solve_363 rfl rfl ?_
      refine mn_get okMo 28 lMo_62 (by decide) hM rfl dMo_solve_364 ?_
      refine mn_iconst (v := 4) dMo_solve_367 (by decide) ?_
      refine mn_iload 4 dMo_solve_368 rfl ?_
      refine mn_imul (z := nI (4 * c)) dMo_solve_370 (pk_mul 4 c) ?_
      refine mn_iload_n 3 dMo_solve_371 rfl rfl ?_
      refine mn_iadd (z := nI (4 * c + a)) dMo_solve_372 (nI_add (4 * c) a) ?_
      refine mn_ialdN (j := 4 * c + a) hGr rfl (by omega) (by omega) dMo_solve_373 ?_
      refine mn_istore (ls' := [(0, .ref mo), (1, .int (nI k)), (2, .int x2), (3, .int (nI a)), (6, .int (nI c)), (7, .int (nI (gr (4 * c + a))))]) dMo_solve_374 (by decide) rfl ?_
      refine mn_iconst (v := 0) dMo_solve_376 (by decide) ?_
      refine mn_istore (ls' := [(0, .ref mo), (1, .int (nI k)), (2, .int x2), (3, .int (nI a)), (6, .int (nI c)), (7, .int (nI (gr (4 * c + a)))), (8, .int 0)]) dMo_solve_377 (by decide) rfl ?_
      by_cases hca : c = a
      · have hel : elI R a (c + 1) = elI R a c := by rw [elI, if_pos hca]
        refine mn_iload 6 dMo_solve_379 rfl ?_
        refine mn_iconst (v := 4) dMo_solve_381 (by decide) ?_
        refine mn_icmp_ge 438 dMo_solve_382 (by decide) (fun c2 => ?_) (fun c2 => ?_)
        · exact absurd c2 (by decide)
        · refine mn_iload 4 dMo_solve_385 rfl ?_
          refine mn_iload_n 3 dMo_solve_387 rfl rfl ?_
          refine mn_icmp_eq 438 dMo_solve_388 (by decide) (fun c3 => ?_) (fun c3 => ?_)
          · have c3 := (nI_eq (a := c) (b := a) (by omega) (by omega)).mp c3
            refine mn_iinc (v := nI (c + 1)) (ls' := [(0, .ref mo), (1, .int (nI k)), (2, .int x2), (3, .int (nI a)), (6, .int (nI (c + 1))), (7, .int (nI (gr (4 * c + a)))), (8, .int 0)]) 4 dMo_solve_438 rfl (nI_add c 1) (by decide) rfl ?_
            refine mn_goto 357 dMo_solve_441 (by decide) ?_
            refine mn_R.sub [0, 1, 2, 3, 4] (ls' := [(0, .ref mo), (1, .int (nI k)), (2, .int x2), (3, .int (nI a)), (6, .int (nI (c + 1)))]) rfl ?_
            exact ih (c + 1) g0 gr (by omega) (by omega) hfr hgb (by rw [hel]; exact hgq) hM hGr
          · have c3 := _root_.mt (nI_eq (a := c) (b := a) (by omega) (by omega)).mpr c3
            exact absurd hca c3
      · have hel : elI R a (c + 1) = adA (elI R a c) c a (elI R a c c a) := by rw [elI, if_neg hca]
        have hfe := hgq c a (by omega) (by omega)
        refine c_M_so6 (R := elI R a c) ha (by omega) hca (hgb _) (fun g9 gr9 f9 hgb9 hgq9 hM9 hGr9 => ?_) 5 0 g0 gr (by omega) (by omega) mn_fr.rf hgb (by rw [adB_0]; exact hgq) hM hGr
        rw [hfe, ← hel] at hgq9
        refine mn_iinc (v := nI (c + 1)) (ls' := [(0, .ref mo), (1, .int (nI k)), (2, .int x2), (3, .int (nI a)), (6, .int (nI (c + 1)))]) 4 dMo_solve_438 rfl (nI_add c 1) (by decide) rfl ?_
        refine mn_goto 357 dMo_solve_441 (by decide) ?_
        refine mn_R.sub [0, 1, 2, 3, 4] (ls' := [(0, .ref mo), (1, .int (nI k)), (2, .int x2), (3, .int (nI a)), (6, .int (nI (c + 1)))]) rfl ?_
        exact ih (c + 1) g9 gr9 (by omega) (by omega) (hfr.tr f9) hgb9 hgq9 hM9 hGr9
set_option maxRecDepth 100000 in
theorem c_M_so8 {E : mn_En} {g : mn_H} {mo tl e sz rp st m r wd ag td om : Nat} {ir : Int32} {k : Nat} {x2 : Int32} {Q : Option Value → mn_H → Prop} {R : Nat → Nat → Nat} (hk3 : k ≤ 3) (hpiv : ∀ q, q < k → elO R k q q q ≠ 0) (KK : ∀ (g1 : mn_H) (gr : Nat → Nat), mn_fr (fun q => q = mo + 16) g g1 → (∀ j, gr j < 256) → GrQ gr (elO R k k) → mn_at g1 mo (.inr (11, [.int 0, .ref (mo + 1), .int (nI tl), .ref (mo + 2), .ref (mo + 3), .int (nI e), .int (nI sz), .int (nI rp), .int (nI st), .ref (mo + 4), .ref (mo + 5), .ref (mo + 6), .int ir, .int (nI m), .int (nI r), .int (nI wd), .int (nI ag), .ref (mo + 7), .ref (mo + 8), .ref (mo + 9), .ref (mo + 10), .int (nI td), .int (nI om), .ref (mo + 11), .ref (mo + 12), .ref (mo + 13), .ref (mo + 14), .ref (mo + 15), .ref (mo + 16)])) → mn_at g1 (mo + 16) (.inl (0, 12, .inl (fun j => nI (gr j)))) → mn_R E MMo_solve 2 46 0 0 452 [(0, .ref mo), (1, .int (nI k)), (2, .int x2), (3, .int 0)] [] g1 Q) : ∀ (fu a : Nat) (g0 : mn_H) (gr : Nat → Nat), a ≤ k → k - a < fu → mn_fr (fun q => q = mo + 16) g g0 → (∀ j, gr j < 256) → GrQ gr (elO R k a) → mn_at g0 mo (.inr (11, [.int 0, .ref (mo + 1), .int (nI tl), .ref (mo + 2), .ref (mo + 3), .int (nI e), .int (nI sz), .int (nI rp), .int (nI st), .ref (mo + 4), .ref (mo + 5), .ref (mo + 6), .int ir, .int (nI m), .int (nI r), .int (nI wd), .int (nI ag), .ref (mo + 7), .ref (mo + 8), .ref (mo + 9), .ref (mo + 10), .int (nI td), .int (nI om), .ref (mo + 11), .ref (mo + 12), .ref (mo + 13), .ref (mo + 14), .ref (mo + 15), .ref (mo + 16)])) → mn_at g0 (mo + 16) (.inl (0, 12, .inl (fun j => nI (gr j)))) → mn_R E MMo_solve 2 46 0 0 204 [(0, .ref mo), (1, .int (nI k)), (2, .int x2), (3, .int (nI a))] [] g0 (Q) := by
  intro fu
  induction fu with
  | zero => intro a g0 gr h1 h2; exact absurd h2 (by omega)
  | succ fu ih =>
    intro a g0 gr h1 h2 hfr hgb hgq hM hGr
    have hgaa := hgb (4 * a + a)
    refine mn_iload_n 3 dMo_solve_204 rfl rfl ?_
    refine mn_iload_n 1 dMo_solve_205 rfl rfl ?_
    refine mn_icmp_ge 450 dMo_solve_206 (by decide) (fun c1 => ?_) (fun c1 => ?_)
    · have c1 := (nI_leI (a := k) (b := a) (by omega) (by omega)).mp c1
      refine mn_iconst (v := 0) dMo_solve_450 (by decide) ?_
      refine mn_istore_n (ls' := [(0, .ref mo), (1, .int (nI k)), (2, .int x2), (3, .int 0)]) dMo_solve_451 rfl (by decide) rfl ?_
      refine mn_R.sub [0, 1, 2, 3] (ls' := [(0, .ref mo), (1, .int (nI k)), (2, .int x2), (3, .int 0)]) rfl ?_
      obtain rfl : a = k := (by omega)
      exact KK g0 gr hfr hgb hgq hM hGr
    · have c1 := _root_.mt (nI_leI (a := k) (b := a) (by omega) (by omega)).mpr c1
      refine mn_iload_n 3 dMo_solve_209 rfl rfl ?_
      refine mn_istore (ls' := [(0, .ref mo), (1, .int (nI k)), (2, .int x2), (3, .int (nI a)), (4, .int (nI a))]) dMo_solve_210 (by decide) rfl ?_
      refine mn_aload_n 0 dMo_solve_212 rfl rfl ?_
      refine mn_get okMo 28 lMo_62 (by decide) hM rfl dMo_solve_213 ?_
      refine mn_iconst (v := 4) dMo_solve_216 (by decide) ?_
      refine mn_iload 4 dMo_solve_217 rfl ?_
      refine mn_imul (z := nI (4 * a)) dMo_solve_219 (pk_mul 4 a) ?_
      refine mn_iload_n 3 dMo_solve_220 rfl rfl ?_
      refine mn_iadd (z := nI (4 * a + a)) dMo_solve_221 (nI_add (4 * a) a) ?_
      refine mn_ialdN (j := 4 * a + a) hGr rfl (by omega) (by omega) dMo_solve_222 ?_
      refine mn_if_ne 232 dMo_solve_223 (by decide) (fun c2 => ?_) (fun c2 => ?_)
      · have c2 := _root_.mt (nI_eq (a := (gr (4 * a + a))) (b := 0) (by omega) (by omega)).mpr c2
        refine mn_iconst (v := 0) dMo_solve_232 (by decide) ?_
        refine mn_istore (ls' := [(0, .ref mo), (1, .int (nI k)), (2, .int x2), (3, .int (nI a)), (4, .int (nI a)), (5, .int 0)]) dMo_solve_233 (by decide) rfl ?_
        refine c_M_so4 (by omega) (fun g1 f1 hM1 hGr1 => ?_) 5 0 g0 (by omega) (by omega) mn_fr.rf hM hGr
        refine mn_aload_n 0 dMo_solve_297 rfl rfl ?_
        refine mn_get okMo 28 lMo_62 (by decide) hM1 rfl dMo_solve_298 ?_
        refine mn_iconst (v := 4) dMo_solve_301 (by decide) ?_
        refine mn_iload_n 3 dMo_solve_302 rfl rfl ?_
        refine mn_imul (z := nI (4 * a)) dMo_solve_303 (pk_mul 4 a) ?_
        refine mn_iload_n 3 dMo_solve_304 rfl rfl ?_
        refine mn_iadd (z := nI (4 * a + a)) dMo_solve_305 (nI_add (4 * a) a) ?_
        refine mn_ialdN (j := 4 * a + a) hGr1 rfl (by omega) (by omega) dMo_solve_306 ?_
        refine mn_cS (d' := 1) (w' := 24) (As := [.int (nI (gr (4 * a + a)))]) (stk' := [.int (nI (ovK (gr (4 * a + a)) 254))]) okMo_over lMo_169 dMo_solve_307 rfl rfl (Nat.le_of_ble_eq_true rfl) (Nat.le_of_ble_eq_true rfl) (by decide) (c_M_over (a := gr (4 * a + a)) (hgb _)) rfl ?_
        refine mn_istore (ls' := [(0, .ref mo), (1, .int (nI k)), (2, .int x2), (3, .int (nI a)), (5, .int (nI (ovK (gr (4 * a + a)) 254)))]) dMo_solve_310 (by decide) rfl ?_
        refine mn_iconst (v := 0) dMo_solve_312 (by decide) ?_
        refine mn_istore (ls' := [(0, .ref mo), (1, .int (nI k)), (2, .int x2), (3, .int (nI a)), (5, .int (nI (ovK (gr (4 * a + a)) 254))), (6, .int 0)]) dMo_solve_313 (by decide) rfl ?_
        have hX := hgq a a (by omega) (by omega)
        have hone : ovK (gr (4 * a + a)) 254 = ivN (elO R k a a a) := by rw [← hX, iv_ov (hgb _) (by rw [hX]; exact hpiv a (by omega))]
        rw [hone]
        refine c_M_so5 (R := elO R k a) (by omega) (ivN_lt _) (fun g2 gr2 f2 hgb2 hgq2 hM2 hGr2 => ?_) 5 0 g1 gr (by omega) (by omega) mn_fr.rf hgb (by rw [scB_0]; exact hgq) hM1 hGr1
        refine mn_iconst (v := 0) dMo_solve_354 (by decide) ?_
        refine mn_istore (ls' := [(0, .ref mo), (1, .int (nI k)), (2, .int x2), (3, .int (nI a)), (6, .int 0)]) dMo_solve_355 (by decide) rfl ?_
        refine c_M_so7 (R := scA (elO R k a) a (ivN (elO R k a a a))) (by omega) hk3 (fun g3 gr3 f3 hgb3 hgq3 hM3 hGr3 => ?_) (k + 1) 0 g2 gr2 (by omega) (by omega) mn_fr.rf hgb2 hgq2 hM2 hGr2
        exact ih (a + 1) g3 gr3 (by omega) (by omega) (((hfr.tr f1).tr f2).tr f3) hgb3 hgq3 hM3 hGr3
      · have c2 := (nI_eq (a := (gr (4 * a + a))) (b := 0) (by omega) (by omega)).mp c2
        exact absurd ((hgq a a (by omega) (by omega)).symm.trans c2) (hpiv a (by omega))
