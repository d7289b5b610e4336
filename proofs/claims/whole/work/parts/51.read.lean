theorem pr_read {E : mn_En} {g : mn_H} (h : Cpl g) (x : Int32) : PRg E MVS_read MMo_read 7 159 4 97 [(1, .int x)] g := by
  obtain ⟨tl, e, sz, rp, st, m, r, wd, ag, td, om, dn, tb, sm, bg, pi, ss, sl, sb, hC⟩ := h
  have hC' := hC
  obtain ⟨G1, G2, G3, G4, G5, G6, G7, G8, G9, G10, G11, G12, o1, o2, o3, o4, o5, o6, o7, o8, o9, o10, o11, o12, o13, o14⟩ := hC'
  have hC'' := hC
  obtain ⟨hV, ⟨hta, htb⟩, ⟨cm, cw, ln, sn, bc, ⟨s1, s2, s3, s4, s5, s6⟩, s7, s8, s9, s10⟩, hRu, ⟨w0, c, ⟨hy, hy1, hy2⟩, hc⟩, hSl, hRd, hMTa, ⟨hSm, hBg⟩, ⟨hSo, hSs⟩, ⟨vl, hVl, hvl⟩, hM, -⟩ := hC''
  obtain ⟨rsz, rrp, pr, ma, rm, rw, td1, rpb, rln, rsn, pl, oA, oL, oW, pm, ml, mt, mg, tA, tL, tO, lk, bb, gr, ⟨⟨r1, r2, r3, r4, r5, r6⟩, ⟨er, en, eu, ev, hE⟩, p1, p2, p3, p4⟩, ⟨m7, m8, m9, m10, m11, m12, m13, m14, m15, m16⟩, ⟨b1, b2, b3, b4, b5, b6, b7, b8, b9, b10, b11, b12, b13⟩, hok⟩ := hRd
  have hss := hSl.2.2.2.2.2.1
  have hsb8 := hSl.2.2.2.2.2.2
  rcases i32_rng x 256 (by decide) with ⟨k, hk, rfl⟩ | hx
  case inr => exact PRq hC (c_VS_read_bad Lay_ok hV (hi5 hx (by decide))) (c_M_read_bad hM (hi5 hx (by decide)))
  case inl =>
  cases hf : fst' (fun j => sb j 2 = k ∧ stN (sb j) (ss j) = 1) 60 60 with
  | none =>
    have hno : ∀ s, s < 60 → ¬ (sbS sl s 2 = k ∧ stN (sbS sl s) (ss s) = 1) := fun s hs q => fst_none (Nat.le_refl 60) hf s (by omega) hs ((gd_ext o12 k hs).mp q)
    refine ⟨_, _, c_VS_read_none Lay_ok hV hSl r1 p1 hk hf, fun g1 hq1 => ?_⟩
    obtain ⟨f1, n1, n2⟩ := hq1
    have R1 : RdX g1 0 rsz rrp pr ma rm rw 0 rpb rln rsn pl oA oL oW := ⟨⟨n1, r2.fr f1 (fun h => by have h9 : (136 + 1) = 136 ∨ (136 + 1) = 148 := h; omega), r3.fr f1 (fun h => by have h9 : (136 + 1 + 3) = 136 ∨ (136 + 1 + 3) = 148 := h; omega), r4.fr f1 (fun h => by have h9 : (136 + 1 + 1) = 136 ∨ (136 + 1 + 1) = 148 := h; omega), r5.fr f1 (fun h => by have h9 : (136 + 1 + 2) = 136 ∨ (136 + 1 + 2) = 148 := h; omega), r6.fr f1 (fun h => by have h9 : (136 + 5) = 136 ∨ (136 + 5) = 148 := h; omega)⟩, ⟨er, en, eu, ev, hE.fr f1 (fun q a b h => by have h9 : q = 136 ∨ q = 148 := h; omega)⟩, n2, p2.fr f1 (fun h => by have h9 : (148 + 1) = 136 ∨ (148 + 1) = 148 := h; omega), p3.fr f1 (fun h => by have h9 : (148 + 2) = 136 ∨ (148 + 2) = 148 := h; omega), p4.fr f1 (fun h => by have h9 : (148 + 3) = 136 ∨ (148 + 3) = 148 := h; omega)⟩
    have N10 := G10.fr f1 (fun q a b h => by have h9 : q = 136 ∨ q = 148 := h; omega)
    have N12 := G12.fr f1 (fun q a b h => by have h9 : q = 136 ∨ q = 148 := h; omega)
    obtain ⟨N10a, N10b⟩ := N10
    refine ⟨⟨_, N12⟩, ?_⟩
    refine mn_R.post (c_M_read_none (m := 0) (r := 0) (wd := 0) N12 N10a N10b hk hss o13 o14 hno) (fun x g2 hq => ?_)
    obtain ⟨q0, f2, q1⟩ := hq
    refine ⟨q0, ?_⟩
    have f12 : mn_fr (fun q => (q = 136 ∨ q = 148) ∨ (q = 152)) g g2 := (f1.mo (fun q h => Or.inl h)).tr (f2.mo (fun q h => Or.inr h))
    exact ⟨tl, e, sz, rp, st, m, r, wd, ag, td, om, 0, tb, sm, bg, pi, ss, sl, sb, G1.fr f12 (fun q a b h => by have h9 : (q = 136 ∨ q = 148) ∨ (q = 152) := h; omega), G2.fr f12 (fun q a b h => by have h9 : (q = 136 ∨ q = 148) ∨ (q = 152) := h; omega), G3.fr f12 (fun q a b h => by have h9 : (q = 136 ∨ q = 148) ∨ (q = 152) := h; omega), G4.fr f12 (fun q a b h => by have h9 : (q = 136 ∨ q = 148) ∨ (q = 152) := h; omega), G5.fr f12 (fun q a b h => by have h9 : (q = 136 ∨ q = 148) ∨ (q = 152) := h; omega), G6.fr f12 (fun q a b h => by have h9 : (q = 136 ∨ q = 148) ∨ (q = 152) := h; omega), ⟨rsz, rrp, pr, ma, rm, rw, 0, rpb, rln, rsn, pl, oA, oL, oW, pm, ml, mt, mg, tA, tL, tO, lk, bb, gr, RdX.fr R1 f2 (fun q a b h => by have h9 : q = 152 := h; omega), RdM.fr ⟨m7, m8, m9, m10, m11, m12, m13, m14, m15, m16⟩ f12 (fun q a b h => by have h9 : (q = 136 ∨ q = 148) ∨ (q = 152) := h; omega), ⟨by omega, b2, b3, b4, b5, b6, b7, b8, b9, b10, b11, b12, b13⟩, Or.inl ⟨rfl, rfl⟩⟩, G8.fr f12 (fun q a b h => by have h9 : (q = 136 ∨ q = 148) ∨ (q = 152) := h; omega), G9.fr f12 (fun q a b h => by have h9 : (q = 136 ∨ q = 148) ∨ (q = 152) := h; omega), G10.fr f12 (fun q a b h => by have h9 : (q = 136 ∨ q = 148) ∨ (q = 152) := h; omega), G11.fr f12 (fun q a b h => by have h9 : (q = 136 ∨ q = 148) ∨ (q = 152) := h; omega), q1, o1, o2, o3, o4, o5, o6, o7, o8, o9, o10, o11, o12, o13, o14⟩
  | some f =>
    obtain ⟨-, hf60, hgd, hfs⟩ := fst_some (Nat.le_refl 60) hf
    have hgd' : sbS sl f 2 = k ∧ stN (sbS sl f) (ss f) = 1 := (gd_ext o12 k hf60).mpr hgd
    have hfs' : ∀ s, s < f → ¬ (sbS sl s 2 = k ∧ stN (sbS sl s) (ss s) = 1) := fun s hs q => hfs s (by omega) hs ((gd_ext o12 k (by omega)).mp q)
    have hhd := stN_hd hgd.2
    have h12 := hhd.1
    have h20 := o13 f
    have h80 := hss f
    obtain ⟨w, hw⟩ : ∃ w, ss f = w + 12 := ⟨ss f - 12, by omega⟩
    have em : sl (80 * f + 4) = sb f 4 := o12 f 4 hf60 (by omega)
    have er5 : sl (80 * f + 5) = sb f 5 := o12 f 5 hf60 (by omega)
    have hm : sb f 4 ≤ 60 := hhd.2.2.2.2.2.1
    have hm1 : 1 ≤ sb f 4 := hhd.2.2.2.2.1
    have hr3 : sb f 5 ≤ 3 := hhd.2.2.2.2.2.2.1
    have hw12 : w + 12 - 12 = w := by omega
    have hmw : sb f 4 * w ≤ 4080 := Nat.le_trans (Nat.mul_le_mul hm (show w ≤ 68 by omega)) (by decide)
    have hP : ∀ j, j < sb f 4 + sb f 5 → (plK ss sb k f 60) j = (plD ss (sbS sl) k f (nnP pm (sb f 4 + sb f 5)) 60) j := fun j hj => by rw [plD_eq (by omega) (by unfold nnP; rw [if_pos hj]), plK_ext o12 hf60 (by omega) 60 (Nat.le_refl _)]
    have hqb : ∀ n q, n < 63 → (plK ss sb k f 60) n = some q → q < 60 ∧ ss q = w + 12 := fun n q hn hq => by have z := plK_lt hn hq; exact ⟨z.1, z.2.1.2.1.trans hw⟩
    have hsb : ∀ n q, n < sb f 4 → (plK ss sb k f 60) n = some q → ∀ j, j < w + 12 → sl (80 * q + j) = sb q j := fun n q hn hq j hj => by have z := hqb n q (by omega) hq; exact o12 q j z.1 (by rw [z.2]; exact hj)
    obtain ⟨ms, hms⟩ : ∃ ms, ms = cnt (fun j => (plK ss sb k f 60) j = none) (sb f 4) := ⟨_, rfl⟩
    have hmsC : cnt (fun j => (plK ss sb k f 60) j ≠ none) (sb f 4) + ms = sb f 4 := by have q := cnt_neg (fun j => (plK ss sb k f 60) j = none) (sb f 4); show cnt (fun j => ¬ (plK ss sb k f 60) j = none) (sb f 4) + ms = _; omega
    have hmsM : cnt (fun j => (plD ss (sbS sl) k f (nnP pm (sb f 4 + sb f 5)) 60) j = none) (sb f 4) = ms := by rw [hms]; exact cnt_ext (fun i hi => by show (plD ss (sbS sl) k f (nnP pm (sb f 4 + sb f 5)) 60) i = none ↔ (plK ss sb k f 60) i = none; rw [hP i (by omega)])
    have hcr : cnt (fun j => ¬ onI ((plK ss sb k f 60) (sb f 4 + j)) = -2) (sb f 5) = cnt (fun i => (plD ss (sbS sl) k f (nnP pm (sb f 4 + sb f 5)) 60) (sb f 4 + i) ≠ none) (sb f 5) := cnt_ext (fun i hi => by show ¬ onI ((plK ss sb k f 60) (sb f 4 + i)) = -2 ↔ ¬ (plD ss (sbS sl) k f (nnP pm (sb f 4 + sb f 5)) 60) (sb f 4 + i) = none; rw [onI_e (fun q hq => by have z := hqb _ q (by omega) hq; omega), hP _ (by omega)])
    have hcv : cnt (fun j => (plD ss (sbS sl) k f (nnP pm (sb f 4 + sb f 5)) 60) j ≠ none) (sb f 4) = cnt (fun j => (plK ss sb k f 60) j ≠ none) (sb f 4) := cnt_ext (fun i hi => by show ¬ (plD ss (sbS sl) k f (nnP pm (sb f 4 + sb f 5)) 60) i = none ↔ ¬ (plK ss sb k f 60) i = none; rw [hP i (by omega)])
    have hPMb : ∀ j q, (plD ss (sbS sl) k f (nnP pm (sb f 4 + sb f 5)) 60) j = some q → q < 1000 := fun j q h => plD_ok (nnP_ok b7 _) 60 j q (Nat.le_refl _) h
    have hgBz : ∀ j, 4080 ≤ j → gB (sb f 4) w (plK ss sb k f 60) sb j = 0 := fun j hj => by unfold gB; rw [if_neg (by omega)]
    have hgLz : ∀ j, 60 ≤ j → gL (sb f 4) (plK ss sb k f 60) sb j = 0 := fun j hj => by unfold gL; rw [if_neg (by omega)]
    have hgSz : ∀ j, 60 ≤ j → gS (sb f 4) (plK ss sb k f 60) sb j = 0 := fun j hj => by unfold gS; rw [if_neg (by omega)]
    have hcl := cnt_le (fun j => ¬ onI ((plK ss sb k f 60) (sb f 4 + j)) = -2) (sb f 5)
    by_cases hA : ms = 0
    · have hX := c_VS_read_no (E := E) Lay_ok hV hSl hE r1 r2 r3 r4 r5 r6 p1 p2 p3 p4 (m := sb f 4) (rp := sb f 5) (w := w) (f := f) (ms := ms) hk hf60 rfl rfl hw hm hm1 hr3 (by omega) (by omega) hmw b2 b3 b4 b5 hf hmsC (Or.inl hA)
      refine ⟨_, _, hX, fun g1 hq1 => ?_⟩
      obtain ⟨f1, ⟨n1, n2, n3, n4, n5, n6⟩, nE, t9, A9, L9, W9, n7, n8, n9, n10, n11, n12, n13⟩ := hq1
      have N10 := G10.fr f1 (fun q a b h => by have h9 : 136 ≤ q ∧ q < 148 + 4 := h; omega)
      have N12 := G12.fr f1 (fun q a b h => by have h9 : 136 ≤ q ∧ q < 148 + 4 := h; omega)
      obtain ⟨N10a, N10b⟩ := N10
      obtain ⟨z7, z8, z9, z10, z11, z12, z13, z14, z15, z16⟩ := RdM.fr ⟨m7, m8, m9, m10, m11, m12, m13, m14, m15, m16⟩ f1 (fun q a b h => by have h9 : 136 ≤ q ∧ q < 148 + 4 := h; omega)
      refine ⟨⟨_, N12⟩, ?_⟩
      refine mn_R.post (c_M_read_0 (E := E) N12 N10a N10b z7 z8 z9 z10 z11 z12 z13 z14 z15 z16 (f := f) hk hss o13 o14 hf60 hgd' hfs' em er5 hw b7 b8 b9 b10 b11 b12 b13 (hmsM.trans hA)) (fun x g2 hq => ?_)
      obtain ⟨q0, f2, ml4, mt4, mg4, c1, c2, c3, hcp, lk9, bb9, A8, L8, W8, t8, u0, u7, u8, u9, u10, u11, u12, u13, u14, u15, u16, v1, v2, v3, v4, v5⟩ := hq
      rw [hw12] at hcp v4 v5
      have f12 : mn_fr (fun q => (136 ≤ q ∧ q < 148 + 4) ∨ (q = 152 ∨ (152 + 7 ≤ q ∧ q ≤ 152 + 16))) g g2 := (f1.mo (fun q h => Or.inl h)).tr (f2.mo (fun q h => Or.inr h))
      have hE0 := rdc_no (fun n hn => hP n (by omega)) hcp hsb (by omega)
      obtain ⟨hD1, hD2⟩ := Tld_det (by omega) hE0.1 (RdE_s hE0) (RdE_b (by omega) hE0) n11 n12 n13 v3 v4 v5
      subst hD1
      rw [hcv] at q0
      refine ⟨q0, ?_⟩
      have XRD : XRd g2 1 (sb f 4) (sb f 5) (w + 12) 0 t9 (smW W8 t9) := ⟨w + 12, sb f 5, _, 0, sb f 4, w, t9, (gB (sb f 4) w (plK ss sb k f 60) sb), (gL (sb f 4) (plK ss sb k f 60) sb), (gS (sb f 4) (plK ss sb k f 60) sb), (plK ss sb k f 60), A9, L9, W9, (plD ss (sbS sl) k f (nnP pm (sb f 4 + sb f 5)) 60), ml4, mt4, mg4, A8, L8, W8, lk9, bb9, gr, RdX.fr ⟨⟨n1, n2, n3, n4, n5, n6⟩, nE, n7, n8, n9, n10⟩ f2 (fun q a b h => by have h9 : q = 152 ∨ (152 + 7 ≤ q ∧ q ≤ 152 + 16) := h; omega), ⟨u7, u8, u9, u10, u11, u12, u13, u14, u15, u16⟩, ⟨n11, hgBz, hgLz, hgSz, fun j hj => plK_hi hj, gL_lt hsb8, hPMb, c1, c2, c3, b11, v1, v2⟩, Or.inr ⟨rfl, rfl, rfl, rfl, (by omega), rfl, rfl, smW_ext t9 (fun j hj => (hD2 j hj).2.2.symm), hm1, hm, hr3, (by omega), (by omega), (by rw [hw12]; exact hmw), (fun n hn => hP n hn), hE0.1, (fun q hq => RdE_b (by omega) hE0 q (by rw [hw12] at hq; exact hq)), n11, hD2⟩⟩
      exact ⟨tl, e, sz, rp, st, (sb f 4), (sb f 5), (w + 12), 0, t9, (smW W8 t9), 1, tb, sm, bg, pi, ss, sl, sb, G1.fr f12 (fun q a b h => by have h9 : (136 ≤ q ∧ q < 148 + 4) ∨ (q = 152 ∨ (152 + 7 ≤ q ∧ q ≤ 152 + 16)) := h; omega), G2.fr f12 (fun q a b h => by have h9 : (136 ≤ q ∧ q < 148 + 4) ∨ (q = 152 ∨ (152 + 7 ≤ q ∧ q ≤ 152 + 16)) := h; omega), G3.fr f12 (fun q a b h => by have h9 : (136 ≤ q ∧ q < 148 + 4) ∨ (q = 152 ∨ (152 + 7 ≤ q ∧ q ≤ 152 + 16)) := h; omega), G4.fr f12 (fun q a b h => by have h9 : (136 ≤ q ∧ q < 148 + 4) ∨ (q = 152 ∨ (152 + 7 ≤ q ∧ q ≤ 152 + 16)) := h; omega), G5.fr f12 (fun q a b h => by have h9 : (136 ≤ q ∧ q < 148 + 4) ∨ (q = 152 ∨ (152 + 7 ≤ q ∧ q ≤ 152 + 16)) := h; omega), G6.fr f12 (fun q a b h => by have h9 : (136 ≤ q ∧ q < 148 + 4) ∨ (q = 152 ∨ (152 + 7 ≤ q ∧ q ≤ 152 + 16)) := h; omega), XRD, G8.fr f12 (fun q a b h => by have h9 : (136 ≤ q ∧ q < 148 + 4) ∨ (q = 152 ∨ (152 + 7 ≤ q ∧ q ≤ 152 + 16)) := h; omega), G9.fr f12 (fun q a b h => by have h9 : (136 ≤ q ∧ q < 148 + 4) ∨ (q = 152 ∨ (152 + 7 ≤ q ∧ q ≤ 152 + 16)) := h; omega), G10.fr f12 (fun q a b h => by have h9 : (136 ≤ q ∧ q < 148 + 4) ∨ (q = 152 ∨ (152 + 7 ≤ q ∧ q ≤ 152 + 16)) := h; omega), G11.fr f12 (fun q a b h => by have h9 : (136 ≤ q ∧ q < 148 + 4) ∨ (q = 152 ∨ (152 + 7 ≤ q ∧ q ≤ 152 + 16)) := h; omega), u0, o1, o2, o3, o4, o5, o6, o7, o8, o9, o10, o11, o12, o13, o14⟩
    by_cases hA2 : cnt (fun i => (plD ss (sbS sl) k f (nnP pm (sb f 4 + sb f 5)) 60) (sb f 4 + i) ≠ none) (sb f 5) < ms
    · have hA := hA2
      have hX := c_VS_read_no (E := E) Lay_ok hV hSl hE r1 r2 r3 r4 r5 r6 p1 p2 p3 p4 (m := sb f 4) (rp := sb f 5) (w := w) (f := f) (ms := ms) hk hf60 rfl rfl hw hm hm1 hr3 (by omega) (by omega) hmw b2 b3 b4 b5 hf hmsC (Or.inr (by rw [hcr]; exact hA))
      refine ⟨_, _, hX, fun g1 hq1 => ?_⟩
      obtain ⟨f1, ⟨n1, n2, n3, n4, n5, n6⟩, nE, t9, A9, L9, W9, n7, n8, n9, n10, n11, n12, n13⟩ := hq1
      have N10 := G10.fr f1 (fun q a b h => by have h9 : 136 ≤ q ∧ q < 148 + 4 := h; omega)
      have N12 := G12.fr f1 (fun q a b h => by have h9 : 136 ≤ q ∧ q < 148 + 4 := h; omega)
      obtain ⟨N10a, N10b⟩ := N10
      obtain ⟨z7, z8, z9, z10, z11, z12, z13, z14, z15, z16⟩ := RdM.fr ⟨m7, m8, m9, m10, m11, m12, m13, m14, m15, m16⟩ f1 (fun q a b h => by have h9 : 136 ≤ q ∧ q < 148 + 4 := h; omega)
      refine ⟨⟨_, N12⟩, ?_⟩
      refine mn_R.post (c_M_read_no (E := E) N12 N10a N10b z7 z8 z9 z10 z11 z12 z13 z14 z15 z16 (f := f) hk hss o13 o14 hf60 hgd' hfs' em er5 hw b7 b8 b9 b10 b11 b12 b13 hmsM hA) (fun x g2 hq => ?_)
      obtain ⟨q0, f2, ml4, mt4, mg4, c1, c2, c3, hcp, lk9, bb9, A8, L8, W8, t8, u0, u7, u8, u9, u10, u11, u12, u13, u14, u15, u16, v1, v2, v3, v4, v5⟩ := hq
      rw [hw12] at hcp v4 v5
      have f12 : mn_fr (fun q => (136 ≤ q ∧ q < 148 + 4) ∨ (q = 152 ∨ (152 + 7 ≤ q ∧ q ≤ 152 + 16))) g g2 := (f1.mo (fun q h => Or.inl h)).tr (f2.mo (fun q h => Or.inr h))
      have hE0 := rdc_no (fun n hn => hP n (by omega)) hcp hsb (by omega)
      obtain ⟨hD1, hD2⟩ := Tld_det (by omega) hE0.1 (RdE_s hE0) (RdE_b (by omega) hE0) n11 n12 n13 v3 v4 v5
      subst hD1
      rw [hcv] at q0
      refine ⟨q0, ?_⟩
      have XRD : XRd g2 1 (sb f 4) (sb f 5) (w + 12) 0 t9 (smW W8 t9) := ⟨w + 12, sb f 5, _, 0, sb f 4, w, t9, (gB (sb f 4) w (plK ss sb k f 60) sb), (gL (sb f 4) (plK ss sb k f 60) sb), (gS (sb f 4) (plK ss sb k f 60) sb), (plK ss sb k f 60), A9, L9, W9, (plD ss (sbS sl) k f (nnP pm (sb f 4 + sb f 5)) 60), ml4, mt4, mg4, A8, L8, W8, lk9, bb9, gr, RdX.fr ⟨⟨n1, n2, n3, n4, n5, n6⟩, nE, n7, n8, n9, n10⟩ f2 (fun q a b h => by have h9 : q = 152 ∨ (152 + 7 ≤ q ∧ q ≤ 152 + 16) := h; omega), ⟨u7, u8, u9, u10, u11, u12, u13, u14, u15, u16⟩, ⟨n11, hgBz, hgLz, hgSz, fun j hj => plK_hi hj, gL_lt hsb8, hPMb, c1, c2, c3, b11, v1, v2⟩, Or.inr ⟨rfl, rfl, rfl, rfl, (by omega), rfl, rfl, smW_ext t9 (fun j hj => (hD2 j hj).2.2.symm), hm1, hm, hr3, (by omega), (by omega), (by rw [hw12]; exact hmw), (fun n hn => hP n hn), hE0.1, (fun q hq => RdE_b (by omega) hE0 q (by rw [hw12] at hq; exact hq)), n11, hD2⟩⟩
      exact ⟨tl, e, sz, rp, st, (sb f 4), (sb f 5), (w + 12), 0, t9, (smW W8 t9), 1, tb, sm, bg, pi, ss, sl, sb, G1.fr f12 (fun q a b h => by have h9 : (136 ≤ q ∧ q < 148 + 4) ∨ (q = 152 ∨ (152 + 7 ≤ q ∧ q ≤ 152 + 16)) := h; omega), G2.fr f12 (fun q a b h => by have h9 : (136 ≤ q ∧ q < 148 + 4) ∨ (q = 152 ∨ (152 + 7 ≤ q ∧ q ≤ 152 + 16)) := h; omega), G3.fr f12 (fun q a b h => by have h9 : (136 ≤ q ∧ q < 148 + 4) ∨ (q = 152 ∨ (152 + 7 ≤ q ∧ q ≤ 152 + 16)) := h; omega), G4.fr f12 (fun q a b h => by have h9 : (136 ≤ q ∧ q < 148 + 4) ∨ (q = 152 ∨ (152 + 7 ≤ q ∧ q ≤ 152 + 16)) := h; omega), G5.fr f12 (fun q a b h => by have h9 : (136 ≤ q ∧ q < 148 + 4) ∨ (q = 152 ∨ (152 + 7 ≤ q ∧ q ≤ 152 + 16)) := h; omega), G6.fr f12 (fun q a b h => by have h9 : (136 ≤ q ∧ q < 148 + 4) ∨ (q = 152 ∨ (152 + 7 ≤ q ∧ q ≤ 152 + 16)) := h; omega), XRD, G8.fr f12 (fun q a b h => by have h9 : (136 ≤ q ∧ q < 148 + 4) ∨ (q = 152 ∨ (152 + 7 ≤ q ∧ q ≤ 152 + 16)) := h; omega), G9.fr f12 (fun q a b h => by have h9 : (136 ≤ q ∧ q < 148 + 4) ∨ (q = 152 ∨ (152 + 7 ≤ q ∧ q ≤ 152 + 16)) := h; omega), G10.fr f12 (fun q a b h => by have h9 : (136 ≤ q ∧ q < 148 + 4) ∨ (q = 152 ∨ (152 + 7 ≤ q ∧ q ≤ 152 + 16)) := h; omega), G11.fr f12 (fun q a b h => by have h9 : (136 ≤ q ∧ q < 148 + 4) ∨ (q = 152 ∨ (152 + 7 ≤ q ∧ q ≤ 152 + 16)) := h; omega), u0, o1, o2, o3, o4, o5, o6, o7, o8, o9, o10, o11, o12, o13, o14⟩
    rw [hcr] at hcl
    have hX := c_VS_read_yes (E := E) Lay_ok hV hSl hE r1 r2 r3 r4 r5 r6 p1 p2 p3 p4 (m := sb f 4) (rp := sb f 5) (w := w) (f := f) (ms := ms) hk hf60 rfl rfl hw hm hm1 hr3 (by omega) (by omega) hmw b2 b3 b4 b5 hf hmsC (by omega) (by rw [hcr]; omega) (tuB_l8 (gB_lt hsb8) (fun u i => elO_l8 (rkS_l8 hE.2.2.2.2.1 hsb8 (gB_lt hsb8) (gL_lt hsb8) (gS_lt hsb8) _) _ _ _ _) _) (tuA_l8 (gL_lt hsb8) (fun u => elO_l8 (rkS_l8 hE.2.2.2.2.1 hsb8 (gB_lt hsb8) (gL_lt hsb8) (gS_lt hsb8) _) _ _ _ _) _) (tuA_l8 (gS_lt hsb8) (fun u => elO_l8 (rkS_l8 hE.2.2.2.2.1 hsb8 (gB_lt hsb8) (gL_lt hsb8) (gS_lt hsb8) _) _ _ _ _) _)
    refine ⟨_, _, hX, fun g1 hq1 => ?_⟩
    obtain ⟨f1, ⟨n1, n2, n3, n4, n5, n6⟩, nE, t9, A9, L9, W9, n7, n8, n9, n10, n11, n12, n13⟩ := hq1
    have N10 := G10.fr f1 (fun q a b h => by have h9 : 136 ≤ q ∧ q < 148 + 4 := h; omega)
    have N12 := G12.fr f1 (fun q a b h => by have h9 : 136 ≤ q ∧ q < 148 + 4 := h; omega)
    obtain ⟨N10a, N10b⟩ := N10
    obtain ⟨z7, z8, z9, z10, z11, z12, z13, z14, z15, z16⟩ := RdM.fr ⟨m7, m8, m9, m10, m11, m12, m13, m14, m15, m16⟩ f1 (fun q a b h => by have h9 : 136 ≤ q ∧ q < 148 + 4 := h; omega)
    refine ⟨⟨_, N12⟩, ?_⟩
    refine mn_R.post (c_M_read_y (E := E) N12 N10a N10b z7 z8 z9 z10 z11 z12 z13 z14 z15 z16 (f := f) hk hss o13 o14 hf60 hgd' hfs' em er5 hw b7 b8 b9 b10 b11 b12 b13 hmsM (by omega) (by omega)) (fun x g2 hq => ?_)
    obtain ⟨q0, f2, ml4, mt4, mg4, c1, c2, c3, hcp, LK, BB, ml9, mt9, mg9, gr9, A8, L8, W8, t8, eLK, eBB, u0, u7, u8, u9, u10, u11, u12, u13, u14, u15, u16, d1, d2, d3, d4, ⟨a1, a2, a3, a4, a5, a6⟩, v3, v4, v5⟩ := hq
    rw [hw12] at hcp v4 v5 a5 a6
    have f12 : mn_fr (fun q => (136 ≤ q ∧ q < 148 + 4) ∨ (q = 152 ∨ (152 + 7 ≤ q ∧ q ≤ 152 + 16))) g g2 := (f1.mo (fun q h => Or.inl h)).tr (f2.mo (fun q h => Or.inr h))
    have hE0 := rdc_no (fun n hn => hP n (by omega)) hcp hsb (by omega)
    have hms3 : ms ≤ 3 := by omega
    have ecn : cnt (fun j => (plD ss (sbS sl) k f (nnP pm (sb f 4 + sb f 5)) 60) j = none) (sb f 4) = cnt (fun j => (plK ss sb k f 60) j = none) (sb f 4) := by rw [hmsM, hms]
    have hLK : ∀ u, u < ms → LK u = (unK en (plK ss sb k f 60) (sb f 4)) u := fun u hu => by rw [eLK, ← unK_cg (sb f 4) (fun j hj => hP j (by omega))]; exact un_ext _ u (by rw [← hms]; exact hu)
    have hBB : (byS (plK ss sb k f 60) (sb f 4) ms bb (sb f 5)).1 = BB := by rw [eBB, byS_cg (sb f 5) (fun j hj => hP (sb f 4 + j) (by omega))]
    have hby := by_all (pl := (plK ss sb k f 60)) (m := sb f 4) (ms := ms) (bb := bb) (sb f 5)
    have hcy : cnt (fun i => (plK ss sb k f 60) (sb f 4 + i) ≠ none) (sb f 5) = cnt (fun i => (plD ss (sbS sl) k f (nnP pm (sb f 4 + sb f 5)) 60) (sb f 4 + i) ≠ none) (sb f 5) := cnt_ext (fun i hi => by show ¬ (plK ss sb k f 60) (sb f 4 + i) = none ↔ ¬ (plD ss (sbS sl) k f (nnP pm (sb f 4 + sb f 5)) 60) (sb f 4 + i) = none; rw [hP _ (by omega)])
    have hb2 : (byS (plK ss sb k f 60) (sb f 4) ms bb (sb f 5)).2 = ms := by rw [hby.1, hcy]; omega
    have hlt : ∀ u, u < ms → LK u < sb f 4 ∧ (plD ss (sbS sl) k f (nnP pm (sb f 4 + sb f 5)) 60) (LK u) = none := fun u hu => by rw [eLK]; exact un_lt (sb f 4) u (by rw [hmsM]; exact hu)
    have hmo : ∀ u v, u < v → v < ms → LK u < LK v := fun u v h1 h2 => by rw [eLK]; exact un_mono (sb f 4) u v h1 (by rw [hmsM]; exact h2)
    have hon : ∀ n, n < sb f 4 → (plD ss (sbS sl) k f (nnP pm (sb f 4 + sb f 5)) 60) n = none → ∃ u, u < ms ∧ LK u = n := fun n hn hq => by rw [eLK, ← hmsM]; exact un_on (sb f 4) n hn hq
    obtain ⟨XX, hXX⟩ : ∃ XX : Nat → Nat → Nat, XX = (fun u i => elO (rkS (plK ss sb k f 60) sb (unK en (plK ss sb k f 60) (sb f 4)) ms ms (gB (sb f 4) w (plK ss sb k f 60) sb) (gL (sb f 4) (plK ss sb k f 60) sb) (gS (sb f 4) (plK ss sb k f 60) sb) w (sb f 4) (w + 12) er (sb f 5)).1 ms ms u (3 + i)) := ⟨_, rfl⟩
    have hXe : ∀ (i : Nat) (C F : Nat → Nat), 6 ≤ i → i < w + 12 → (∀ a q, a < ms → (plK ss sb k f 60) (sb f 4 + BB a) = some q → C a = sb q i) → (∀ n, n < sb f 4 → F n = ptN (gB (sb f 4) w (plK ss sb k f 60) sb) (gL (sb f 4) (plK ss sb k f 60) sb) (gS (sb f 4) (plK ss sb k f 60) sb) w n i) → ∀ u, u < ms → XM BB LK C F (sb f 4) ms u = XX u i := fun i C F h6 hi h1 h2 u hu => by
      rw [hXX, ← hBB]
      exact (X_eq hms3 hb2 hLK (fun n => ptN_lt (gB_lt hsb8) (gL_lt hsb8) (gS_lt hsb8) w n i) (fun a q ha hq => h1 a q ha (by rw [← hBB]; exact hq)) h2 h6 hi (by omega) u hu).symm
    have hgt : ∀ a q, a < ms → (plK ss sb k f 60) (sb f 4 + BB a) = some q → ((plD ss (sbS sl) k f (nnP pm (sb f 4 + sb f 5)) 60) (sb f 4 + BB a)).getD 0 = q ∧ q < 60 ∧ ss q = w + 12 := fun a q ha hq => by
      have z := hby.2.1 a (by omega)
      rw [hBB] at z
      rw [← hP _ (by omega), hq]
      exact ⟨rfl, hqb _ q (by omega) hq⟩
    have x1 : ∀ u, u < ms → ml9 (LK u) = XX u 6 := fun u hu => (a1 u hu).trans (hXe 6 _ _ (by omega) (by omega) (fun a q ha hq => by have z := hgt a q ha hq; show sl (80 * ((plD ss (sbS sl) k f (nnP pm (sb f 4 + sb f 5)) 60) (sb f 4 + BB a)).getD 0 + 6) = sb q 6; rw [z.1]; exact o12 q 6 z.2.1 (by rw [z.2.2]; omega)) (fun n hn => (hE0.1 n hn).symm) u hu)
    have x3 : ∀ u, u < ms → mt9 (LK u) = XX u 7 := fun u hu => (a3 u hu).trans (hXe 7 _ _ (by omega) (by omega) (fun a q ha hq => by have z := hgt a q ha hq; show sl (80 * ((plD ss (sbS sl) k f (nnP pm (sb f 4 + sb f 5)) 60) (sb f 4 + BB a)).getD 0 + 7) = sb q 7; rw [z.1]; exact o12 q 7 z.2.1 (by rw [z.2.2]; omega)) (fun n hn => (hE0.2.1 n hn).symm) u hu)
    have x5 : ∀ u, u < ms → ∀ i, i < w → mg9 (LK u * w + i) = XX u (12 + i) := fun u hu i hi => (a5 u hu i hi).trans (hXe (12 + i) _ _ (by omega) (by omega) (fun a q ha hq => by have z := hgt a q ha hq; show sl (80 * ((plD ss (sbS sl) k f (nnP pm (sb f 4 + sb f 5)) 60) (sb f 4 + BB a)).getD 0 + 12 + i) = sb q (12 + i); rw [z.1, Nat.add_assoc]; exact o12 q (12 + i) z.2.1 (by rw [z.2.2]; omega)) (fun n hn => by unfold ptN; rw [if_neg (by omega), if_neg (by omega), if_neg (by omega), show n * w + (12 + i) - 12 = n * w + i by omega]; exact (hE0.2.2 n i hn hi).symm) u hu)
    have hE1 := rdc_yes (X := XX) hE0 (fun n hn => hP n (by omega)) hLK hon (fun u hu => (hlt u hu).2) hmo x1 a2 x3 a4 x5 a6
    have hv2 : cnt (fun j => tuP (plD ss (sbS sl) k f (nnP pm (sb f 4 + sb f 5)) 60) (unK lk (plD ss (sbS sl) k f (nnP pm (sb f 4 + sb f 5)) 60) (sb f 4)) ms j ≠ none) (sb f 4) = sb f 4 := cnt_all _ (fun i hi => by
      show tuP (plD ss (sbS sl) k f (nnP pm (sb f 4 + sb f 5)) 60) (unK lk (plD ss (sbS sl) k f (nnP pm (sb f 4 + sb f 5)) 60) (sb f 4)) ms i ≠ none
      rw [← eLK]
      by_cases c9 : (plD ss (sbS sl) k f (nnP pm (sb f 4 + sb f 5)) 60) i = none
      · obtain ⟨u, hu, rfl⟩ := hon i hi c9
        rw [tuP_hit hu]; exact fun z => by cases z
      · rw [tuP_out (fun u hu z => c9 (by rw [z]; exact (hlt u hu).2))]; exact c9)
    have hnu : ∀ u, u < ms → (unK en (plK ss sb k f 60) (sb f 4)) u < sb f 4 := fun u hu => by rw [← hLK u hu]; exact (hlt u hu).1
    rw [← hXX] at n3
    have n4 : mn_at g1 (136 + 1 + 1) (.inl (0, 60, .inl (fun j => nI ((tuA (gL (sb f 4) (plK ss sb k f 60) sb) (unK en (plK ss sb k f 60) (sb f 4)) (fun v => XX v 6) ms) j)))) := by rw [hXX]; exact n4
    have n5 : mn_at g1 (136 + 1 + 2) (.inl (0, 60, .inl (fun j => nI ((tuA (gS (sb f 4) (plK ss sb k f 60) sb) (unK en (plK ss sb k f 60) (sb f 4)) (fun v => XX v 7) ms) j)))) := by rw [hXX]; exact n5
    have n12 : Tld (tuB (gB (sb f 4) w (plK ss sb k f 60) sb) (unK en (plK ss sb k f 60) (sb f 4)) w XX ms) (tuA (gL (sb f 4) (plK ss sb k f 60) sb) (unK en (plK ss sb k f 60) (sb f 4)) (fun v => XX v 6) ms) (tuA (gS (sb f 4) (plK ss sb k f 60) sb) (unK en (plK ss sb k f 60) (sb f 4)) (fun v => XX v 7) ms) (sb f 4) w t9 A9 L9 W9 := by rw [hXX]; exact n12
    have n13 : t9 = 40 ∨ tsq (tuB (gB (sb f 4) w (plK ss sb k f 60) sb) (unK en (plK ss sb k f 60) (sb f 4)) w XX ms) (tuA (gL (sb f 4) (plK ss sb k f 60) sb) (unK en (plK ss sb k f 60) (sb f 4)) (fun v => XX v 6) ms) (tuA (gS (sb f 4) (plK ss sb k f 60) sb) (unK en (plK ss sb k f 60) (sb f 4)) (fun v => XX v 7) ms) (sb f 4) w t9 = none := by rw [hXX]; exact n13
    have hXl : ∀ u i, XX u i < 256 := by rw [hXX]; exact fun u i => elO_l8 (rkS_l8 hE.2.2.2.2.1 hsb8 (gB_lt hsb8) (gL_lt hsb8) (gS_lt hsb8) _) _ _ _ _
    obtain ⟨hD1, hD2⟩ := Tld_det (by omega) hE1.1 (RdE_s hE1) (RdE_b (by omega) hE1) n11 n12 n13 v3 v4 v5
    subst hD1
    refine ⟨by rw [q0, hv2]; show _ = some (Value.int (nI (_ + (0 + ms)))); rw [show cnt (fun j => (plK ss sb k f 60) j ≠ none) (sb f 4) + (0 + ms) = sb f 4 by omega], ?_⟩
    have XRD : XRd g2 1 (sb f 4) (sb f 5) (w + 12) ms t9 (smW W8 t9) := ⟨w + 12, sb f 5, _, (0 + ms), sb f 4, w, t9, (tuB (gB (sb f 4) w (plK ss sb k f 60) sb) (unK en (plK ss sb k f 60) (sb f 4)) w XX ms), (tuA (gL (sb f 4) (plK ss sb k f 60) sb) (unK en (plK ss sb k f 60) (sb f 4)) (fun v => XX v 6) ms), (tuA (gS (sb f 4) (plK ss sb k f 60) sb) (unK en (plK ss sb k f 60) (sb f 4)) (fun v => XX v 7) ms), (tuP (plK ss sb k f 60) (unK en (plK ss sb k f 60) (sb f 4)) ms), A9, L9, W9, (tuP (plD ss (sbS sl) k f (nnP pm (sb f 4 + sb f 5)) 60) LK ms), ml9, mt9, mg9, A8, L8, W8, LK, BB, gr9, RdX.fr ⟨⟨n1, n2, n3, n4, n5, n6⟩, nE, n7, n8, n9, n10⟩ f2 (fun q a b h => by have h9 : q = 152 ∨ (152 + 7 ≤ q ∧ q ≤ 152 + 16) := h; omega), ⟨u7, u8, u9, u10, u11, u12, u13, u14, u15, u16⟩, ⟨n11, (fun j hj => by rw [tuB_out (fun u hu z => by have z9 := Nat.mul_le_mul_right w (show (unK en (plK ss sb k f 60) (sb f 4)) u + 1 ≤ sb f 4 from hnu u hu); rw [Nat.succ_mul] at z9; omega)]; exact hgBz j hj), (fun j hj => by rw [tuA_out (fun u hu z => by have z9 := hnu u hu; omega)]; exact hgLz j hj), (fun j hj => by rw [tuA_out (fun u hu z => by have z9 := hnu u hu; omega)]; exact hgSz j hj), (fun j hj => by rw [tuP_out (fun u hu z => by have z9 := hnu u hu; omega)]; exact plK_hi hj), tuA_l8 (gL_lt hsb8) (fun u => hXl u 6) ms, tuP_ok hPMb ms, d1, d2, d3, d4, (by rw [eLK]; exact unK_lt60 b12 _ hm), (by rw [eBB]; exact byS_lt b13 _ hr3)⟩, Or.inr ⟨rfl, rfl, rfl, rfl, (by omega), (by omega), rfl, smW_ext t9 (fun j hj => (hD2 j hj).2.2.symm), hm1, hm, hr3, (by omega), (by omega), (by rw [hw12]; exact hmw), (fun n hn => tuP_ext (hP n hn) hLK), hE1.1, (fun q hq => RdE_b (by omega) hE1 q (by rw [hw12] at hq; exact hq)), n11, hD2⟩⟩
    exact ⟨tl, e, sz, rp, st, (sb f 4), (sb f 5), (w + 12), ms, t9, (smW W8 t9), 1, tb, sm, bg, pi, ss, sl, sb, G1.fr f12 (fun q a b h => by have h9 : (136 ≤ q ∧ q < 148 + 4) ∨ (q = 152 ∨ (152 + 7 ≤ q ∧ q ≤ 152 + 16)) := h; omega), G2.fr f12 (fun q a b h => by have h9 : (136 ≤ q ∧ q < 148 + 4) ∨ (q = 152 ∨ (152 + 7 ≤ q ∧ q ≤ 152 + 16)) := h; omega), G3.fr f12 (fun q a b h => by have h9 : (136 ≤ q ∧ q < 148 + 4) ∨ (q = 152 ∨ (152 + 7 ≤ q ∧ q ≤ 152 + 16)) := h; omega), G4.fr f12 (fun q a b h => by have h9 : (136 ≤ q ∧ q < 148 + 4) ∨ (q = 152 ∨ (152 + 7 ≤ q ∧ q ≤ 152 + 16)) := h; omega), G5.fr f12 (fun q a b h => by have h9 : (136 ≤ q ∧ q < 148 + 4) ∨ (q = 152 ∨ (152 + 7 ≤ q ∧ q ≤ 152 + 16)) := h; omega), G6.fr f12 (fun q a b h => by have h9 : (136 ≤ q ∧ q < 148 + 4) ∨ (q = 152 ∨ (152 + 7 ≤ q ∧ q ≤ 152 + 16)) := h; omega), XRD, G8.fr f12 (fun q a b h => by have h9 : (136 ≤ q ∧ q < 148 + 4) ∨ (q = 152 ∨ (152 + 7 ≤ q ∧ q ≤ 152 + 16)) := h; omega), G9.fr f12 (fun q a b h => by have h9 : (136 ≤ q ∧ q < 148 + 4) ∨ (q = 152 ∨ (152 + 7 ≤ q ∧ q ≤ 152 + 16)) := h; omega), G10.fr f12 (fun q a b h => by have h9 : (136 ≤ q ∧ q < 148 + 4) ∨ (q = 152 ∨ (152 + 7 ≤ q ∧ q ≤ 152 + 16)) := h; omega), G11.fr f12 (fun q a b h => by have h9 : (136 ≤ q ∧ q < 148 + 4) ∨ (q = 152 ∨ (152 + 7 ≤ q ∧ q ≤ 152 + 16)) := h; omega), u0, o1, o2, o3, o4, o5, o6, o7, o8, o9, o10, o11, o12, o13, o14⟩
