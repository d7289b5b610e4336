theorem fdL_lt {tb F : Nat → Nat} {tl : Nat} (h : ∀ j, tb j < 256) (hF : ∀ k, F k < 256) (i : Nat) : ∀ j, fdL tb tl F i j < 256 := by
  intro j
  unfold fdL
  split
  · exact hF _
  · exact h j
theorem apL_zb (sm tb : Nat → Nat) (len tl S : Nat) : apL (zb sm len) len tl S tb tl = zb (apL sm len tl S tb tl) (len + 3 + tl) := by
  funext j
  unfold apL zb
  dsimp only
  by_cases h1 : j < len
  · rw [if_pos h1, if_pos h1, if_pos (by omega), if_pos h1]
  · rw [if_neg h1, if_neg h1]
    by_cases h2 : j < len + 3 + tl
    · rw [if_pos h2, if_pos h2, if_neg h1, if_pos h2]
    · rw [if_neg h2, if_neg h2, if_neg (by omega), if_neg (by omega), if_neg (by omega)]
theorem apL_lt {sm tb : Nat → Nat} {len tl S i : Nat} (h1 : ∀ j, sm j < 256) (h2 : ∀ j, tb j < 256) (h3 : tl < 256) (h4 : S < 65536) : ∀ j, apL sm len tl S tb i j < 256 := by
  intro j
  have a := h1 j
  have b := h2 (j - (len + 3))
  unfold apL
  repeat' split
  all_goals omega
theorem blN_zb (sm : Nat → Nat) {len : Nat} (h : len ≤ 1260) : blN (zb sm len) 1340 = zb sm 0 := by
  funext j
  unfold blN zb
  by_cases h1 : j < 1340
  · rw [if_pos h1, if_neg (by omega)]
  · rw [if_neg h1, if_neg (by omega), if_neg (by omega)]
theorem lt20 {x : Int32} {N : Int32} (h : x < 0) (hN : (0 : Int32) < N) : x < N := Int32.lt_trans h hN
theorem pr_feed {E : mn_En} {g : mn_H} (h : Cpl g) (a1 : Int32) (a2 : Int32) (a3 : Int32) (a4 : Int32) (a5 : Int32) : PRg E MVS_feed MMo_feed 2 44 0 0 [(1, .int a1), (2, .int a2), (3, .int a3), (4, .int a4), (5, .int a5)] g := by
  obtain ⟨tl, e, sz, rp, st, m, r, wd, ag, td, om, dn, tb, sm, bg, pi, ss, sl, sb, hC⟩ := h
  have hC' := hC
  obtain ⟨G1, G2, G3, G4, G5, G6, G7, G8, G9, G10, G11, G12, o1, o2, o3, o4, o5, o6, o7, o8, o9, o10, o11, o12, o13, o14⟩ := hC'
  have hC'' := hC
  obtain ⟨hV, ⟨hta, htb⟩, ⟨cm, cw, ln, sn, bc, ⟨s1, s2, s3, s4, s5, s6⟩, s7, s8, s9, s10⟩, hRu, ⟨w0, c, ⟨hy, hy1, hy2⟩, hc⟩, hSl, hRd, hMTa, ⟨hSm, hBg⟩, ⟨hSo, hSs⟩, ⟨vl, hVl, hvl⟩, hM, -⟩ := hC''
  by_cases hl : 40 < tl
  · exact PRq hC (c_VS_feed_full Lay_ok hV hta htb hl o1) (c_M_feed_full hM hMTa hl o1)
  · refine ⟨_, _, c_VS_feed Lay_ok hV hta htb (by omega), fun g1 hq1 => ?_⟩
    obtain ⟨f1, n1, n2⟩ := hq1
    rw [feed_eq] at n2
    have N8 := G8.fr f1 (fun q a b h => by have h9 : q = 2 ∨ q = 2 + 1 := h; omega)
    have N12 := G12.fr f1 (fun q a b h => by have h9 : q = 2 ∨ q = 2 + 1 := h; omega)
    refine ⟨⟨_, N12⟩, ?_⟩
    refine mn_R.post (c_M_feed N12 N8 (by omega)) (fun x g2 hq => ?_)
    obtain ⟨q0, f2, q1, q2⟩ := hq
    refine ⟨q0, ?_⟩
    have f12 : mn_fr (fun q => (q = 2 ∨ q = 2 + 1) ∨ (q = 152 ∨ q = 152 + 1)) g g2 := (f1.mo (fun q h => Or.inl h)).tr (f2.mo (fun q h => Or.inr h))
    exact ⟨(tl + 20), e, sz, rp, st, m, r, wd, ag, td, om, dn, (fdL tb tl (fB a1 a2 a3 a4 a5) 20), sm, bg, pi, ss, sl, sb, G1.fr f12 (fun q a b h => by have h9 : (q = 2 ∨ q = 2 + 1) ∨ (q = 152 ∨ q = 152 + 1) := h; omega), gTa.fr ⟨n1, n2⟩ f2 (fun q a b h => by have h9 : q = 152 ∨ q = 152 + 1 := h; omega), G3.fr f12 (fun q a b h => by have h9 : (q = 2 ∨ q = 2 + 1) ∨ (q = 152 ∨ q = 152 + 1) := h; omega), G4.fr f12 (fun q a b h => by have h9 : (q = 2 ∨ q = 2 + 1) ∨ (q = 152 ∨ q = 152 + 1) := h; omega), G5.fr f12 (fun q a b h => by have h9 : (q = 2 ∨ q = 2 + 1) ∨ (q = 152 ∨ q = 152 + 1) := h; omega), G6.fr f12 (fun q a b h => by have h9 : (q = 2 ∨ q = 2 + 1) ∨ (q = 152 ∨ q = 152 + 1) := h; omega), G7.fr f12 (fun q a h => by have h9 : (q = 2 ∨ q = 2 + 1) ∨ (q = 152 ∨ q = 152 + 1) := h; omega), q2, G9.fr f12 (fun q a b h => by have h9 : (q = 2 ∨ q = 2 + 1) ∨ (q = 152 ∨ q = 152 + 1) := h; omega), G10.fr f12 (fun q a b h => by have h9 : (q = 2 ∨ q = 2 + 1) ∨ (q = 152 ∨ q = 152 + 1) := h; omega), G11.fr f12 (fun q a b h => by have h9 : (q = 2 ∨ q = 2 + 1) ∨ (q = 152 ∨ q = 152 + 1) := h; omega), q1, (by omega), fdL_lt o2 (fun k => bN_lt _ _) 20, o3, o4, o5, o6, o7, o8, o9, o10, o11, o12, o13, o14⟩
theorem pr_end {E : mn_En} {g : mn_H} (h : Cpl g) (x : Int32) : PRg E MVS_end MMo_end 0 0 1 22 [(1, .int x)] g := by
  obtain ⟨tl, e, sz, rp, st, m, r, wd, ag, td, om, dn, tb, sm, bg, pi, ss, sl, sb, hC⟩ := h
  have hC' := hC
  obtain ⟨G1, G2, G3, G4, G5, G6, G7, G8, G9, G10, G11, G12, o1, o2, o3, o4, o5, o6, o7, o8, o9, o10, o11, o12, o13, o14⟩ := hC'
  have hC'' := hC
  obtain ⟨hV, ⟨hta, htb⟩, ⟨cm, cw, ln, sn, bc, ⟨s1, s2, s3, s4, s5, s6⟩, s7, s8, s9, s10⟩, hRu, ⟨w0, c, ⟨hy, hy1, hy2⟩, hc⟩, hSl, hRd, hMTa, ⟨hSm, hBg⟩, ⟨hSo, hSs⟩, ⟨vl, hVl, hvl⟩, hM, -⟩ := hC''
  rcases i32_rng x 21 (by decide) with ⟨k, hk, rfl⟩ | hx
  · by_cases hl : tl < 20
    · exact PRq hC (c_VS_end_bad Lay_ok hV hta htb o1 (Or.inr (Or.inr hl))) (c_M_end_bad2 hM (by omega) hl)
    · refine ⟨_, _, c_VS_end Lay_ok hV hta htb o1 (show k ≤ 20 by omega) (by omega), fun g1 hq1 => ?_⟩
      obtain ⟨f1, n1⟩ := hq1
      replace n1 := n1
      have N12 := G12.fr f1 (fun q a b h => by have h9 : q = 2 := h; omega)
      refine ⟨⟨_, N12⟩, ?_⟩
      refine mn_R.post (c_M_end N12 (show k ≤ 20 by omega) (by omega) o1) (fun x g2 hq => ?_)
      obtain ⟨q0, f2, q1⟩ := hq
      refine ⟨q0, ?_⟩
      have f12 : mn_fr (fun q => (q = 2) ∨ (q = 152)) g g2 := (f1.mo (fun q h => Or.inl h)).tr (f2.mo (fun q h => Or.inr h))
      exact ⟨(tl - 20 + k), e, sz, rp, st, m, r, wd, ag, td, om, dn, tb, sm, bg, pi, ss, sl, sb, G1.fr f12 (fun q a b h => by have h9 : (q = 2) ∨ (q = 152) := h; omega), gTa.fr ⟨n1, htb.fr f1 (fun h => by have h9 : (2 + 1) = 2 := h; omega)⟩ f2 (fun q a b h => by have h9 : q = 152 := h; omega), G3.fr f12 (fun q a b h => by have h9 : (q = 2) ∨ (q = 152) := h; omega), G4.fr f12 (fun q a b h => by have h9 : (q = 2) ∨ (q = 152) := h; omega), G5.fr f12 (fun q a b h => by have h9 : (q = 2) ∨ (q = 152) := h; omega), G6.fr f12 (fun q a b h => by have h9 : (q = 2) ∨ (q = 152) := h; omega), G7.fr f12 (fun q a h => by have h9 : (q = 2) ∨ (q = 152) := h; omega), G8.fr f12 (fun q a b h => by have h9 : (q = 2) ∨ (q = 152) := h; omega), G9.fr f12 (fun q a b h => by have h9 : (q = 2) ∨ (q = 152) := h; omega), G10.fr f12 (fun q a b h => by have h9 : (q = 2) ∨ (q = 152) := h; omega), G11.fr f12 (fun q a b h => by have h9 : (q = 2) ∨ (q = 152) := h; omega), q1, (by omega), o2, o3, o4, o5, o6, o7, o8, o9, o10, o11, o12, o13, o14⟩
  · exact PRq hC (c_VS_end_bad Lay_ok hV hta htb o1 ((hi5 (N := 20) hx (by decide)).elim Or.inl (fun q => Or.inr (Or.inl q)))) (c_M_end_bad1 hM (hi5 hx (by decide)))
theorem pr_entry {E : mn_En} {g : mn_H} (h : Cpl g) : PRg E MVS_entry MMo_entry 4 88 2 45 [] g := by
  obtain ⟨tl, e, sz, rp, st, m, r, wd, ag, td, om, dn, tb, sm, bg, pi, ss, sl, sb, hC⟩ := h
  have hC' := hC
  obtain ⟨G1, G2, G3, G4, G5, G6, G7, G8, G9, G10, G11, G12, o1, o2, o3, o4, o5, o6, o7, o8, o9, o10, o11, o12, o13, o14⟩ := hC'
  have hC'' := hC
  obtain ⟨hV, ⟨hta, htb⟩, ⟨cm, cw, ln, sn, bc, ⟨s1, s2, s3, s4, s5, s6⟩, s7, s8, s9, s10⟩, hRu, ⟨w0, c, ⟨hy, hy1, hy2⟩, hc⟩, hSl, hRd, hMTa, ⟨hSm, hBg⟩, ⟨hSo, hSs⟩, ⟨vl, hVl, hvl⟩, hM, -⟩ := hC''
  by_cases he : e = 20
  · exact PRq hC (c_VS_entry_full Lay_ok hV s1 s2 s3 s4 s5 s6 he) (c_M_entry_full hM he)
  · refine ⟨_, _, c_VS_entry Lay_ok hV s1 s2 s3 s4 s5 s6 hta htb (by omega) (by omega) o1, fun g1 hq1 => ?_⟩
    obtain ⟨f1, n1, n2, n3, n4⟩ := hq1
    have eb : (va_up bg (e + 1) (bg e + 3 + tl)) (e + 1) = bg e + 3 + tl := va_up_s _ _ _
    have hbc : ∀ k, k < e + 1 → va_up bc e (bg e) k = (va_up bg (e + 1) (bg e + 3 + tl)) k := fun k hk => by rw [va_up_n bg _ (show k ≠ e + 1 by omega)]; by_cases q : k = e; rw [q, va_up_s]; rw [va_up_n _ _ q]; exact s9 k (by omega)
    rw [apL_zb, ← eb] at n3
    rw [← eb] at n2
    have N8 := G8.fr f1 (fun q a b h => by have h9 : q = 2 ∨ q = 4 ∨ q = 4 + 1 + 3 ∨ q = 4 + 5 := h; omega)
    have N9 := G9.fr f1 (fun q a b h => by have h9 : q = 2 ∨ q = 4 ∨ q = 4 + 1 + 3 ∨ q = 4 + 5 := h; omega)
    have N12 := G12.fr f1 (fun q a b h => by have h9 : q = 2 ∨ q = 4 ∨ q = 4 + 1 + 3 ∨ q = 4 + 5 := h; omega)
    obtain ⟨N9a, N9b⟩ := N9
    refine ⟨⟨_, N12⟩, ?_⟩
    refine mn_R.post (c_M_entry N12 N8 N9a N9b (by omega) (by omega) o1) (fun x g2 hq => ?_)
    obtain ⟨q0, f2, q1, q2, q3⟩ := hq
    refine ⟨q0, ?_⟩
    have f12 : mn_fr (fun q => (q = 2 ∨ q = 4 ∨ q = 4 + 1 + 3 ∨ q = 4 + 5) ∨ (q = 152 ∨ q = 152 + 2 ∨ q = 152 + 3)) g g2 := (f1.mo (fun q h => Or.inl h)).tr (f2.mo (fun q h => Or.inr h))
    exact ⟨0, (e + 1), sz, rp, st, m, r, wd, ag, td, om, dn, tb, (apL sm (bg e) tl (suN tb 0 tl) tb tl), (va_up bg (e + 1) (bg e + 3 + tl)), pi, ss, sl, sb, G1.fr f12 (fun q a b h => by have h9 : (q = 2 ∨ q = 4 ∨ q = 4 + 1 + 3 ∨ q = 4 + 5) ∨ (q = 152 ∨ q = 152 + 2 ∨ q = 152 + 3) := h; omega), gTa.fr ⟨n1, htb.fr f1 (fun h => by have h9 : (2 + 1) = 2 ∨ (2 + 1) = 4 ∨ (2 + 1) = 4 + 1 + 3 ∨ (2 + 1) = 4 + 5 := h; omega)⟩ f2 (fun q a b h => by have h9 : q = 152 ∨ q = 152 + 2 ∨ q = 152 + 3 := h; omega), XSt.fr ⟨cm, cw, ln, sn, va_up bc e (bg e), ⟨n2, s2.fr f1 (fun h => by have h9 : (4 + 1) = 2 ∨ (4 + 1) = 4 ∨ (4 + 1) = 4 + 1 + 3 ∨ (4 + 1) = 4 + 5 := h; omega), n3, s4.fr f1 (fun h => by have h9 : (4 + 1 + 1) = 2 ∨ (4 + 1 + 1) = 4 ∨ (4 + 1 + 1) = 4 + 1 + 3 ∨ (4 + 1 + 1) = 4 + 5 := h; omega), s5.fr f1 (fun h => by have h9 : (4 + 1 + 2) = 2 ∨ (4 + 1 + 2) = 4 ∨ (4 + 1 + 2) = 4 + 1 + 3 ∨ (4 + 1 + 2) = 4 + 5 := h; omega), n4⟩, s7, s8, hbc, fun k => by unfold va_up; split; omega; exact s10 k⟩ f2 (fun q a b h => by have h9 : q = 152 ∨ q = 152 + 2 ∨ q = 152 + 3 := h; omega), G4.fr f12 (fun q a b h => by have h9 : (q = 2 ∨ q = 4 ∨ q = 4 + 1 + 3 ∨ q = 4 + 5) ∨ (q = 152 ∨ q = 152 + 2 ∨ q = 152 + 3) := h; omega), G5.fr f12 (fun q a b h => by have h9 : (q = 2 ∨ q = 4 ∨ q = 4 + 1 + 3 ∨ q = 4 + 5) ∨ (q = 152 ∨ q = 152 + 2 ∨ q = 152 + 3) := h; omega), G6.fr f12 (fun q a b h => by have h9 : (q = 2 ∨ q = 4 ∨ q = 4 + 1 + 3 ∨ q = 4 + 5) ∨ (q = 152 ∨ q = 152 + 2 ∨ q = 152 + 3) := h; omega), G7.fr f12 (fun q a h => by have h9 : (q = 2 ∨ q = 4 ∨ q = 4 + 1 + 3 ∨ q = 4 + 5) ∨ (q = 152 ∨ q = 152 + 2 ∨ q = 152 + 3) := h; omega), G8.fr f12 (fun q a b h => by have h9 : (q = 2 ∨ q = 4 ∨ q = 4 + 1 + 3 ∨ q = 4 + 5) ∨ (q = 152 ∨ q = 152 + 2 ∨ q = 152 + 3) := h; omega), ⟨q2, q3⟩, G10.fr f12 (fun q a b h => by have h9 : (q = 2 ∨ q = 4 ∨ q = 4 + 1 + 3 ∨ q = 4 + 5) ∨ (q = 152 ∨ q = 152 + 2 ∨ q = 152 + 3) := h; omega), G11.fr f12 (fun q a b h => by have h9 : (q = 2 ∨ q = 4 ∨ q = 4 + 1 + 3 ∨ q = 4 + 5) ∨ (q = 152 ∨ q = 152 + 2 ∨ q = 152 + 3) := h; omega), q1, (by omega), o2, (by omega), (by rw [eb]; omega), (fun k hk => by rw [eb, va_up_n _ _ (show k ≠ e + 1 by omega)]; by_cases q : k = e; rw [q]; omega; have := o5 k (by omega); omega), apL_lt o6 o2 (by omega) (suN_lt _ _ _), (by rw [va_up_n _ _ (show 0 ≠ e + 1 by omega)]; exact o7), o8, o9, o10, o11, o12, o13, o14⟩
theorem pr_clear {E : mn_En} {g : mn_H} (h : Cpl g) : PRg E MVS_clear MMo_clear 3 63 0 0 [] g := by
  obtain ⟨tl, e, sz, rp, st, m, r, wd, ag, td, om, dn, tb, sm, bg, pi, ss, sl, sb, hC⟩ := h
  have hC' := hC
  obtain ⟨G1, G2, G3, G4, G5, G6, G7, G8, G9, G10, G11, G12, o1, o2, o3, o4, o5, o6, o7, o8, o9, o10, o11, o12, o13, o14⟩ := hC'
  have hC'' := hC
  obtain ⟨hV, ⟨hta, htb⟩, ⟨cm, cw, ln, sn, bc, ⟨s1, s2, s3, s4, s5, s6⟩, s7, s8, s9, s10⟩, hRu, ⟨w0, c, ⟨hy, hy1, hy2⟩, hc⟩, hSl, hRd, hMTa, ⟨hSm, hBg⟩, ⟨hSo, hSs⟩, ⟨vl, hVl, hvl⟩, hM, -⟩ := hC''
  refine ⟨_, _, c_VS_clear Lay_ok hV s1 s2 s3 s4 s5 s6, fun g1 hq1 => ?_⟩
  obtain ⟨f1, n1, n2, n3, n4⟩ := hq1
  rw [blN_zb sm (by omega)] at n2
  have N12 := G12.fr f1 (fun q a b h => by have h9 : q = 4 ∨ q = 4 + 1 + 1 ∨ q = 4 + 1 + 2 ∨ q = 4 + 1 + 3 := h; omega)
  refine ⟨⟨_, N12⟩, ?_⟩
  refine mn_R.post (c_M_clear N12) (fun x g2 hq => ?_)
  obtain ⟨q0, f2, q1⟩ := hq
  refine ⟨q0, ?_⟩
  have f12 : mn_fr (fun q => (q = 4 ∨ q = 4 + 1 + 1 ∨ q = 4 + 1 + 2 ∨ q = 4 + 1 + 3) ∨ (q = 152)) g g2 := (f1.mo (fun q h => Or.inl h)).tr (f2.mo (fun q h => Or.inr h))
  exact ⟨tl, 0, sz, rp, st, m, r, wd, ag, td, om, dn, tb, sm, bg, pi, ss, sl, sb, G1.fr f12 (fun q a b h => by have h9 : (q = 4 ∨ q = 4 + 1 + 1 ∨ q = 4 + 1 + 2 ∨ q = 4 + 1 + 3) ∨ (q = 152) := h; omega), G2.fr f12 (fun q a b h => by have h9 : (q = 4 ∨ q = 4 + 1 + 1 ∨ q = 4 + 1 + 2 ∨ q = 4 + 1 + 3) ∨ (q = 152) := h; omega), XSt.fr ⟨cm, cw, blN ln 60, blN sn 60, bc, ⟨(by rw [o7]; exact n1), s2.fr f1 (fun h => by have h9 : (4 + 1) = 4 ∨ (4 + 1) = 4 + 1 + 1 ∨ (4 + 1) = 4 + 1 + 2 ∨ (4 + 1) = 4 + 1 + 3 := h; omega), (by rw [o7]; exact n2), n3, n4, s6.fr f1 (fun h => by have h9 : (4 + 5) = 4 ∨ (4 + 5) = 4 + 1 + 1 ∨ (4 + 5) = 4 + 1 + 2 ∨ (4 + 5) = 4 + 1 + 3 := h; omega)⟩, blN_lt s7 60, blN_lt s8 60, fun k hk => absurd hk (by omega), s10⟩ f2 (fun q a b h => by have h9 : q = 152 := h; omega), G4.fr f12 (fun q a b h => by have h9 : (q = 4 ∨ q = 4 + 1 + 1 ∨ q = 4 + 1 + 2 ∨ q = 4 + 1 + 3) ∨ (q = 152) := h; omega), G5.fr f12 (fun q a b h => by have h9 : (q = 4 ∨ q = 4 + 1 + 1 ∨ q = 4 + 1 + 2 ∨ q = 4 + 1 + 3) ∨ (q = 152) := h; omega), G6.fr f12 (fun q a b h => by have h9 : (q = 4 ∨ q = 4 + 1 + 1 ∨ q = 4 + 1 + 2 ∨ q = 4 + 1 + 3) ∨ (q = 152) := h; omega), G7.fr f12 (fun q a h => by have h9 : (q = 4 ∨ q = 4 + 1 + 1 ∨ q = 4 + 1 + 2 ∨ q = 4 + 1 + 3) ∨ (q = 152) := h; omega), G8.fr f12 (fun q a b h => by have h9 : (q = 4 ∨ q = 4 + 1 + 1 ∨ q = 4 + 1 + 2 ∨ q = 4 + 1 + 3) ∨ (q = 152) := h; omega), G9.fr f12 (fun q a b h => by have h9 : (q = 4 ∨ q = 4 + 1 + 1 ∨ q = 4 + 1 + 2 ∨ q = 4 + 1 + 3) ∨ (q = 152) := h; omega), G10.fr f12 (fun q a b h => by have h9 : (q = 4 ∨ q = 4 + 1 + 1 ∨ q = 4 + 1 + 2 ∨ q = 4 + 1 + 3) ∨ (q = 152) := h; omega), G11.fr f12 (fun q a b h => by have h9 : (q = 4 ∨ q = 4 + 1 + 1 ∨ q = 4 + 1 + 2 ∨ q = 4 + 1 + 3) ∨ (q = 152) := h; omega), q1, o1, o2, (by omega), (by rw [o7]; omega), (fun k hk => absurd hk (by omega)), o6, o7, o8, o9, o10, o11, o12, o13, o14⟩
theorem pr_rule {E : mn_En} {g : mn_H} (h : Cpl g) (y : Int32) (x : Int32) : PRg E MVS_rule MMo_rule 2 44 1 22 [(1, .int y), (2, .int x)] g := by
  obtain ⟨tl, e, sz, rp, st, m, r, wd, ag, td, om, dn, tb, sm, bg, pi, ss, sl, sb, hC⟩ := h
  have hC' := hC
  obtain ⟨G1, G2, G3, G4, G5, G6, G7, G8, G9, G10, G11, G12, o1, o2, o3, o4, o5, o6, o7, o8, o9, o10, o11, o12, o13, o14⟩ := hC'
  have hC'' := hC
  obtain ⟨hV, ⟨hta, htb⟩, ⟨cm, cw, ln, sn, bc, ⟨s1, s2, s3, s4, s5, s6⟩, s7, s8, s9, s10⟩, hRu, ⟨w0, c, ⟨hy, hy1, hy2⟩, hc⟩, hSl, hRd, hMTa, ⟨hSm, hBg⟩, ⟨hSo, hSs⟩, ⟨vl, hVl, hvl⟩, hM, -⟩ := hC''
  rcases i32_rng y 3 (by decide) with ⟨i, hi, rfl⟩ | hy
  · match i, hi with
    | i + 3, hi => exact absurd hi (by omega)
    | 0, _ =>
      rcases i32_rng x 81 (by decide) with ⟨k, hk, rfl⟩ | hx
      · by_cases hk2 : 20 ≤ k
        · refine ⟨_, _, c_VS_rule0 Lay_ok hV hRu hk2 (show k ≤ 80 by omega), fun g1 hq1 => ?_⟩
          obtain ⟨f1, n1⟩ := hq1
          have N12 := G12.fr f1 (fun q a b h => by have h9 : q = 10 := h; omega)
          refine ⟨⟨_, N12⟩, ?_⟩
          refine mn_R.post (c_M_rule0 N12 hk2 (show k ≤ 80 by omega)) (fun x g2 hq => ?_)
          obtain ⟨q0, f2, q1⟩ := hq
          refine ⟨q0, ?_⟩
          have f12 : mn_fr (fun q => (q = 10) ∨ (q = 152)) g g2 := (f1.mo (fun q h => Or.inl h)).tr (f2.mo (fun q h => Or.inr h))
          exact ⟨tl, e, k, rp, st, m, r, wd, ag, td, om, dn, tb, sm, bg, pi, ss, sl, sb, G1.fr f12 (fun q a b h => by have h9 : (q = 10) ∨ (q = 152) := h; omega), G2.fr f12 (fun q a b h => by have h9 : (q = 10) ∨ (q = 152) := h; omega), G3.fr f12 (fun q a b h => by have h9 : (q = 10) ∨ (q = 152) := h; omega), gRu.fr n1 f2 (fun q a b h => by have h9 : q = 152 := h; omega), G5.fr f12 (fun q a b h => by have h9 : (q = 10) ∨ (q = 152) := h; omega), G6.fr f12 (fun q a b h => by have h9 : (q = 10) ∨ (q = 152) := h; omega), G7.fr f12 (fun q a h => by have h9 : (q = 10) ∨ (q = 152) := h; omega), G8.fr f12 (fun q a b h => by have h9 : (q = 10) ∨ (q = 152) := h; omega), G9.fr f12 (fun q a b h => by have h9 : (q = 10) ∨ (q = 152) := h; omega), G10.fr f12 (fun q a b h => by have h9 : (q = 10) ∨ (q = 152) := h; omega), G11.fr f12 (fun q a b h => by have h9 : (q = 10) ∨ (q = 152) := h; omega), q1, o1, o2, o3, o4, o5, o6, o7, hk2, (by omega), o10, o11, o12, o13, o14⟩
        · have q9 : nI k < 20 := (nI_ltI (a := k) (b := 20) (by omega) (by omega)).mpr (by omega)
          exact PRq hC (c_VS_rule0_bad Lay_ok hV hRu (Or.inl q9)) (c_M_rule0_bad hM (Or.inl q9))
      · exact PRq hC (c_VS_rule0_bad Lay_ok hV hRu ((hi5 (N := 80) hx (by decide)).imp (fun q => lt20 q (by decide)) id)) (c_M_rule0_bad hM ((hi5 (N := 80) hx (by decide)).imp (fun q => lt20 q (by decide)) id))
    | 1, _ =>
      rcases i32_rng x 4 (by decide) with ⟨k, hk, rfl⟩ | hx
      · have hk2 : 0 ≤ k := Nat.zero_le _
        refine ⟨_, _, c_VS_rule1 Lay_ok hV hRu hk2 (show k ≤ 3 by omega), fun g1 hq1 => ?_⟩
        obtain ⟨f1, n1⟩ := hq1
        have N12 := G12.fr f1 (fun q a b h => by have h9 : q = 10 := h; omega)
        refine ⟨⟨_, N12⟩, ?_⟩
        refine mn_R.post (c_M_rule1 N12 hk2 (show k ≤ 3 by omega)) (fun x g2 hq => ?_)
        obtain ⟨q0, f2, q1⟩ := hq
        refine ⟨q0, ?_⟩
        have f12 : mn_fr (fun q => (q = 10) ∨ (q = 152)) g g2 := (f1.mo (fun q h => Or.inl h)).tr (f2.mo (fun q h => Or.inr h))
        exact ⟨tl, e, sz, k, st, m, r, wd, ag, td, om, dn, tb, sm, bg, pi, ss, sl, sb, G1.fr f12 (fun q a b h => by have h9 : (q = 10) ∨ (q = 152) := h; omega), G2.fr f12 (fun q a b h => by have h9 : (q = 10) ∨ (q = 152) := h; omega), G3.fr f12 (fun q a b h => by have h9 : (q = 10) ∨ (q = 152) := h; omega), gRu.fr n1 f2 (fun q a b h => by have h9 : q = 152 := h; omega), G5.fr f12 (fun q a b h => by have h9 : (q = 10) ∨ (q = 152) := h; omega), G6.fr f12 (fun q a b h => by have h9 : (q = 10) ∨ (q = 152) := h; omega), G7.fr f12 (fun q a h => by have h9 : (q = 10) ∨ (q = 152) := h; omega), G8.fr f12 (fun q a b h => by have h9 : (q = 10) ∨ (q = 152) := h; omega), G9.fr f12 (fun q a b h => by have h9 : (q = 10) ∨ (q = 152) := h; omega), G10.fr f12 (fun q a b h => by have h9 : (q = 10) ∨ (q = 152) := h; omega), G11.fr f12 (fun q a b h => by have h9 : (q = 10) ∨ (q = 152) := h; omega), q1, o1, o2, o3, o4, o5, o6, o7, o8, o9, (by omega), o11, o12, o13, o14⟩
      · exact PRq hC (c_VS_rule1_bad Lay_ok hV hRu (hi5 (N := 3) hx (by decide))) (c_M_rule1_bad hM (hi5 (N := 3) hx (by decide)))
    | 2, _ =>
      rcases i32_rng x 256 (by decide) with ⟨k, hk, rfl⟩ | hx
      · have hk2 : 0 ≤ k := Nat.zero_le _
        refine ⟨_, _, c_VS_rule2 Lay_ok hV hRu hk2 (show k ≤ 255 by omega), fun g1 hq1 => ?_⟩
        obtain ⟨f1, n1⟩ := hq1
        have N12 := G12.fr f1 (fun q a b h => by have h9 : q = 10 := h; omega)
        refine ⟨⟨_, N12⟩, ?_⟩
        refine mn_R.post (c_M_rule2 N12 hk2 (show k ≤ 255 by omega)) (fun x g2 hq => ?_)
        obtain ⟨q0, f2, q1⟩ := hq
        refine ⟨q0, ?_⟩
        have f12 : mn_fr (fun q => (q = 10) ∨ (q = 152)) g g2 := (f1.mo (fun q h => Or.inl h)).tr (f2.mo (fun q h => Or.inr h))
        exact ⟨tl, e, sz, rp, k, m, r, wd, ag, td, om, dn, tb, sm, bg, pi, ss, sl, sb, G1.fr f12 (fun q a b h => by have h9 : (q = 10) ∨ (q = 152) := h; omega), G2.fr f12 (fun q a b h => by have h9 : (q = 10) ∨ (q = 152) := h; omega), G3.fr f12 (fun q a b h => by have h9 : (q = 10) ∨ (q = 152) := h; omega), gRu.fr n1 f2 (fun q a b h => by have h9 : q = 152 := h; omega), G5.fr f12 (fun q a b h => by have h9 : (q = 10) ∨ (q = 152) := h; omega), G6.fr f12 (fun q a b h => by have h9 : (q = 10) ∨ (q = 152) := h; omega), G7.fr f12 (fun q a h => by have h9 : (q = 10) ∨ (q = 152) := h; omega), G8.fr f12 (fun q a b h => by have h9 : (q = 10) ∨ (q = 152) := h; omega), G9.fr f12 (fun q a b h => by have h9 : (q = 10) ∨ (q = 152) := h; omega), G10.fr f12 (fun q a b h => by have h9 : (q = 10) ∨ (q = 152) := h; omega), G11.fr f12 (fun q a b h => by have h9 : (q = 10) ∨ (q = 152) := h; omega), q1, o1, o2, o3, o4, o5, o6, o7, o8, o9, o10, (by omega), o12, o13, o14⟩
      · exact PRq hC (c_VS_rule2_bad Lay_ok hV hRu (hi5 (N := 255) hx (by decide))) (c_M_rule2_bad hM (hi5 (N := 255) hx (by decide)))
  · have hne : ∀ N : Int32, (0 : Int32) ≤ N → N < nI 3 → ¬ y = N := fun N n1 n2 q => hy.elim (fun q2 => absurd (Int32.lt_of_lt_of_le q2 n1) (by rw [q]; exact Int32.lt_irrefl)) (fun q2 => absurd (Int32.lt_of_lt_of_le n2 q2) (by rw [q]; exact Int32.lt_irrefl))
    exact PRq hC (c_VS_rule_bad Lay_ok hV hRu (hi5t (N := 2) hy (by decide))) (c_M_rule_bad hM (hne 0 (by decide) (by decide)) (hne 1 (by decide) (by decide)) (hne 2 (by decide) (by decide)))
theorem pr_lose {E : mn_En} {g : mn_H} (h : Cpl g) (x : Int32) : PRg E MVS_lose MMo_lose 1 21 2 43 [(1, .int x)] g := by
  obtain ⟨tl, e, sz, rp, st, m, r, wd, ag, td, om, dn, tb, sm, bg, pi, ss, sl, sb, hC⟩ := h
  have hC' := hC
  obtain ⟨G1, G2, G3, G4, G5, G6, G7, G8, G9, G10, G11, G12, o1, o2, o3, o4, o5, o6, o7, o8, o9, o10, o11, o12, o13, o14⟩ := hC'
  have hC'' := hC
  obtain ⟨hV, ⟨hta, htb⟩, ⟨cm, cw, ln, sn, bc, ⟨s1, s2, s3, s4, s5, s6⟩, s7, s8, s9, s10⟩, hRu, ⟨w0, c, ⟨hy, hy1, hy2⟩, hc⟩, hSl, hRd, hMTa, ⟨hSm, hBg⟩, ⟨hSo, hSs⟩, ⟨vl, hVl, hvl⟩, hM, -⟩ := hC''
  have hss := hSl.2.2.2.2.2.1
  rcases i32_rng x 60 (by decide) with ⟨k, hk, rfl⟩ | hx
  · by_cases h0 : ss k = 0
    · exact PRq hC (c_VS_lose_empty Lay_ok hV hSl hk h0) (c_M_lose_empty hM hSs hk hss h0)
    · refine ⟨_, _, c_VS_lose Lay_ok hV hSl hk h0, fun g1 hq1 => ?_⟩
      obtain ⟨f1, n1⟩ := hq1
      have N10 := G10.fr f1 (fun q a b h => by have h9 : 14 + 2 ≤ q ∧ q < 14 + 122 := h; omega)
      have N12 := G12.fr f1 (fun q a b h => by have h9 : 14 + 2 ≤ q ∧ q < 14 + 122 := h; omega)
      obtain ⟨N10a, N10b⟩ := N10
      refine ⟨⟨_, N12⟩, ?_⟩
      refine mn_R.post (c_M_lose N12 N10b hk hss h0) (fun x g2 hq => ?_)
      obtain ⟨q0, f2, q1, q2⟩ := hq
      refine ⟨q0, ?_⟩
      have f12 : mn_fr (fun q => (14 + 2 ≤ q ∧ q < 14 + 122) ∨ (q = 152 ∨ q = 152 + 5)) g g2 := (f1.mo (fun q h => Or.inl h)).tr (f2.mo (fun q h => Or.inr h))
      exact ⟨tl, e, sz, rp, st, m, r, wd, ag, td, om, dn, tb, sm, bg, pi, (va_up ss k 0), sl, sb, G1.fr f12 (fun q a b h => by have h9 : (14 + 2 ≤ q ∧ q < 14 + 122) ∨ (q = 152 ∨ q = 152 + 5) := h; omega), G2.fr f12 (fun q a b h => by have h9 : (14 + 2 ≤ q ∧ q < 14 + 122) ∨ (q = 152 ∨ q = 152 + 5) := h; omega), G3.fr f12 (fun q a b h => by have h9 : (14 + 2 ≤ q ∧ q < 14 + 122) ∨ (q = 152 ∨ q = 152 + 5) := h; omega), G4.fr f12 (fun q a b h => by have h9 : (14 + 2 ≤ q ∧ q < 14 + 122) ∨ (q = 152 ∨ q = 152 + 5) := h; omega), G5.fr f12 (fun q a b h => by have h9 : (14 + 2 ≤ q ∧ q < 14 + 122) ∨ (q = 152 ∨ q = 152 + 5) := h; omega), SlP.fr n1 f2 (fun q a b h => by have h9 : q = 152 ∨ q = 152 + 5 := h; omega), G7.fr f12 (fun q a h => by have h9 : (14 + 2 ≤ q ∧ q < 14 + 122) ∨ (q = 152 ∨ q = 152 + 5) := h; omega), G8.fr f12 (fun q a b h => by have h9 : (14 + 2 ≤ q ∧ q < 14 + 122) ∨ (q = 152 ∨ q = 152 + 5) := h; omega), G9.fr f12 (fun q a b h => by have h9 : (14 + 2 ≤ q ∧ q < 14 + 122) ∨ (q = 152 ∨ q = 152 + 5) := h; omega), ⟨N10a.fr f2 (fun h => by have h9 : (152 + 4) = 152 ∨ (152 + 4) = 152 + 5 := h; omega), q2⟩, G11.fr f12 (fun q a b h => by have h9 : (14 + 2 ≤ q ∧ q < 14 + 122) ∨ (q = 152 ∨ q = 152 + 5) := h; omega), q1, o1, o2, o3, o4, o5, o6, o7, o8, o9, o10, o11, (fun i j hi hj => by by_cases q : i = k; rw [q, va_up_s] at hj; exact absurd hj (by omega); rw [va_up_n _ _ q] at hj; exact o12 i j hi hj), (fun i => by by_cases q : i = k; rw [q, va_up_s]; exact Or.inl rfl; rw [va_up_n _ _ q]; exact o13 i), o14⟩
  · exact PRq hC (c_VS_lose_bad Lay_ok hV hSl hx) (c_M_lose_bad hM hx)
theorem pr_poke {E : mn_En} {g : mn_H} (h : Cpl g) (x : Int32) (y : Int32) (w : Int32) : PRg E MVS_poke MMo_poke 1 22 2 43 [(1, .int x), (2, .int y), (3, .int w)] g := by
  obtain ⟨tl, e, sz, rp, st, m, r, wd, ag, td, om, dn, tb, sm, bg, pi, ss, sl, sb, hC⟩ := h
  have hC' := hC
  obtain ⟨G1, G2, G3, G4, G5, G6, G7, G8, G9, G10, G11, G12, o1, o2, o3, o4, o5, o6, o7, o8, o9, o10, o11, o12, o13, o14⟩ := hC'
  have hC'' := hC
  obtain ⟨hV, ⟨hta, htb⟩, ⟨cm, cw, ln, sn, bc, ⟨s1, s2, s3, s4, s5, s6⟩, s7, s8, s9, s10⟩, hRu, ⟨w0, c, ⟨hy, hy1, hy2⟩, hc⟩, hSl, hRd, hMTa, ⟨hSm, hBg⟩, ⟨hSo, hSs⟩, ⟨vl, hVl, hvl⟩, hM, -⟩ := hC''
  have hss := hSl.2.2.2.2.2.1
  rcases i32_rng x 60 (by decide) with ⟨k, hk, rfl⟩ | hx
  · rcases i32_rng y (ss k) (by have := hss k; omega) with ⟨i, hi, rfl⟩ | hy2
    · rcases i32_rng w 256 (by decide) with ⟨mk, hmk, rfl⟩ | hw
      · by_cases h1 : 1 ≤ mk
        · refine ⟨_, _, c_VS_poke Lay_ok hV hSl hk hi h1 hmk, fun g1 hq1 => ?_⟩
          obtain ⟨f1, n1⟩ := hq1
          have e9 : sl (80 * k + i) = sb k i := o12 k i hk hi
          have N10 := G10.fr f1 (fun q a b h => by have h9 : 14 + 2 ≤ q ∧ q < 14 + 122 := h; omega)
          have N12 := G12.fr f1 (fun q a b h => by have h9 : 14 + 2 ≤ q ∧ q < 14 + 122 := h; omega)
          obtain ⟨N10a, N10b⟩ := N10
          refine ⟨⟨_, N12⟩, ?_⟩
          refine mn_R.post (c_M_poke N12 N10a N10b hk hss hi h1 hmk) (fun x g2 hq => ?_)
          obtain ⟨q0, f2, q1, q2⟩ := hq
          rw [e9] at q0
          refine ⟨q0, ?_⟩
          have f12 : mn_fr (fun q => (14 + 2 ≤ q ∧ q < 14 + 122) ∨ (q = 152 ∨ q = 152 + 4)) g g2 := (f1.mo (fun q h => Or.inl h)).tr (f2.mo (fun q h => Or.inr h))
          exact ⟨tl, e, sz, rp, st, m, r, wd, ag, td, om, dn, tb, sm, bg, pi, ss, (va_up sl (80 * k + i) (sl (80 * k + i) ^^^ mk)), (va_up sb k (va_up (sb k) i (sb k i ^^^ mk))), G1.fr f12 (fun q a b h => by have h9 : (14 + 2 ≤ q ∧ q < 14 + 122) ∨ (q = 152 ∨ q = 152 + 4) := h; omega), G2.fr f12 (fun q a b h => by have h9 : (14 + 2 ≤ q ∧ q < 14 + 122) ∨ (q = 152 ∨ q = 152 + 4) := h; omega), G3.fr f12 (fun q a b h => by have h9 : (14 + 2 ≤ q ∧ q < 14 + 122) ∨ (q = 152 ∨ q = 152 + 4) := h; omega), G4.fr f12 (fun q a b h => by have h9 : (14 + 2 ≤ q ∧ q < 14 + 122) ∨ (q = 152 ∨ q = 152 + 4) := h; omega), G5.fr f12 (fun q a b h => by have h9 : (14 + 2 ≤ q ∧ q < 14 + 122) ∨ (q = 152 ∨ q = 152 + 4) := h; omega), SlP.fr n1 f2 (fun q a b h => by have h9 : q = 152 ∨ q = 152 + 4 := h; omega), G7.fr f12 (fun q a h => by have h9 : (14 + 2 ≤ q ∧ q < 14 + 122) ∨ (q = 152 ∨ q = 152 + 4) := h; omega), G8.fr f12 (fun q a b h => by have h9 : (14 + 2 ≤ q ∧ q < 14 + 122) ∨ (q = 152 ∨ q = 152 + 4) := h; omega), G9.fr f12 (fun q a b h => by have h9 : (14 + 2 ≤ q ∧ q < 14 + 122) ∨ (q = 152 ∨ q = 152 + 4) := h; omega), ⟨q2, N10b.fr f2 (fun h => by have h9 : (152 + 5) = 152 ∨ (152 + 5) = 152 + 4 := h; omega)⟩, G11.fr f12 (fun q a b h => by have h9 : (14 + 2 ≤ q ∧ q < 14 + 122) ∨ (q = 152 ∨ q = 152 + 4) := h; omega), q1, o1, o2, o3, o4, o5, o6, o7, o8, o9, o10, o11, (fun a j ha hj => by
              have hj8 := hss a
              have hi8 := hss k
              show va_up sl (80 * k + i) (sl (80 * k + i) ^^^ mk) (80 * a + j) = _
              by_cases q : a = k
              · subst q
                rw [va_up_s]
                by_cases q2 : j = i
                · subst q2
                  rw [va_up_s, va_up_s, e9]
                · rw [va_up_n _ _ (by omega), va_up_n _ _ q2]
                  exact o12 a j ha hj
              · rw [va_up_n _ _ (by omega), va_up_n _ _ q]
                exact o12 a j ha hj), o13, va_up_lt o14 (xor_lt8 (o14 _) hmk)⟩
        · have q9 : nI mk < 1 := (nI_ltI (a := mk) (b := 1) (by omega) (by omega)).mpr (by omega)
          exact PRq hC (c_VS_poke_args Lay_ok hV hSl hk (Or.inr (Or.inr (Or.inl q9)))) (c_M_poke_m hM hSo hSs hk hss hi (Or.inl q9))
      · have q9 : w < 1 ∨ 255 < w := (hi5 (N := 255) hw (by decide)).imp (fun q => lt20 q (by decide)) id
        exact PRq hC (c_VS_poke_args Lay_ok hV hSl hk (Or.inr (Or.inr q9))) (c_M_poke_m hM hSo hSs hk hss hi q9)
    · exact PRq hC (c_VS_poke_args Lay_ok hV hSl hk (hy2.imp id Or.inl)) (c_M_poke_i hM hSo hSs hk hss hy2)
  · exact PRq hC (c_VS_poke_bad Lay_ok hV hSl hx) (c_M_poke_bad hM hx)
theorem pr_swap {E : mn_En} {g : mn_H} (h : Cpl g) (x : Int32) (y : Int32) : PRg E MVS_swap MMo_swap 2 45 2 43 [(1, .int x), (2, .int y)] g := by
  obtain ⟨tl, e, sz, rp, st, m, r, wd, ag, td, om, dn, tb, sm, bg, pi, ss, sl, sb, hC⟩ := h
  have hC' := hC
  obtain ⟨G1, G2, G3, G4, G5, G6, G7, G8, G9, G10, G11, G12, o1, o2, o3, o4, o5, o6, o7, o8, o9, o10, o11, o12, o13, o14⟩ := hC'
  have hC'' := hC
  obtain ⟨hV, ⟨hta, htb⟩, ⟨cm, cw, ln, sn, bc, ⟨s1, s2, s3, s4, s5, s6⟩, s7, s8, s9, s10⟩, hRu, ⟨w0, c, ⟨hy, hy1, hy2⟩, hc⟩, hSl, hRd, hMTa, ⟨hSm, hBg⟩, ⟨hSo, hSs⟩, ⟨vl, hVl, hvl⟩, hM, -⟩ := hC''
  have hss := hSl.2.2.2.2.2.1
  rcases i32_rng x 60 (by decide) with ⟨a, ha, rfl⟩ | hx
  · rcases i32_rng y 60 (by decide) with ⟨b, hb, rfl⟩ | hy2
    · refine ⟨_, _, c_VS_swap Lay_ok hV hSl ha hb, fun g1 hq1 => ?_⟩
      obtain ⟨f1, n1⟩ := hq1
      have hs8 := n1.2.2.2.2.2.1
      have N10 := G10.fr f1 (fun q a b h => by have h9 : q = 14 + 1 := h; omega)
      have N12 := G12.fr f1 (fun q a b h => by have h9 : q = 14 + 1 := h; omega)
      obtain ⟨N10a, N10b⟩ := N10
      refine ⟨⟨_, N12⟩, ?_⟩
      refine mn_R.post (c_M_swap N12 N10a N10b ha hb) (fun x g2 hq => ?_)
      obtain ⟨q0, f2, q1, q2, q3⟩ := hq
      refine ⟨q0, ?_⟩
      have f12 : mn_fr (fun q => (q = 14 + 1) ∨ (q = 152 ∨ q = 152 + 4 ∨ q = 152 + 5)) g g2 := (f1.mo (fun q h => Or.inl h)).tr (f2.mo (fun q h => Or.inr h))
      exact ⟨tl, e, sz, rp, st, m, r, wd, ag, td, om, dn, tb, sm, bg, (swp pi a b), (swp ss a b), (swL sl a b 80), (swp sb a b), G1.fr f12 (fun q a b h => by have h9 : (q = 14 + 1) ∨ (q = 152 ∨ q = 152 + 4 ∨ q = 152 + 5) := h; omega), G2.fr f12 (fun q a b h => by have h9 : (q = 14 + 1) ∨ (q = 152 ∨ q = 152 + 4 ∨ q = 152 + 5) := h; omega), G3.fr f12 (fun q a b h => by have h9 : (q = 14 + 1) ∨ (q = 152 ∨ q = 152 + 4 ∨ q = 152 + 5) := h; omega), G4.fr f12 (fun q a b h => by have h9 : (q = 14 + 1) ∨ (q = 152 ∨ q = 152 + 4 ∨ q = 152 + 5) := h; omega), G5.fr f12 (fun q a b h => by have h9 : (q = 14 + 1) ∨ (q = 152 ∨ q = 152 + 4 ∨ q = 152 + 5) := h; omega), SlP.fr n1 f2 (fun q a b h => by have h9 : q = 152 ∨ q = 152 + 4 ∨ q = 152 + 5 := h; omega), G7.fr f12 (fun q a h => by have h9 : (q = 14 + 1) ∨ (q = 152 ∨ q = 152 + 4 ∨ q = 152 + 5) := h; omega), G8.fr f12 (fun q a b h => by have h9 : (q = 14 + 1) ∨ (q = 152 ∨ q = 152 + 4 ∨ q = 152 + 5) := h; omega), G9.fr f12 (fun q a b h => by have h9 : (q = 14 + 1) ∨ (q = 152 ∨ q = 152 + 4 ∨ q = 152 + 5) := h; omega), ⟨q2, q3⟩, G11.fr f12 (fun q a b h => by have h9 : (q = 14 + 1) ∨ (q = 152 ∨ q = 152 + 4 ∨ q = 152 + 5) := h; omega), q1, o1, o2, o3, o4, o5, o6, o7, o8, o9, o10, o11, (fun i j hi hj => by
          have h8 : j < 80 := Nat.lt_of_lt_of_le hj (hs8 i)
          rw [swL_sb sl h8]
          unfold swp at hj ⊢
          split
          · rename_i q
            rw [if_pos q] at hj
            exact o12 a j ha hj
          · rename_i q
            rw [if_neg q] at hj
            split
            · rename_i q2
              rw [if_pos q2] at hj
              exact o12 b j hb hj
            · rename_i q2
              rw [if_neg q2] at hj
              exact o12 i j hi hj), (fun i => by unfold swp; split; exact o13 a; split; exact o13 b; exact o13 i), (fun j => by unfold swL; split; exact o14 _; split; exact o14 _; exact o14 _)⟩
    · exact PRq hC (c_VS_swap_bad2 Lay_ok hV hSl ha hy2) (c_M_swap_bad2 hM ha hy2)
  · exact PRq hC (c_VS_swap_bad1 Lay_ok hV hSl hx) (c_M_swap_bad1 hM hx)
theorem pr_copy {E : mn_En} {g : mn_H} (h : Cpl g) (x : Int32) (y : Int32) : PRg E MVS_copy MMo_copy 2 47 2 43 [(1, .int x), (2, .int y)] g := by
  obtain ⟨tl, e, sz, rp, st, m, r, wd, ag, td, om, dn, tb, sm, bg, pi, ss, sl, sb, hC⟩ := h
  have hC' := hC
  obtain ⟨G1, G2, G3, G4, G5, G6, G7, G8, G9, G10, G11, G12, o1, o2, o3, o4, o5, o6, o7, o8, o9, o10, o11, o12, o13, o14⟩ := hC'
  have hC'' := hC
  obtain ⟨hV, ⟨hta, htb⟩, ⟨cm, cw, ln, sn, bc, ⟨s1, s2, s3, s4, s5, s6⟩, s7, s8, s9, s10⟩, hRu, ⟨w0, c, ⟨hy, hy1, hy2⟩, hc⟩, hSl, hRd, hMTa, ⟨hSm, hBg⟩, ⟨hSo, hSs⟩, ⟨vl, hVl, hvl⟩, hM, -⟩ := hC''
  have hss := hSl.2.2.2.2.2.1
  rcases i32_rng x 60 (by decide) with ⟨a, ha, rfl⟩ | hx
  · rcases i32_rng y 60 (by decide) with ⟨b, hb, rfl⟩ | hy2
    · by_cases h1 : ss a = 0
      · exact PRq hC (c_VS_copy_bad4 Lay_ok hV hSl ha hb (Or.inl h1)) (c_M_copy_bad4 hM hSs ha hb hss (Or.inl h1))
      · by_cases h2 : ss b = 0
        · refine ⟨_, _, c_VS_copy Lay_ok hV hSl ha hb h1 h2, fun g1 hq1 => ?_⟩
          obtain ⟨f1, n1⟩ := hq1
          have hs8 := n1.2.2.2.2.2.1
          have N10 := G10.fr f1 (fun q a b h => by have h9 : 14 + 2 ≤ q ∧ q < 14 + 122 := h; omega)
          have N12 := G12.fr f1 (fun q a b h => by have h9 : 14 + 2 ≤ q ∧ q < 14 + 122 := h; omega)
          obtain ⟨N10a, N10b⟩ := N10
          refine ⟨⟨_, N12⟩, ?_⟩
          refine mn_R.post (c_M_copy N12 N10a N10b ha hb hss h1 h2) (fun x g2 hq => ?_)
          obtain ⟨q0, f2, q1, q2, q3⟩ := hq
          refine ⟨q0, ?_⟩
          have f12 : mn_fr (fun q => (14 + 2 ≤ q ∧ q < 14 + 122) ∨ (q = 152 ∨ q = 152 + 4 ∨ q = 152 + 5)) g g2 := (f1.mo (fun q h => Or.inl h)).tr (f2.mo (fun q h => Or.inr h))
          exact ⟨tl, e, sz, rp, st, m, r, wd, ag, td, om, dn, tb, sm, bg, pi, (va_up ss b (ss a)), (cyL sl a b 80), (va_up sb b (cpN (sb a) (sb b))), G1.fr f12 (fun q a b h => by have h9 : (14 + 2 ≤ q ∧ q < 14 + 122) ∨ (q = 152 ∨ q = 152 + 4 ∨ q = 152 + 5) := h; omega), G2.fr f12 (fun q a b h => by have h9 : (14 + 2 ≤ q ∧ q < 14 + 122) ∨ (q = 152 ∨ q = 152 + 4 ∨ q = 152 + 5) := h; omega), G3.fr f12 (fun q a b h => by have h9 : (14 + 2 ≤ q ∧ q < 14 + 122) ∨ (q = 152 ∨ q = 152 + 4 ∨ q = 152 + 5) := h; omega), G4.fr f12 (fun q a b h => by have h9 : (14 + 2 ≤ q ∧ q < 14 + 122) ∨ (q = 152 ∨ q = 152 + 4 ∨ q = 152 + 5) := h; omega), G5.fr f12 (fun q a b h => by have h9 : (14 + 2 ≤ q ∧ q < 14 + 122) ∨ (q = 152 ∨ q = 152 + 4 ∨ q = 152 + 5) := h; omega), SlP.fr n1 f2 (fun q a b h => by have h9 : q = 152 ∨ q = 152 + 4 ∨ q = 152 + 5 := h; omega), G7.fr f12 (fun q a h => by have h9 : (14 + 2 ≤ q ∧ q < 14 + 122) ∨ (q = 152 ∨ q = 152 + 4 ∨ q = 152 + 5) := h; omega), G8.fr f12 (fun q a b h => by have h9 : (14 + 2 ≤ q ∧ q < 14 + 122) ∨ (q = 152 ∨ q = 152 + 4 ∨ q = 152 + 5) := h; omega), G9.fr f12 (fun q a b h => by have h9 : (14 + 2 ≤ q ∧ q < 14 + 122) ∨ (q = 152 ∨ q = 152 + 4 ∨ q = 152 + 5) := h; omega), ⟨q2, q3⟩, G11.fr f12 (fun q a b h => by have h9 : (14 + 2 ≤ q ∧ q < 14 + 122) ∨ (q = 152 ∨ q = 152 + 4 ∨ q = 152 + 5) := h; omega), q1, o1, o2, o3, o4, o5, o6, o7, o8, o9, o10, o11, (fun i j hi hj => by
              have h8 : j < 80 := Nat.lt_of_lt_of_le hj (hs8 i)
              rw [cyL_sb sl h8]
              by_cases q : i = b
              · subst q
                rw [va_up_s] at hj
                rw [va_up_s, va_up_s]
                unfold cpN
                rw [if_pos h8]
                exact o12 a j ha hj
              · rw [va_up_n _ _ q] at hj
                rw [va_up_n _ _ q, va_up_n _ _ q]
                exact o12 i j hi hj), (fun i => by by_cases q : i = b; rw [q, va_up_s]; exact o13 a; rw [va_up_n _ _ q]; exact o13 i), (fun j => by unfold cyL; split; all_goals exact o14 _)⟩
        · exact PRq hC (c_VS_copy_bad4 Lay_ok hV hSl ha hb (Or.inr h2)) (c_M_copy_bad4 hM hSs ha hb hss (Or.inr h2))
    · exact PRq hC (c_VS_copy_bad3 Lay_ok hV hSl ha hy2) (c_M_copy_bad2 hM ha hy2)
  · rcases i32_rng y 60 (by decide) with ⟨b, hb, rfl⟩ | hy2
    · exact PRq hC (c_VS_copy_bad2 Lay_ok hV hSl hx hb) (c_M_copy_bad1 hM hx)
    · exact PRq hC (c_VS_copy_bad1 Lay_ok hV hSl hx hy2) (c_M_copy_bad1 hM hx)
