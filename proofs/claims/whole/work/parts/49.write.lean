theorem siK_ext {bg bc : Nat → Nat} {e fr w : Nat} (h : ∀ k, k < e → bc k = bg k) : ∀ t, t ≤ e → siK bc e fr w t = siK bg e fr w t
  | 0, _ => rfl
  | t + 1, ht => by rw [siK, siK, siK_ext h t (by omega), h (e - (t + 1)) (by omega)]
theorem horN_ext {F G : Nat → Nat} {j m : Nat} (h : ∀ k, k < m → F k = G k) : ∀ t, t ≤ m → horN F j m t = horN G j m t
  | 0, _ => rfl
  | t + 1, ht => by rw [horN, horN, horN_ext h t (by omega), h (m - 1 - t) (by omega)]
theorem vlN_cg (c pb : Nat → Nat) {l l' s s' : Nat → Nat} {w m : Nat} (n st rp sz : Nat) (hl : ∀ k, k < m → l k = l' k) (hs : ∀ k, k < m → s k = s' k) : vlN c pb l s w m n st rp sz = vlN c pb l' s' w m n st rp sz := by
  have e : mkV pb l s w m n = mkV pb l' s' w m n := by
    funext j
    have hp : ∀ k, k < m → ptN pb l s w k j = ptN pb l' s' w k j := fun k hk => by unfold ptN; rw [hl k hk, hs k hk]
    unfold mkV
    by_cases q : n < m
    · rw [if_pos q, if_pos q, hp n q]
    · rw [if_neg q, if_neg q]; exact horN_ext hp m (Nat.le_refl _)
  unfold vlN
  rw [e]
theorem vl_eq {sm bg bc ln sn : Nat → Nat} {e len w m n st rp sz : Nat} (h : ∀ k, k < e → bc k = bg k) (c : Nat → Nat) : vlN c (zb sm len) (dvL ln len w m) (dvS sn bc e w m) w m n st rp sz = vlN c (zb sm len) (LnS len w) (SnS bg e w) w m n st rp sz :=
  vlN_cg c _ n st rp sz (fun k hk => by unfold dvL LnS; rw [if_pos hk]) (fun k hk => by unfold dvS SnS; rw [if_pos hk]; exact siK_ext h e (Nat.le_refl _))
theorem wrK_20 {V : Nat → Nat → Nat} {sz N pw : Nat} (hz : 20 ≤ sz) : ∀ (r : Nat) (x : (Nat → Nat) × (Nat → Nat → Nat) × Nat), (∀ k, x.1 k = 0 ∨ 20 ≤ x.1 k) → ∀ k, (wrK V sz N pw r x).1 k = 0 ∨ 20 ≤ (wrK V sz N pw r x).1 k := by
  have hp : ∀ (ss : Nat → Nat) (sb : Nat → Nat → Nat) (b : Nat → Nat), (∀ k, ss k = 0 ∨ 20 ≤ ss k) → ∀ k, (putA ss sb sz b).1 k = 0 ∨ 20 ≤ (putA ss sb sz b).1 k := by
    intro ss sb b h k
    cases hf : fst' (fun k => ss k = 0) 60 60 with
    | none => rw [putA_none hf]; exact h k
    | some i =>
      rw [putA_some hf]
      show va_up ss i sz k = 0 ∨ 20 ≤ va_up ss i sz k
      unfold va_up
      split
      · exact Or.inr hz
      · exact h k
  intro r
  induction r with
  | zero => intro x h; exact h
  | succ r ih =>
    intro x h
    unfold wrK
    split
    · exact ih x h
    · split
      · exact hp _ _ _ h
      · exact ih _ (hp _ _ _ h)
theorem i32_m1 {x : Int32} (h : x < 0) (h2 : ¬ x < -1) : x = -1 := by
  rw [Int32.lt_iff_toInt_lt] at h h2
  have a : (0 : Int32).toInt = 0 := by decide
  have b : (-1 : Int32).toInt = -1 := by decide
  rw [a] at h
  rw [b] at h2
  refine Int32.toInt_inj.mp ?_
  rw [b]
  omega
theorem pr_byteOf {E : mn_En} {g : mn_H} (h : Cpl g) (x : Int32) (y : Int32) : PRg E MVS_byteOf MMo_byteOf 4 94 4 98 [(1, .int x), (2, .int y)] g := by
  obtain ⟨tl, e, sz, rp, st, m, r, wd, ag, td, om, dn, tb, sm, bg, pi, ss, sl, sb, hC⟩ := h
  have hC' := hC
  obtain ⟨G1, G2, G3, G4, G5, G6, G7, G8, G9, G10, G11, G12, o1, o2, o3, o4, o5, o6, o7, o8, o9, o10, o11, o12, o13, o14⟩ := hC'
  have hC'' := hC
  obtain ⟨hV, ⟨hta, htb⟩, ⟨cm, cw, ln, sn, bc, ⟨s1, s2, s3, s4, s5, s6⟩, s7, s8, s9, s10⟩, hRu, ⟨w0, c, ⟨hy, hy1, hy2⟩, hc⟩, hSl, hRd, hMTa, ⟨hSm, hBg⟩, ⟨hSo, hSs⟩, ⟨vl, hVl, hvl⟩, hM, -⟩ := hC''
  by_cases hf0 : 60 < (pcN (bg e) (sz - 12)) + rp
  · exact PRq hC (c_VS_byteOf_full Lay_ok hV s1 s2 s3 s4 s5 s6 hRu o8 o9 o10 (by omega) hf0) (c_M_byteOf_full hM hBg o3 o8 o9 o10 (by omega) hf0)
  · have hf : (pcN (bg e) (sz - 12)) + rp ≤ 60 := by omega
    rcases i32_rng x ((pcN (bg e) (sz - 12)) + rp) (by omega) with ⟨n, hn, rfl⟩ | hx
    · rcases i32_rng y sz (by omega) with ⟨i, hi, rfl⟩ | hy9
      · refine ⟨_, _, c_VS_byteOf Lay_ok hV s1 s2 s3 s4 s5 s6 hRu hy hy1 hy2 o8 o9 o10 (by omega) o3 s10 (zb_lt o6 _) s7 s8 o11 hc hf hn hi, fun g1 hq1 => ?_⟩
        obtain ⟨f1, n1, n2, n3, n4, n5, n6⟩ := hq1
        have N9 := G9.fr f1 (fun q a b h => by have h9 : q = 4 + 1 ∨ q = 4 + 1 + 1 ∨ q = 4 + 1 + 2 ∨ q = 4 + 1 + 3 ∨ q = 11 + 1 ∨ q = 11 + 2 := h; omega)
        have N11 := G11.fr f1 (fun q a b h => by have h9 : q = 4 + 1 ∨ q = 4 + 1 + 1 ∨ q = 4 + 1 + 2 ∨ q = 4 + 1 + 3 ∨ q = 11 + 1 ∨ q = 11 + 2 := h; omega)
        have N12 := G12.fr f1 (fun q a b h => by have h9 : q = 4 + 1 ∨ q = 4 + 1 + 1 ∨ q = 4 + 1 + 2 ∨ q = 4 + 1 + 3 ∨ q = 11 + 1 ∨ q = 11 + 2 := h; omega)
        obtain ⟨N9a, N9b⟩ := N9
        obtain ⟨vl1, N11v, N11b⟩ := N11
        refine ⟨⟨_, N12⟩, ?_⟩
        refine mn_R.post (c_M_byteOf N12 N9a N9b N11v o3 o8 o9 (by omega) o5 o6 (by omega) o10 o11 N11b hf hn hi) (fun x g2 hq => ?_)
        obtain ⟨q0, f2, q1, vw, q2, q3⟩ := hq
        rw [show vlN (fun _ => 0) (zb sm (bg e)) (LnS (bg e) (sz - 12)) (SnS bg e (sz - 12)) (sz - 12) (pcN (bg e) (sz - 12)) n st rp sz i = vlN c (zb sm (bg e)) (dvL ln (bg e) (sz - 12) (pcN (bg e) (sz - 12))) (dvS sn bc e (sz - 12) (pcN (bg e) (sz - 12))) (sz - 12) (pcN (bg e) (sz - 12)) n st rp sz i by rw [vl_eq s9 c]; exact vlN_ext _ _ _ _ _ (by omega) i hi] at q0
        refine ⟨q0, ?_⟩
        have f12 : mn_fr (fun q => (q = 4 + 1 ∨ q = 4 + 1 + 1 ∨ q = 4 + 1 + 2 ∨ q = 4 + 1 + 3 ∨ q = 11 + 1 ∨ q = 11 + 2) ∨ (q = 152 ∨ q = 152 + 6)) g g2 := (f1.mo (fun q h => Or.inl h)).tr (f2.mo (fun q h => Or.inr h))
        exact ⟨tl, e, sz, rp, st, m, r, wd, ag, td, om, dn, tb, sm, bg, pi, ss, sl, sb, G1.fr f12 (fun q a b h => by have h9 : (q = 4 + 1 ∨ q = 4 + 1 + 1 ∨ q = 4 + 1 + 2 ∨ q = 4 + 1 + 3 ∨ q = 11 + 1 ∨ q = 11 + 2) ∨ (q = 152 ∨ q = 152 + 6) := h; omega), G2.fr f12 (fun q a b h => by have h9 : (q = 4 + 1 ∨ q = 4 + 1 + 1 ∨ q = 4 + 1 + 2 ∨ q = 4 + 1 + 3 ∨ q = 11 + 1 ∨ q = 11 + 2) ∨ (q = 152 ∨ q = 152 + 6) := h; omega), XSt.fr ⟨(pcN (bg e) (sz - 12)), sz - 12, (dvL ln (bg e) (sz - 12) (pcN (bg e) (sz - 12))), (dvS sn bc e (sz - 12) (pcN (bg e) (sz - 12))), bc, ⟨s1.fr f1 (fun h => by have h9 : (4) = 4 + 1 ∨ (4) = 4 + 1 + 1 ∨ (4) = 4 + 1 + 2 ∨ (4) = 4 + 1 + 3 ∨ (4) = 11 + 1 ∨ (4) = 11 + 2 := h; omega), n1, n2, n3, n4, s6.fr f1 (fun h => by have h9 : (4 + 5) = 4 + 1 ∨ (4 + 5) = 4 + 1 + 1 ∨ (4 + 5) = 4 + 1 + 2 ∨ (4 + 5) = 4 + 1 + 3 ∨ (4 + 5) = 11 + 1 ∨ (4 + 5) = 11 + 2 := h; omega)⟩, dvL_lt s7 (by omega), dvS_lt s8 (by omega), s9, s10⟩ f2 (fun q a b h => by have h9 : q = 152 ∨ q = 152 + 6 := h; omega), G4.fr f12 (fun q a b h => by have h9 : (q = 4 + 1 ∨ q = 4 + 1 + 1 ∨ q = 4 + 1 + 2 ∨ q = 4 + 1 + 3 ∨ q = 11 + 1 ∨ q = 11 + 2) ∨ (q = 152 ∨ q = 152 + 6) := h; omega), XWr.fr ⟨sz, _, ⟨hy.fr f1 (fun h => by have h9 : (11) = 4 + 1 ∨ (11) = 4 + 1 + 1 ∨ (11) = 4 + 1 + 2 ∨ (11) = 4 + 1 + 3 ∨ (11) = 11 + 1 ∨ (11) = 11 + 2 := h; omega), n5, n6⟩, vlN_lt hc (zb_lt o6 _) (dvL_lt s7 (by omega)) (dvS_lt s8 (by omega)) o11 (by omega) (by omega) (by omega)⟩ f2 (fun q a b h => by have h9 : q = 152 ∨ q = 152 + 6 := h; omega), G6.fr f12 (fun q a b h => by have h9 : (q = 4 + 1 ∨ q = 4 + 1 + 1 ∨ q = 4 + 1 + 2 ∨ q = 4 + 1 + 3 ∨ q = 11 + 1 ∨ q = 11 + 2) ∨ (q = 152 ∨ q = 152 + 6) := h; omega), G7.fr f12 (fun q a h => by have h9 : (q = 4 + 1 ∨ q = 4 + 1 + 1 ∨ q = 4 + 1 + 2 ∨ q = 4 + 1 + 3 ∨ q = 11 + 1 ∨ q = 11 + 2) ∨ (q = 152 ∨ q = 152 + 6) := h; omega), G8.fr f12 (fun q a b h => by have h9 : (q = 4 + 1 ∨ q = 4 + 1 + 1 ∨ q = 4 + 1 + 2 ∨ q = 4 + 1 + 3 ∨ q = 11 + 1 ∨ q = 11 + 2) ∨ (q = 152 ∨ q = 152 + 6) := h; omega), G9.fr f12 (fun q a b h => by have h9 : (q = 4 + 1 ∨ q = 4 + 1 + 1 ∨ q = 4 + 1 + 2 ∨ q = 4 + 1 + 3 ∨ q = 11 + 1 ∨ q = 11 + 2) ∨ (q = 152 ∨ q = 152 + 6) := h; omega), G10.fr f12 (fun q a b h => by have h9 : (q = 4 + 1 ∨ q = 4 + 1 + 1 ∨ q = 4 + 1 + 2 ∨ q = 4 + 1 + 3 ∨ q = 11 + 1 ∨ q = 11 + 2) ∨ (q = 152 ∨ q = 152 + 6) := h; omega), ⟨vw, q2, q3⟩, q1, o1, o2, o3, o4, o5, o6, o7, o8, o9, o10, o11, o12, o13, o14⟩
      · exact PRq hC (c_VS_byteOf_bad Lay_ok hV s1 s2 s3 s4 s5 s6 hRu o8 o9 o10 (by omega) hf (Or.inr (Or.inr hy9))) (c_M_byteOf_bad2 hM hBg o3 o8 o9 o10 (by omega) hf hn hy9)
    · exact PRq hC (c_VS_byteOf_bad Lay_ok hV s1 s2 s3 s4 s5 s6 hRu o8 o9 o10 (by omega) hf (hx.imp id Or.inl)) (c_M_byteOf_bad1 hM hBg o3 o8 o9 o10 (by omega) hf hx)
theorem pr_write {E : mn_En} {g : mn_H} (h : Cpl g) (x : Int32) : PRg E MVS_write MMo_write 5 120 4 98 [(1, .int x)] g := by
  obtain ⟨tl, e, sz, rp, st, m, r, wd, ag, td, om, dn, tb, sm, bg, pi, ss, sl, sb, hC⟩ := h
  have hC' := hC
  obtain ⟨G1, G2, G3, G4, G5, G6, G7, G8, G9, G10, G11, G12, o1, o2, o3, o4, o5, o6, o7, o8, o9, o10, o11, o12, o13, o14⟩ := hC'
  have hC'' := hC
  obtain ⟨hV, ⟨hta, htb⟩, ⟨cm, cw, ln, sn, bc, ⟨s1, s2, s3, s4, s5, s6⟩, s7, s8, s9, s10⟩, hRu, ⟨w0, c, ⟨hy, hy1, hy2⟩, hc⟩, hSl, hRd, hMTa, ⟨hSm, hBg⟩, ⟨hSo, hSs⟩, ⟨vl, hVl, hvl⟩, hM, -⟩ := hC''
  have hss := hSl.2.2.2.2.2.1
  have hbad : x < -1 ∨ 60 < x → PRg E MVS_write MMo_write 5 120 4 98 [(1, .int x)] g := fun hx => PRq hC (c_VS_write_bad Lay_ok hV hx) (c_M_write_bad hM hx)
  by_cases hx1 : x < -1
  · exact hbad (Or.inl hx1)
  by_cases hx2 : 60 < x
  · exact hbad (Or.inr hx2)
  clear hbad
  by_cases hf0 : 60 < (pcN (bg e) (sz - 12)) + rp
  · exact PRq hC (c_VS_write_full Lay_ok hV s1 s2 s3 s4 s5 s6 hRu o8 o9 o10 (by omega) hf0 hx1 hx2) (c_M_write_full hM hBg o3 o8 o9 o10 (by omega) hf0 hx1 hx2)
  have hf : (pcN (bg e) (sz - 12)) + rp ≤ 60 := by omega
  have eV : (fun n => vlN (fun _ => 0) (zb sm (bg e)) (dvL ln (bg e) (sz - 12) (pcN (bg e) (sz - 12))) (dvS sn bc e (sz - 12) (pcN (bg e) (sz - 12))) (sz - 12) (pcN (bg e) (sz - 12)) n st rp sz) = (fun n0 => vlN (fun _ => 0) (zb sm (bg e)) (LnS (bg e) (sz - 12)) (SnS bg e (sz - 12)) (sz - 12) (pcN (bg e) (sz - 12)) n0 st rp sz) := funext fun n => vl_eq s9 _
  obtain ⟨V, hV0⟩ : ∃ V : Nat → Nat → Nat, V = (fun n0 => vlN (fun _ => 0) (zb sm (bg e)) (LnS (bg e) (sz - 12)) (SnS bg e (sz - 12)) (sz - 12) (pcN (bg e) (sz - 12)) n0 st rp sz) := ⟨_, rfl⟩
  have hV3 : ∀ v, V v 3 = v := fun v => by rw [hV0]; exact vl_3 _ _ _ _ _ _ _ _ _ _
  obtain ⟨ND, hND⟩ : ∃ ND : Nat, ND = cnt (fun n => ¬ hld ss sb sz (V n)) ((pcN (bg e) (sz - 12)) + rp) := ⟨_, rfl⟩
  have hNl : ND ≤ 60 := by rw [hND]; exact Nat.le_trans (cnt_le _ _) hf
  have hfree : 60 - cnt (fun k => ss k ≠ 0) 60 = cnt (fun k => ss k = 0) 60 := by have q := cnt_neg (fun k => ss k = 0) 60; show 60 - cnt (fun k => ¬ ss k = 0) 60 = _; omega
  have hag : Agr ss sb sb := fun k j _ _ => rfl
  have hR : rem V sz ((pcN (bg e) (sz - 12)) + rp) ss sb (((pcN (bg e) (sz - 12)) + rp) - ((pcN (bg e) (sz - 12)) + rp)) = ND := by rw [Nat.sub_self, rem_0, hND]
  have hpos : ∀ p1 p2, ND ≤ p1 → ND ≤ p2 → wrK V sz ((pcN (bg e) (sz - 12)) + rp) p1 ((pcN (bg e) (sz - 12)) + rp) (ss, sb, 0) = wrK V sz ((pcN (bg e) (sz - 12)) + rp) p2 ((pcN (bg e) (sz - 12)) + rp) (ss, sb, 0) := fun p1 p2 h1 h2 => wrK_pw (by omega) hV3 ((pcN (bg e) (sz - 12)) + rp) ss sb 0 (Nat.le_refl _) (by rw [hR]; omega) (by rw [hR]; omega)
  rcases i32_rng x 61 (by decide) with ⟨pw, hpw, rfl⟩ | hx
  · clear hx1 hx2
    by_cases hA : ND < pw
    · by_cases hno : cnt (fun k => ss k = 0) 60 < ND
      · have hX := c_VS_write_non (E := E) Lay_ok hV s1 s2 s3 s4 s5 s6 hRu hy hy1 hy2 hSl hag o8 o9 o10 (by omega) o3 s10 (zb_lt o6 _) s7 s8 o11 hc hf (pw := pw) (by omega) (by rw [eV, ← hV0]; show 60 - cnt (fun k => ss k ≠ 0) 60 < min (cnt (fun n => ¬ hld ss sb sz (V n)) ((pcN (bg e) (sz - 12)) + rp)) (pw + 1); rw [← hND, hfree]; omega)
        refine ⟨_, _, hX, fun g1 hq1 => ?_⟩
        obtain ⟨f1, n1, n2, n3, n4, s21, bw1, n7, n8, n9⟩ := hq1
        have N9 := G9.fr f1 (fun q a b h => by have h9 : q = 4 + 1 ∨ q = 4 + 1 + 1 ∨ q = 4 + 1 + 2 ∨ q = 4 + 1 + 3 ∨ q = 11 + 1 ∨ q = 11 + 2 := h; omega)
        have N10 := G10.fr f1 (fun q a b h => by have h9 : q = 4 + 1 ∨ q = 4 + 1 + 1 ∨ q = 4 + 1 + 2 ∨ q = 4 + 1 + 3 ∨ q = 11 + 1 ∨ q = 11 + 2 := h; omega)
        have N11 := G11.fr f1 (fun q a b h => by have h9 : q = 4 + 1 ∨ q = 4 + 1 + 1 ∨ q = 4 + 1 + 2 ∨ q = 4 + 1 + 3 ∨ q = 11 + 1 ∨ q = 11 + 2 := h; omega)
        have N12 := G12.fr f1 (fun q a b h => by have h9 : q = 4 + 1 ∨ q = 4 + 1 + 1 ∨ q = 4 + 1 + 2 ∨ q = 4 + 1 + 3 ∨ q = 11 + 1 ∨ q = 11 + 2 := h; omega)
        obtain ⟨N9a, N9b⟩ := N9
        obtain ⟨N10a, N10b⟩ := N10
        obtain ⟨vl1, N11v, N11b⟩ := N11
        have hY := c_M_writea_no (E := E) (sb0 := sb) N12 N9a N9b N10a N10b N11v o3 o8 o9 (by omega) o5 o6 (by omega) o10 o11 hss o14 o12 hf N11b (by rw [← hV0, ← hND]; exact hA) (by omega) (by rw [← hV0]; rw [← hND]; exact hno)
        refine ⟨⟨_, N12⟩, ?_⟩
        refine mn_R.post hY (fun x g2 hq => ?_)
        obtain ⟨q0, f2, q1, q2, q3, vw, q6, q7⟩ := hq
        refine ⟨q0, ?_⟩
        have f12 : mn_fr (fun q => (q = 4 + 1 ∨ q = 4 + 1 + 1 ∨ q = 4 + 1 + 2 ∨ q = 4 + 1 + 3 ∨ q = 11 + 1 ∨ q = 11 + 2) ∨ (q = 152 ∨ q = 152 + 4 ∨ q = 152 + 5 ∨ q = 152 + 6)) g g2 := (f1.mo (fun q h => Or.inl h)).tr (f2.mo (fun q h => Or.inr h))
        exact ⟨tl, e, sz, rp, st, m, r, wd, ag, td, om, dn, tb, sm, bg, pi, ss, sl, sb, G1.fr f12 (fun q a b h => by have h9 : (q = 4 + 1 ∨ q = 4 + 1 + 1 ∨ q = 4 + 1 + 2 ∨ q = 4 + 1 + 3 ∨ q = 11 + 1 ∨ q = 11 + 2) ∨ (q = 152 ∨ q = 152 + 4 ∨ q = 152 + 5 ∨ q = 152 + 6) := h; omega), G2.fr f12 (fun q a b h => by have h9 : (q = 4 + 1 ∨ q = 4 + 1 + 1 ∨ q = 4 + 1 + 2 ∨ q = 4 + 1 + 3 ∨ q = 11 + 1 ∨ q = 11 + 2) ∨ (q = 152 ∨ q = 152 + 4 ∨ q = 152 + 5 ∨ q = 152 + 6) := h; omega), XSt.fr ⟨(pcN (bg e) (sz - 12)), sz - 12, (dvL ln (bg e) (sz - 12) (pcN (bg e) (sz - 12))), (dvS sn bc e (sz - 12) (pcN (bg e) (sz - 12))), bc, ⟨s1.fr f1 (fun h => by have h9 : (4) = 4 + 1 ∨ (4) = 4 + 1 + 1 ∨ (4) = 4 + 1 + 2 ∨ (4) = 4 + 1 + 3 ∨ (4) = 11 + 1 ∨ (4) = 11 + 2 := h; omega), n1, n2, n3, n4, s6.fr f1 (fun h => by have h9 : (4 + 5) = 4 + 1 ∨ (4 + 5) = 4 + 1 + 1 ∨ (4 + 5) = 4 + 1 + 2 ∨ (4 + 5) = 4 + 1 + 3 ∨ (4 + 5) = 11 + 1 ∨ (4 + 5) = 11 + 2 := h; omega)⟩, dvL_lt s7 (by omega), dvS_lt s8 (by omega), s9, s10⟩ f2 (fun q a b h => by have h9 : q = 152 ∨ q = 152 + 4 ∨ q = 152 + 5 ∨ q = 152 + 6 := h; omega), G4.fr f12 (fun q a b h => by have h9 : (q = 4 + 1 ∨ q = 4 + 1 + 1 ∨ q = 4 + 1 + 2 ∨ q = 4 + 1 + 3 ∨ q = 11 + 1 ∨ q = 11 + 2) ∨ (q = 152 ∨ q = 152 + 4 ∨ q = 152 + 5 ∨ q = 152 + 6) := h; omega), XWr.fr ⟨s21, bw1, ⟨hy.fr f1 (fun h => by have h9 : (11) = 4 + 1 ∨ (11) = 4 + 1 + 1 ∨ (11) = 4 + 1 + 2 ∨ (11) = 4 + 1 + 3 ∨ (11) = 11 + 1 ∨ (11) = 11 + 2 := h; omega), n7, n8⟩, n9⟩ f2 (fun q a b h => by have h9 : q = 152 ∨ q = 152 + 4 ∨ q = 152 + 5 ∨ q = 152 + 6 := h; omega), G6.fr f12 (fun q a b h => by have h9 : (q = 4 + 1 ∨ q = 4 + 1 + 1 ∨ q = 4 + 1 + 2 ∨ q = 4 + 1 + 3 ∨ q = 11 + 1 ∨ q = 11 + 2) ∨ (q = 152 ∨ q = 152 + 4 ∨ q = 152 + 5 ∨ q = 152 + 6) := h; omega), G7.fr f12 (fun q a h => by have h9 : (q = 4 + 1 ∨ q = 4 + 1 + 1 ∨ q = 4 + 1 + 2 ∨ q = 4 + 1 + 3 ∨ q = 11 + 1 ∨ q = 11 + 2) ∨ (q = 152 ∨ q = 152 + 4 ∨ q = 152 + 5 ∨ q = 152 + 6) := h; omega), G8.fr f12 (fun q a b h => by have h9 : (q = 4 + 1 ∨ q = 4 + 1 + 1 ∨ q = 4 + 1 + 2 ∨ q = 4 + 1 + 3 ∨ q = 11 + 1 ∨ q = 11 + 2) ∨ (q = 152 ∨ q = 152 + 4 ∨ q = 152 + 5 ∨ q = 152 + 6) := h; omega), G9.fr f12 (fun q a b h => by have h9 : (q = 4 + 1 ∨ q = 4 + 1 + 1 ∨ q = 4 + 1 + 2 ∨ q = 4 + 1 + 3 ∨ q = 11 + 1 ∨ q = 11 + 2) ∨ (q = 152 ∨ q = 152 + 4 ∨ q = 152 + 5 ∨ q = 152 + 6) := h; omega), ⟨q2, q3⟩, ⟨vw, q6, q7⟩, q1, o1, o2, o3, o4, o5, o6, o7, o8, o9, o10, o11, o12, o13, o14⟩
      · have hX := c_VS_writen (E := E) Lay_ok hV s1 s2 s3 s4 s5 s6 hRu hy hy1 hy2 hSl hag o8 o9 o10 (by omega) o3 s10 (zb_lt o6 _) s7 s8 o11 hc hf (pw := pw) (by omega) (by rw [eV, ← hV0]; show min (cnt (fun n => ¬ hld ss sb sz (V n)) ((pcN (bg e) (sz - 12)) + rp)) (pw + 1) ≤ 60 - cnt (fun k => ss k ≠ 0) 60; rw [← hND, hfree]; omega)
        rw [eV, ← hV0] at hX
        refine ⟨_, _, hX, fun g1 hq1 => ?_⟩
        obtain ⟨f1, n1, n2, n3, n4, ⟨sb1, n5, n6⟩, s21, bw1, n7, n8, n9⟩ := hq1
        have N9 := G9.fr f1 (fun q a b h => by have h9 : q = 4 + 1 ∨ q = 4 + 1 + 1 ∨ q = 4 + 1 + 2 ∨ q = 4 + 1 + 3 ∨ q = 11 + 1 ∨ q = 11 + 2 ∨ (14 + 2 ≤ q ∧ q < 14 + 122) := h; omega)
        have N10 := G10.fr f1 (fun q a b h => by have h9 : q = 4 + 1 ∨ q = 4 + 1 + 1 ∨ q = 4 + 1 + 2 ∨ q = 4 + 1 + 3 ∨ q = 11 + 1 ∨ q = 11 + 2 ∨ (14 + 2 ≤ q ∧ q < 14 + 122) := h; omega)
        have N11 := G11.fr f1 (fun q a b h => by have h9 : q = 4 + 1 ∨ q = 4 + 1 + 1 ∨ q = 4 + 1 + 2 ∨ q = 4 + 1 + 3 ∨ q = 11 + 1 ∨ q = 11 + 2 ∨ (14 + 2 ≤ q ∧ q < 14 + 122) := h; omega)
        have N12 := G12.fr f1 (fun q a b h => by have h9 : q = 4 + 1 ∨ q = 4 + 1 + 1 ∨ q = 4 + 1 + 2 ∨ q = 4 + 1 + 3 ∨ q = 11 + 1 ∨ q = 11 + 2 ∨ (14 + 2 ≤ q ∧ q < 14 + 122) := h; omega)
        obtain ⟨N9a, N9b⟩ := N9
        obtain ⟨N10a, N10b⟩ := N10
        obtain ⟨vl1, N11v, N11b⟩ := N11
        have hY := c_M_writea (E := E) (sb0 := sb) N12 N9a N9b N10a N10b N11v o3 o8 o9 (by omega) o5 o6 (by omega) o10 o11 hss o14 o12 hf N11b (by rw [← hV0, ← hND]; exact hA) (by omega) (by rw [← hV0]; rw [← hND]; omega)
        rw [← hV0] at hY
        refine ⟨⟨_, N12⟩, ?_⟩
        refine mn_R.post hY (fun x g2 hq => ?_)
        obtain ⟨q0, f2, q1, ⟨sl2, q2, q3, q4, q5⟩, vw, q6, q7⟩ := hq
        rw [← hND, hpos ND pw (Nat.le_refl _) (by omega)] at q0 q3 q4
        refine ⟨q0, ?_⟩
        have f12 : mn_fr (fun q => (q = 4 + 1 ∨ q = 4 + 1 + 1 ∨ q = 4 + 1 + 2 ∨ q = 4 + 1 + 3 ∨ q = 11 + 1 ∨ q = 11 + 2 ∨ (14 + 2 ≤ q ∧ q < 14 + 122)) ∨ (q = 152 ∨ q = 152 + 4 ∨ q = 152 + 5 ∨ q = 152 + 6)) g g2 := (f1.mo (fun q h => Or.inl h)).tr (f2.mo (fun q h => Or.inr h))
        exact ⟨tl, e, sz, rp, st, m, r, wd, ag, td, om, dn, tb, sm, bg, pi, _, sl2, sb1, G1.fr f12 (fun q a b h => by have h9 : (q = 4 + 1 ∨ q = 4 + 1 + 1 ∨ q = 4 + 1 + 2 ∨ q = 4 + 1 + 3 ∨ q = 11 + 1 ∨ q = 11 + 2 ∨ (14 + 2 ≤ q ∧ q < 14 + 122)) ∨ (q = 152 ∨ q = 152 + 4 ∨ q = 152 + 5 ∨ q = 152 + 6) := h; omega), G2.fr f12 (fun q a b h => by have h9 : (q = 4 + 1 ∨ q = 4 + 1 + 1 ∨ q = 4 + 1 + 2 ∨ q = 4 + 1 + 3 ∨ q = 11 + 1 ∨ q = 11 + 2 ∨ (14 + 2 ≤ q ∧ q < 14 + 122)) ∨ (q = 152 ∨ q = 152 + 4 ∨ q = 152 + 5 ∨ q = 152 + 6) := h; omega), XSt.fr ⟨(pcN (bg e) (sz - 12)), sz - 12, (dvL ln (bg e) (sz - 12) (pcN (bg e) (sz - 12))), (dvS sn bc e (sz - 12) (pcN (bg e) (sz - 12))), bc, ⟨s1.fr f1 (fun h => by have h9 : (4) = 4 + 1 ∨ (4) = 4 + 1 + 1 ∨ (4) = 4 + 1 + 2 ∨ (4) = 4 + 1 + 3 ∨ (4) = 11 + 1 ∨ (4) = 11 + 2 ∨ (14 + 2 ≤ (4) ∧ (4) < 14 + 122) := h; omega), n1, n2, n3, n4, s6.fr f1 (fun h => by have h9 : (4 + 5) = 4 + 1 ∨ (4 + 5) = 4 + 1 + 1 ∨ (4 + 5) = 4 + 1 + 2 ∨ (4 + 5) = 4 + 1 + 3 ∨ (4 + 5) = 11 + 1 ∨ (4 + 5) = 11 + 2 ∨ (14 + 2 ≤ (4 + 5) ∧ (4 + 5) < 14 + 122) := h; omega)⟩, dvL_lt s7 (by omega), dvS_lt s8 (by omega), s9, s10⟩ f2 (fun q a b h => by have h9 : q = 152 ∨ q = 152 + 4 ∨ q = 152 + 5 ∨ q = 152 + 6 := h; omega), G4.fr f12 (fun q a b h => by have h9 : (q = 4 + 1 ∨ q = 4 + 1 + 1 ∨ q = 4 + 1 + 2 ∨ q = 4 + 1 + 3 ∨ q = 11 + 1 ∨ q = 11 + 2 ∨ (14 + 2 ≤ q ∧ q < 14 + 122)) ∨ (q = 152 ∨ q = 152 + 4 ∨ q = 152 + 5 ∨ q = 152 + 6) := h; omega), XWr.fr ⟨s21, bw1, ⟨hy.fr f1 (fun h => by have h9 : (11) = 4 + 1 ∨ (11) = 4 + 1 + 1 ∨ (11) = 4 + 1 + 2 ∨ (11) = 4 + 1 + 3 ∨ (11) = 11 + 1 ∨ (11) = 11 + 2 ∨ (14 + 2 ≤ (11) ∧ (11) < 14 + 122) := h; omega), n7, n8⟩, n9⟩ f2 (fun q a b h => by have h9 : q = 152 ∨ q = 152 + 4 ∨ q = 152 + 5 ∨ q = 152 + 6 := h; omega), SlP.fr n5 f2 (fun q a b h => by have h9 : q = 152 ∨ q = 152 + 4 ∨ q = 152 + 5 ∨ q = 152 + 6 := h; omega), G7.fr f12 (fun q a h => by have h9 : (q = 4 + 1 ∨ q = 4 + 1 + 1 ∨ q = 4 + 1 + 2 ∨ q = 4 + 1 + 3 ∨ q = 11 + 1 ∨ q = 11 + 2 ∨ (14 + 2 ≤ q ∧ q < 14 + 122)) ∨ (q = 152 ∨ q = 152 + 4 ∨ q = 152 + 5 ∨ q = 152 + 6) := h; omega), G8.fr f12 (fun q a b h => by have h9 : (q = 4 + 1 ∨ q = 4 + 1 + 1 ∨ q = 4 + 1 + 2 ∨ q = 4 + 1 + 3 ∨ q = 11 + 1 ∨ q = 11 + 2 ∨ (14 + 2 ≤ q ∧ q < 14 + 122)) ∨ (q = 152 ∨ q = 152 + 4 ∨ q = 152 + 5 ∨ q = 152 + 6) := h; omega), G9.fr f12 (fun q a b h => by have h9 : (q = 4 + 1 ∨ q = 4 + 1 + 1 ∨ q = 4 + 1 + 2 ∨ q = 4 + 1 + 3 ∨ q = 11 + 1 ∨ q = 11 + 2 ∨ (14 + 2 ≤ q ∧ q < 14 + 122)) ∨ (q = 152 ∨ q = 152 + 4 ∨ q = 152 + 5 ∨ q = 152 + 6) := h; omega), ⟨q2, q3⟩, ⟨vw, q6, q7⟩, q1, o1, o2, o3, o4, o5, o6, o7, o8, o9, o10, o11, (fun k j hk hj => (q4 k j hk hj).trans (n6 k j hk hj).symm), wrK_20 o8 _ _ o13, q5⟩
    · have hB : pw ≤ ND := by omega
      by_cases hno : cnt (fun k => ss k = 0) 60 < (if pw < ND then pw + 1 else pw)
      · have hX := c_VS_write_non (E := E) Lay_ok hV s1 s2 s3 s4 s5 s6 hRu hy hy1 hy2 hSl hag o8 o9 o10 (by omega) o3 s10 (zb_lt o6 _) s7 s8 o11 hc hf (pw := pw) (by omega) (by rw [eV, ← hV0]; show 60 - cnt (fun k => ss k ≠ 0) 60 < min (cnt (fun n => ¬ hld ss sb sz (V n)) ((pcN (bg e) (sz - 12)) + rp)) (pw + 1); rw [← hND, hfree]; split at hno <;> omega)
        refine ⟨_, _, hX, fun g1 hq1 => ?_⟩
        obtain ⟨f1, n1, n2, n3, n4, s21, bw1, n7, n8, n9⟩ := hq1
        have N9 := G9.fr f1 (fun q a b h => by have h9 : q = 4 + 1 ∨ q = 4 + 1 + 1 ∨ q = 4 + 1 + 2 ∨ q = 4 + 1 + 3 ∨ q = 11 + 1 ∨ q = 11 + 2 := h; omega)
        have N10 := G10.fr f1 (fun q a b h => by have h9 : q = 4 + 1 ∨ q = 4 + 1 + 1 ∨ q = 4 + 1 + 2 ∨ q = 4 + 1 + 3 ∨ q = 11 + 1 ∨ q = 11 + 2 := h; omega)
        have N11 := G11.fr f1 (fun q a b h => by have h9 : q = 4 + 1 ∨ q = 4 + 1 + 1 ∨ q = 4 + 1 + 2 ∨ q = 4 + 1 + 3 ∨ q = 11 + 1 ∨ q = 11 + 2 := h; omega)
        have N12 := G12.fr f1 (fun q a b h => by have h9 : q = 4 + 1 ∨ q = 4 + 1 + 1 ∨ q = 4 + 1 + 2 ∨ q = 4 + 1 + 3 ∨ q = 11 + 1 ∨ q = 11 + 2 := h; omega)
        obtain ⟨N9a, N9b⟩ := N9
        obtain ⟨N10a, N10b⟩ := N10
        obtain ⟨vl1, N11v, N11b⟩ := N11
        have hY := c_M_writeb_no (E := E) (sb0 := sb) N12 N9a N9b N10a N10b N11v o3 o8 o9 (by omega) o5 o6 (by omega) o10 o11 hss o14 o12 hf N11b (by rw [← hV0, ← hND]; exact hB) (by omega) (by rw [← hV0]; rw [← hND]; exact hno)
        refine ⟨⟨_, N12⟩, ?_⟩
        refine mn_R.post hY (fun x g2 hq => ?_)
        obtain ⟨q0, f2, q1, q2, q3, vw, q6, q7⟩ := hq
        refine ⟨q0, ?_⟩
        have f12 : mn_fr (fun q => (q = 4 + 1 ∨ q = 4 + 1 + 1 ∨ q = 4 + 1 + 2 ∨ q = 4 + 1 + 3 ∨ q = 11 + 1 ∨ q = 11 + 2) ∨ (q = 152 ∨ q = 152 + 4 ∨ q = 152 + 5 ∨ q = 152 + 6)) g g2 := (f1.mo (fun q h => Or.inl h)).tr (f2.mo (fun q h => Or.inr h))
        exact ⟨tl, e, sz, rp, st, m, r, wd, ag, td, om, dn, tb, sm, bg, pi, ss, sl, sb, G1.fr f12 (fun q a b h => by have h9 : (q = 4 + 1 ∨ q = 4 + 1 + 1 ∨ q = 4 + 1 + 2 ∨ q = 4 + 1 + 3 ∨ q = 11 + 1 ∨ q = 11 + 2) ∨ (q = 152 ∨ q = 152 + 4 ∨ q = 152 + 5 ∨ q = 152 + 6) := h; omega), G2.fr f12 (fun q a b h => by have h9 : (q = 4 + 1 ∨ q = 4 + 1 + 1 ∨ q = 4 + 1 + 2 ∨ q = 4 + 1 + 3 ∨ q = 11 + 1 ∨ q = 11 + 2) ∨ (q = 152 ∨ q = 152 + 4 ∨ q = 152 + 5 ∨ q = 152 + 6) := h; omega), XSt.fr ⟨(pcN (bg e) (sz - 12)), sz - 12, (dvL ln (bg e) (sz - 12) (pcN (bg e) (sz - 12))), (dvS sn bc e (sz - 12) (pcN (bg e) (sz - 12))), bc, ⟨s1.fr f1 (fun h => by have h9 : (4) = 4 + 1 ∨ (4) = 4 + 1 + 1 ∨ (4) = 4 + 1 + 2 ∨ (4) = 4 + 1 + 3 ∨ (4) = 11 + 1 ∨ (4) = 11 + 2 := h; omega), n1, n2, n3, n4, s6.fr f1 (fun h => by have h9 : (4 + 5) = 4 + 1 ∨ (4 + 5) = 4 + 1 + 1 ∨ (4 + 5) = 4 + 1 + 2 ∨ (4 + 5) = 4 + 1 + 3 ∨ (4 + 5) = 11 + 1 ∨ (4 + 5) = 11 + 2 := h; omega)⟩, dvL_lt s7 (by omega), dvS_lt s8 (by omega), s9, s10⟩ f2 (fun q a b h => by have h9 : q = 152 ∨ q = 152 + 4 ∨ q = 152 + 5 ∨ q = 152 + 6 := h; omega), G4.fr f12 (fun q a b h => by have h9 : (q = 4 + 1 ∨ q = 4 + 1 + 1 ∨ q = 4 + 1 + 2 ∨ q = 4 + 1 + 3 ∨ q = 11 + 1 ∨ q = 11 + 2) ∨ (q = 152 ∨ q = 152 + 4 ∨ q = 152 + 5 ∨ q = 152 + 6) := h; omega), XWr.fr ⟨s21, bw1, ⟨hy.fr f1 (fun h => by have h9 : (11) = 4 + 1 ∨ (11) = 4 + 1 + 1 ∨ (11) = 4 + 1 + 2 ∨ (11) = 4 + 1 + 3 ∨ (11) = 11 + 1 ∨ (11) = 11 + 2 := h; omega), n7, n8⟩, n9⟩ f2 (fun q a b h => by have h9 : q = 152 ∨ q = 152 + 4 ∨ q = 152 + 5 ∨ q = 152 + 6 := h; omega), G6.fr f12 (fun q a b h => by have h9 : (q = 4 + 1 ∨ q = 4 + 1 + 1 ∨ q = 4 + 1 + 2 ∨ q = 4 + 1 + 3 ∨ q = 11 + 1 ∨ q = 11 + 2) ∨ (q = 152 ∨ q = 152 + 4 ∨ q = 152 + 5 ∨ q = 152 + 6) := h; omega), G7.fr f12 (fun q a h => by have h9 : (q = 4 + 1 ∨ q = 4 + 1 + 1 ∨ q = 4 + 1 + 2 ∨ q = 4 + 1 + 3 ∨ q = 11 + 1 ∨ q = 11 + 2) ∨ (q = 152 ∨ q = 152 + 4 ∨ q = 152 + 5 ∨ q = 152 + 6) := h; omega), G8.fr f12 (fun q a b h => by have h9 : (q = 4 + 1 ∨ q = 4 + 1 + 1 ∨ q = 4 + 1 + 2 ∨ q = 4 + 1 + 3 ∨ q = 11 + 1 ∨ q = 11 + 2) ∨ (q = 152 ∨ q = 152 + 4 ∨ q = 152 + 5 ∨ q = 152 + 6) := h; omega), G9.fr f12 (fun q a b h => by have h9 : (q = 4 + 1 ∨ q = 4 + 1 + 1 ∨ q = 4 + 1 + 2 ∨ q = 4 + 1 + 3 ∨ q = 11 + 1 ∨ q = 11 + 2) ∨ (q = 152 ∨ q = 152 + 4 ∨ q = 152 + 5 ∨ q = 152 + 6) := h; omega), ⟨q2, q3⟩, ⟨vw, q6, q7⟩, q1, o1, o2, o3, o4, o5, o6, o7, o8, o9, o10, o11, o12, o13, o14⟩
      · have hX := c_VS_writen (E := E) Lay_ok hV s1 s2 s3 s4 s5 s6 hRu hy hy1 hy2 hSl hag o8 o9 o10 (by omega) o3 s10 (zb_lt o6 _) s7 s8 o11 hc hf (pw := pw) (by omega) (by rw [eV, ← hV0]; show min (cnt (fun n => ¬ hld ss sb sz (V n)) ((pcN (bg e) (sz - 12)) + rp)) (pw + 1) ≤ 60 - cnt (fun k => ss k ≠ 0) 60; rw [← hND, hfree]; split at hno <;> omega)
        rw [eV, ← hV0] at hX
        refine ⟨_, _, hX, fun g1 hq1 => ?_⟩
        obtain ⟨f1, n1, n2, n3, n4, ⟨sb1, n5, n6⟩, s21, bw1, n7, n8, n9⟩ := hq1
        have N9 := G9.fr f1 (fun q a b h => by have h9 : q = 4 + 1 ∨ q = 4 + 1 + 1 ∨ q = 4 + 1 + 2 ∨ q = 4 + 1 + 3 ∨ q = 11 + 1 ∨ q = 11 + 2 ∨ (14 + 2 ≤ q ∧ q < 14 + 122) := h; omega)
        have N10 := G10.fr f1 (fun q a b h => by have h9 : q = 4 + 1 ∨ q = 4 + 1 + 1 ∨ q = 4 + 1 + 2 ∨ q = 4 + 1 + 3 ∨ q = 11 + 1 ∨ q = 11 + 2 ∨ (14 + 2 ≤ q ∧ q < 14 + 122) := h; omega)
        have N11 := G11.fr f1 (fun q a b h => by have h9 : q = 4 + 1 ∨ q = 4 + 1 + 1 ∨ q = 4 + 1 + 2 ∨ q = 4 + 1 + 3 ∨ q = 11 + 1 ∨ q = 11 + 2 ∨ (14 + 2 ≤ q ∧ q < 14 + 122) := h; omega)
        have N12 := G12.fr f1 (fun q a b h => by have h9 : q = 4 + 1 ∨ q = 4 + 1 + 1 ∨ q = 4 + 1 + 2 ∨ q = 4 + 1 + 3 ∨ q = 11 + 1 ∨ q = 11 + 2 ∨ (14 + 2 ≤ q ∧ q < 14 + 122) := h; omega)
        obtain ⟨N9a, N9b⟩ := N9
        obtain ⟨N10a, N10b⟩ := N10
        obtain ⟨vl1, N11v, N11b⟩ := N11
        have hY := c_M_writeb (E := E) (sb0 := sb) N12 N9a N9b N10a N10b N11v o3 o8 o9 (by omega) o5 o6 (by omega) o10 o11 hss o14 o12 hf N11b (by rw [← hV0, ← hND]; exact hB) (by omega) (by rw [← hV0]; rw [← hND]; omega)
        rw [← hV0] at hY
        refine ⟨⟨_, N12⟩, ?_⟩
        refine mn_R.post hY (fun x g2 hq => ?_)
        obtain ⟨q0, f2, q1, ⟨sl2, q2, q3, q4, q5⟩, vw, q6, q7⟩ := hq
        refine ⟨q0, ?_⟩
        have f12 : mn_fr (fun q => (q = 4 + 1 ∨ q = 4 + 1 + 1 ∨ q = 4 + 1 + 2 ∨ q = 4 + 1 + 3 ∨ q = 11 + 1 ∨ q = 11 + 2 ∨ (14 + 2 ≤ q ∧ q < 14 + 122)) ∨ (q = 152 ∨ q = 152 + 4 ∨ q = 152 + 5 ∨ q = 152 + 6)) g g2 := (f1.mo (fun q h => Or.inl h)).tr (f2.mo (fun q h => Or.inr h))
        exact ⟨tl, e, sz, rp, st, m, r, wd, ag, td, om, dn, tb, sm, bg, pi, _, sl2, sb1, G1.fr f12 (fun q a b h => by have h9 : (q = 4 + 1 ∨ q = 4 + 1 + 1 ∨ q = 4 + 1 + 2 ∨ q = 4 + 1 + 3 ∨ q = 11 + 1 ∨ q = 11 + 2 ∨ (14 + 2 ≤ q ∧ q < 14 + 122)) ∨ (q = 152 ∨ q = 152 + 4 ∨ q = 152 + 5 ∨ q = 152 + 6) := h; omega), G2.fr f12 (fun q a b h => by have h9 : (q = 4 + 1 ∨ q = 4 + 1 + 1 ∨ q = 4 + 1 + 2 ∨ q = 4 + 1 + 3 ∨ q = 11 + 1 ∨ q = 11 + 2 ∨ (14 + 2 ≤ q ∧ q < 14 + 122)) ∨ (q = 152 ∨ q = 152 + 4 ∨ q = 152 + 5 ∨ q = 152 + 6) := h; omega), XSt.fr ⟨(pcN (bg e) (sz - 12)), sz - 12, (dvL ln (bg e) (sz - 12) (pcN (bg e) (sz - 12))), (dvS sn bc e (sz - 12) (pcN (bg e) (sz - 12))), bc, ⟨s1.fr f1 (fun h => by have h9 : (4) = 4 + 1 ∨ (4) = 4 + 1 + 1 ∨ (4) = 4 + 1 + 2 ∨ (4) = 4 + 1 + 3 ∨ (4) = 11 + 1 ∨ (4) = 11 + 2 ∨ (14 + 2 ≤ (4) ∧ (4) < 14 + 122) := h; omega), n1, n2, n3, n4, s6.fr f1 (fun h => by have h9 : (4 + 5) = 4 + 1 ∨ (4 + 5) = 4 + 1 + 1 ∨ (4 + 5) = 4 + 1 + 2 ∨ (4 + 5) = 4 + 1 + 3 ∨ (4 + 5) = 11 + 1 ∨ (4 + 5) = 11 + 2 ∨ (14 + 2 ≤ (4 + 5) ∧ (4 + 5) < 14 + 122) := h; omega)⟩, dvL_lt s7 (by omega), dvS_lt s8 (by omega), s9, s10⟩ f2 (fun q a b h => by have h9 : q = 152 ∨ q = 152 + 4 ∨ q = 152 + 5 ∨ q = 152 + 6 := h; omega), G4.fr f12 (fun q a b h => by have h9 : (q = 4 + 1 ∨ q = 4 + 1 + 1 ∨ q = 4 + 1 + 2 ∨ q = 4 + 1 + 3 ∨ q = 11 + 1 ∨ q = 11 + 2 ∨ (14 + 2 ≤ q ∧ q < 14 + 122)) ∨ (q = 152 ∨ q = 152 + 4 ∨ q = 152 + 5 ∨ q = 152 + 6) := h; omega), XWr.fr ⟨s21, bw1, ⟨hy.fr f1 (fun h => by have h9 : (11) = 4 + 1 ∨ (11) = 4 + 1 + 1 ∨ (11) = 4 + 1 + 2 ∨ (11) = 4 + 1 + 3 ∨ (11) = 11 + 1 ∨ (11) = 11 + 2 ∨ (14 + 2 ≤ (11) ∧ (11) < 14 + 122) := h; omega), n7, n8⟩, n9⟩ f2 (fun q a b h => by have h9 : q = 152 ∨ q = 152 + 4 ∨ q = 152 + 5 ∨ q = 152 + 6 := h; omega), SlP.fr n5 f2 (fun q a b h => by have h9 : q = 152 ∨ q = 152 + 4 ∨ q = 152 + 5 ∨ q = 152 + 6 := h; omega), G7.fr f12 (fun q a h => by have h9 : (q = 4 + 1 ∨ q = 4 + 1 + 1 ∨ q = 4 + 1 + 2 ∨ q = 4 + 1 + 3 ∨ q = 11 + 1 ∨ q = 11 + 2 ∨ (14 + 2 ≤ q ∧ q < 14 + 122)) ∨ (q = 152 ∨ q = 152 + 4 ∨ q = 152 + 5 ∨ q = 152 + 6) := h; omega), G8.fr f12 (fun q a b h => by have h9 : (q = 4 + 1 ∨ q = 4 + 1 + 1 ∨ q = 4 + 1 + 2 ∨ q = 4 + 1 + 3 ∨ q = 11 + 1 ∨ q = 11 + 2 ∨ (14 + 2 ≤ q ∧ q < 14 + 122)) ∨ (q = 152 ∨ q = 152 + 4 ∨ q = 152 + 5 ∨ q = 152 + 6) := h; omega), G9.fr f12 (fun q a b h => by have h9 : (q = 4 + 1 ∨ q = 4 + 1 + 1 ∨ q = 4 + 1 + 2 ∨ q = 4 + 1 + 3 ∨ q = 11 + 1 ∨ q = 11 + 2 ∨ (14 + 2 ≤ q ∧ q < 14 + 122)) ∨ (q = 152 ∨ q = 152 + 4 ∨ q = 152 + 5 ∨ q = 152 + 6) := h; omega), ⟨q2, q3⟩, ⟨vw, q6, q7⟩, q1, o1, o2, o3, o4, o5, o6, o7, o8, o9, o10, o11, (fun k j hk hj => (q4 k j hk hj).trans (n6 k j hk hj).symm), wrK_20 o8 _ _ o13, q5⟩
  · obtain rfl : x = -1 := hx.elim (fun q => i32_m1 q hx1) (fun q => absurd (Int32.lt_of_lt_of_le (show (60 : Int32) < nI 61 by decide) q) hx2)
    clear hx hx1 hx2
    by_cases hno : cnt (fun k => ss k = 0) 60 < ND
    · have hX := c_VS_write_nom (E := E) Lay_ok hV s1 s2 s3 s4 s5 s6 hRu hy hy1 hy2 hSl hag o8 o9 o10 (by omega) o3 s10 (zb_lt o6 _) s7 s8 o11 hc hf (pw := 60) (by omega) rfl (by rw [eV, ← hV0]; show 60 - cnt (fun k => ss k ≠ 0) 60 < min (cnt (fun n => ¬ hld ss sb sz (V n)) ((pcN (bg e) (sz - 12)) + rp)) (60 + 1); rw [← hND, hfree]; omega)
      refine ⟨_, _, hX, fun g1 hq1 => ?_⟩
      obtain ⟨f1, n1, n2, n3, n4, s21, bw1, n7, n8, n9⟩ := hq1
      have N9 := G9.fr f1 (fun q a b h => by have h9 : q = 4 + 1 ∨ q = 4 + 1 + 1 ∨ q = 4 + 1 + 2 ∨ q = 4 + 1 + 3 ∨ q = 11 + 1 ∨ q = 11 + 2 := h; omega)
      have N10 := G10.fr f1 (fun q a b h => by have h9 : q = 4 + 1 ∨ q = 4 + 1 + 1 ∨ q = 4 + 1 + 2 ∨ q = 4 + 1 + 3 ∨ q = 11 + 1 ∨ q = 11 + 2 := h; omega)
      have N11 := G11.fr f1 (fun q a b h => by have h9 : q = 4 + 1 ∨ q = 4 + 1 + 1 ∨ q = 4 + 1 + 2 ∨ q = 4 + 1 + 3 ∨ q = 11 + 1 ∨ q = 11 + 2 := h; omega)
      have N12 := G12.fr f1 (fun q a b h => by have h9 : q = 4 + 1 ∨ q = 4 + 1 + 1 ∨ q = 4 + 1 + 2 ∨ q = 4 + 1 + 3 ∨ q = 11 + 1 ∨ q = 11 + 2 := h; omega)
      obtain ⟨N9a, N9b⟩ := N9
      obtain ⟨N10a, N10b⟩ := N10
      obtain ⟨vl1, N11v, N11b⟩ := N11
      have hY := c_M_writem_no (E := E) (sb0 := sb) N12 N9a N9b N10a N10b N11v o3 o8 o9 (by omega) o5 o6 (by omega) o10 o11 hss o14 o12 hf N11b  (by rw [← hV0]; rw [← hND]; exact hno)
      refine ⟨⟨_, N12⟩, ?_⟩
      refine mn_R.post hY (fun x g2 hq => ?_)
      obtain ⟨q0, f2, q1, q2, q3, vw, q6, q7⟩ := hq
      refine ⟨q0, ?_⟩
      have f12 : mn_fr (fun q => (q = 4 + 1 ∨ q = 4 + 1 + 1 ∨ q = 4 + 1 + 2 ∨ q = 4 + 1 + 3 ∨ q = 11 + 1 ∨ q = 11 + 2) ∨ (q = 152 ∨ q = 152 + 4 ∨ q = 152 + 5 ∨ q = 152 + 6)) g g2 := (f1.mo (fun q h => Or.inl h)).tr (f2.mo (fun q h => Or.inr h))
      exact ⟨tl, e, sz, rp, st, m, r, wd, ag, td, om, dn, tb, sm, bg, pi, ss, sl, sb, G1.fr f12 (fun q a b h => by have h9 : (q = 4 + 1 ∨ q = 4 + 1 + 1 ∨ q = 4 + 1 + 2 ∨ q = 4 + 1 + 3 ∨ q = 11 + 1 ∨ q = 11 + 2) ∨ (q = 152 ∨ q = 152 + 4 ∨ q = 152 + 5 ∨ q = 152 + 6) := h; omega), G2.fr f12 (fun q a b h => by have h9 : (q = 4 + 1 ∨ q = 4 + 1 + 1 ∨ q = 4 + 1 + 2 ∨ q = 4 + 1 + 3 ∨ q = 11 + 1 ∨ q = 11 + 2) ∨ (q = 152 ∨ q = 152 + 4 ∨ q = 152 + 5 ∨ q = 152 + 6) := h; omega), XSt.fr ⟨(pcN (bg e) (sz - 12)), sz - 12, (dvL ln (bg e) (sz - 12) (pcN (bg e) (sz - 12))), (dvS sn bc e (sz - 12) (pcN (bg e) (sz - 12))), bc, ⟨s1.fr f1 (fun h => by have h9 : (4) = 4 + 1 ∨ (4) = 4 + 1 + 1 ∨ (4) = 4 + 1 + 2 ∨ (4) = 4 + 1 + 3 ∨ (4) = 11 + 1 ∨ (4) = 11 + 2 := h; omega), n1, n2, n3, n4, s6.fr f1 (fun h => by have h9 : (4 + 5) = 4 + 1 ∨ (4 + 5) = 4 + 1 + 1 ∨ (4 + 5) = 4 + 1 + 2 ∨ (4 + 5) = 4 + 1 + 3 ∨ (4 + 5) = 11 + 1 ∨ (4 + 5) = 11 + 2 := h; omega)⟩, dvL_lt s7 (by omega), dvS_lt s8 (by omega), s9, s10⟩ f2 (fun q a b h => by have h9 : q = 152 ∨ q = 152 + 4 ∨ q = 152 + 5 ∨ q = 152 + 6 := h; omega), G4.fr f12 (fun q a b h => by have h9 : (q = 4 + 1 ∨ q = 4 + 1 + 1 ∨ q = 4 + 1 + 2 ∨ q = 4 + 1 + 3 ∨ q = 11 + 1 ∨ q = 11 + 2) ∨ (q = 152 ∨ q = 152 + 4 ∨ q = 152 + 5 ∨ q = 152 + 6) := h; omega), XWr.fr ⟨s21, bw1, ⟨hy.fr f1 (fun h => by have h9 : (11) = 4 + 1 ∨ (11) = 4 + 1 + 1 ∨ (11) = 4 + 1 + 2 ∨ (11) = 4 + 1 + 3 ∨ (11) = 11 + 1 ∨ (11) = 11 + 2 := h; omega), n7, n8⟩, n9⟩ f2 (fun q a b h => by have h9 : q = 152 ∨ q = 152 + 4 ∨ q = 152 + 5 ∨ q = 152 + 6 := h; omega), G6.fr f12 (fun q a b h => by have h9 : (q = 4 + 1 ∨ q = 4 + 1 + 1 ∨ q = 4 + 1 + 2 ∨ q = 4 + 1 + 3 ∨ q = 11 + 1 ∨ q = 11 + 2) ∨ (q = 152 ∨ q = 152 + 4 ∨ q = 152 + 5 ∨ q = 152 + 6) := h; omega), G7.fr f12 (fun q a h => by have h9 : (q = 4 + 1 ∨ q = 4 + 1 + 1 ∨ q = 4 + 1 + 2 ∨ q = 4 + 1 + 3 ∨ q = 11 + 1 ∨ q = 11 + 2) ∨ (q = 152 ∨ q = 152 + 4 ∨ q = 152 + 5 ∨ q = 152 + 6) := h; omega), G8.fr f12 (fun q a b h => by have h9 : (q = 4 + 1 ∨ q = 4 + 1 + 1 ∨ q = 4 + 1 + 2 ∨ q = 4 + 1 + 3 ∨ q = 11 + 1 ∨ q = 11 + 2) ∨ (q = 152 ∨ q = 152 + 4 ∨ q = 152 + 5 ∨ q = 152 + 6) := h; omega), G9.fr f12 (fun q a b h => by have h9 : (q = 4 + 1 ∨ q = 4 + 1 + 1 ∨ q = 4 + 1 + 2 ∨ q = 4 + 1 + 3 ∨ q = 11 + 1 ∨ q = 11 + 2) ∨ (q = 152 ∨ q = 152 + 4 ∨ q = 152 + 5 ∨ q = 152 + 6) := h; omega), ⟨q2, q3⟩, ⟨vw, q6, q7⟩, q1, o1, o2, o3, o4, o5, o6, o7, o8, o9, o10, o11, o12, o13, o14⟩
    · have hX := c_VS_writem (E := E) Lay_ok hV s1 s2 s3 s4 s5 s6 hRu hy hy1 hy2 hSl hag o8 o9 o10 (by omega) o3 s10 (zb_lt o6 _) s7 s8 o11 hc hf (pw := 60) (by omega) rfl (by rw [eV, ← hV0]; show min (cnt (fun n => ¬ hld ss sb sz (V n)) ((pcN (bg e) (sz - 12)) + rp)) (60 + 1) ≤ 60 - cnt (fun k => ss k ≠ 0) 60; rw [← hND, hfree]; omega)
      rw [eV, ← hV0] at hX
      refine ⟨_, _, hX, fun g1 hq1 => ?_⟩
      obtain ⟨f1, n1, n2, n3, n4, ⟨sb1, n5, n6⟩, s21, bw1, n7, n8, n9⟩ := hq1
      have N9 := G9.fr f1 (fun q a b h => by have h9 : q = 4 + 1 ∨ q = 4 + 1 + 1 ∨ q = 4 + 1 + 2 ∨ q = 4 + 1 + 3 ∨ q = 11 + 1 ∨ q = 11 + 2 ∨ (14 + 2 ≤ q ∧ q < 14 + 122) := h; omega)
      have N10 := G10.fr f1 (fun q a b h => by have h9 : q = 4 + 1 ∨ q = 4 + 1 + 1 ∨ q = 4 + 1 + 2 ∨ q = 4 + 1 + 3 ∨ q = 11 + 1 ∨ q = 11 + 2 ∨ (14 + 2 ≤ q ∧ q < 14 + 122) := h; omega)
      have N11 := G11.fr f1 (fun q a b h => by have h9 : q = 4 + 1 ∨ q = 4 + 1 + 1 ∨ q = 4 + 1 + 2 ∨ q = 4 + 1 + 3 ∨ q = 11 + 1 ∨ q = 11 + 2 ∨ (14 + 2 ≤ q ∧ q < 14 + 122) := h; omega)
      have N12 := G12.fr f1 (fun q a b h => by have h9 : q = 4 + 1 ∨ q = 4 + 1 + 1 ∨ q = 4 + 1 + 2 ∨ q = 4 + 1 + 3 ∨ q = 11 + 1 ∨ q = 11 + 2 ∨ (14 + 2 ≤ q ∧ q < 14 + 122) := h; omega)
      obtain ⟨N9a, N9b⟩ := N9
      obtain ⟨N10a, N10b⟩ := N10
      obtain ⟨vl1, N11v, N11b⟩ := N11
      have hY := c_M_writem (E := E) (sb0 := sb) N12 N9a N9b N10a N10b N11v o3 o8 o9 (by omega) o5 o6 (by omega) o10 o11 hss o14 o12 hf N11b  (by rw [← hV0]; rw [← hND]; omega)
      rw [← hV0] at hY
      refine ⟨⟨_, N12⟩, ?_⟩
      refine mn_R.post hY (fun x g2 hq => ?_)
      obtain ⟨q0, f2, q1, ⟨sl2, q2, q3, q4, q5⟩, vw, q6, q7⟩ := hq
      rw [← hND, hpos ND 60 (Nat.le_refl _) (by omega)] at q0 q3 q4
      refine ⟨q0, ?_⟩
      have f12 : mn_fr (fun q => (q = 4 + 1 ∨ q = 4 + 1 + 1 ∨ q = 4 + 1 + 2 ∨ q = 4 + 1 + 3 ∨ q = 11 + 1 ∨ q = 11 + 2 ∨ (14 + 2 ≤ q ∧ q < 14 + 122)) ∨ (q = 152 ∨ q = 152 + 4 ∨ q = 152 + 5 ∨ q = 152 + 6)) g g2 := (f1.mo (fun q h => Or.inl h)).tr (f2.mo (fun q h => Or.inr h))
      exact ⟨tl, e, sz, rp, st, m, r, wd, ag, td, om, dn, tb, sm, bg, pi, _, sl2, sb1, G1.fr f12 (fun q a b h => by have h9 : (q = 4 + 1 ∨ q = 4 + 1 + 1 ∨ q = 4 + 1 + 2 ∨ q = 4 + 1 + 3 ∨ q = 11 + 1 ∨ q = 11 + 2 ∨ (14 + 2 ≤ q ∧ q < 14 + 122)) ∨ (q = 152 ∨ q = 152 + 4 ∨ q = 152 + 5 ∨ q = 152 + 6) := h; omega), G2.fr f12 (fun q a b h => by have h9 : (q = 4 + 1 ∨ q = 4 + 1 + 1 ∨ q = 4 + 1 + 2 ∨ q = 4 + 1 + 3 ∨ q = 11 + 1 ∨ q = 11 + 2 ∨ (14 + 2 ≤ q ∧ q < 14 + 122)) ∨ (q = 152 ∨ q = 152 + 4 ∨ q = 152 + 5 ∨ q = 152 + 6) := h; omega), XSt.fr ⟨(pcN (bg e) (sz - 12)), sz - 12, (dvL ln (bg e) (sz - 12) (pcN (bg e) (sz - 12))), (dvS sn bc e (sz - 12) (pcN (bg e) (sz - 12))), bc, ⟨s1.fr f1 (fun h => by have h9 : (4) = 4 + 1 ∨ (4) = 4 + 1 + 1 ∨ (4) = 4 + 1 + 2 ∨ (4) = 4 + 1 + 3 ∨ (4) = 11 + 1 ∨ (4) = 11 + 2 ∨ (14 + 2 ≤ (4) ∧ (4) < 14 + 122) := h; omega), n1, n2, n3, n4, s6.fr f1 (fun h => by have h9 : (4 + 5) = 4 + 1 ∨ (4 + 5) = 4 + 1 + 1 ∨ (4 + 5) = 4 + 1 + 2 ∨ (4 + 5) = 4 + 1 + 3 ∨ (4 + 5) = 11 + 1 ∨ (4 + 5) = 11 + 2 ∨ (14 + 2 ≤ (4 + 5) ∧ (4 + 5) < 14 + 122) := h; omega)⟩, dvL_lt s7 (by omega), dvS_lt s8 (by omega), s9, s10⟩ f2 (fun q a b h => by have h9 : q = 152 ∨ q = 152 + 4 ∨ q = 152 + 5 ∨ q = 152 + 6 := h; omega), G4.fr f12 (fun q a b h => by have h9 : (q = 4 + 1 ∨ q = 4 + 1 + 1 ∨ q = 4 + 1 + 2 ∨ q = 4 + 1 + 3 ∨ q = 11 + 1 ∨ q = 11 + 2 ∨ (14 + 2 ≤ q ∧ q < 14 + 122)) ∨ (q = 152 ∨ q = 152 + 4 ∨ q = 152 + 5 ∨ q = 152 + 6) := h; omega), XWr.fr ⟨s21, bw1, ⟨hy.fr f1 (fun h => by have h9 : (11) = 4 + 1 ∨ (11) = 4 + 1 + 1 ∨ (11) = 4 + 1 + 2 ∨ (11) = 4 + 1 + 3 ∨ (11) = 11 + 1 ∨ (11) = 11 + 2 ∨ (14 + 2 ≤ (11) ∧ (11) < 14 + 122) := h; omega), n7, n8⟩, n9⟩ f2 (fun q a b h => by have h9 : q = 152 ∨ q = 152 + 4 ∨ q = 152 + 5 ∨ q = 152 + 6 := h; omega), SlP.fr n5 f2 (fun q a b h => by have h9 : q = 152 ∨ q = 152 + 4 ∨ q = 152 + 5 ∨ q = 152 + 6 := h; omega), G7.fr f12 (fun q a h => by have h9 : (q = 4 + 1 ∨ q = 4 + 1 + 1 ∨ q = 4 + 1 + 2 ∨ q = 4 + 1 + 3 ∨ q = 11 + 1 ∨ q = 11 + 2 ∨ (14 + 2 ≤ q ∧ q < 14 + 122)) ∨ (q = 152 ∨ q = 152 + 4 ∨ q = 152 + 5 ∨ q = 152 + 6) := h; omega), G8.fr f12 (fun q a b h => by have h9 : (q = 4 + 1 ∨ q = 4 + 1 + 1 ∨ q = 4 + 1 + 2 ∨ q = 4 + 1 + 3 ∨ q = 11 + 1 ∨ q = 11 + 2 ∨ (14 + 2 ≤ q ∧ q < 14 + 122)) ∨ (q = 152 ∨ q = 152 + 4 ∨ q = 152 + 5 ∨ q = 152 + 6) := h; omega), G9.fr f12 (fun q a b h => by have h9 : (q = 4 + 1 ∨ q = 4 + 1 + 1 ∨ q = 4 + 1 + 2 ∨ q = 4 + 1 + 3 ∨ q = 11 + 1 ∨ q = 11 + 2 ∨ (14 + 2 ≤ q ∧ q < 14 + 122)) ∨ (q = 152 ∨ q = 152 + 4 ∨ q = 152 + 5 ∨ q = 152 + 6) := h; omega), ⟨q2, q3⟩, ⟨vw, q6, q7⟩, q1, o1, o2, o3, o4, o5, o6, o7, o8, o9, o10, o11, (fun k j hk hj => (q4 k j hk hj).trans (n6 k j hk hj).symm), wrK_20 o8 _ _ o13, q5⟩
