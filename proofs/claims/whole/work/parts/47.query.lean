theorem hi5 {x : Int32} {N : Int32} {K : Nat} (h : x < 0 ∨ nI K ≤ x) (hN : N < nI K) : x < 0 ∨ N < x := h.elim Or.inl (fun q => Or.inr (Int32.lt_of_lt_of_le hN q))
theorem hi5t {x : Int32} {N : Int32} {K : Nat} (h : x < 0 ∨ nI K ≤ x) (hN : N < nI K) : x.toInt < 0 ∨ N.toInt < x.toInt := (hi5 h hN).elim (fun q => Or.inl (by rw [Int32.lt_iff_toInt_lt] at q; exact q)) (fun q => Or.inr (by rw [Int32.lt_iff_toInt_lt] at q; exact q))
theorem hd_ext {b b' : Nat → Nat} {s : Nat} (h : ∀ j, j < s → b j = b' j) : hdN b s ↔ hdN b' s := by
  by_cases h12 : 12 ≤ s
  · unfold hdN
    rw [h 0 (by omega), h 1 (by omega), h 10 (by omega), h 11 (by omega), h 4 (by omega), h 5 (by omega), h 3 (by omega), suN_ext (b := b) (a := 0) (a' := 0) (n := 10) (fun i hi => h (0 + i) (by omega))]
  · exact ⟨fun q => absurd q.1 h12, fun q => absurd q.1 h12⟩
theorem pr_volumes {E : mn_En} {g : mn_H} (h : Cpl g) : PRg E MVS_volumes MMo_volumes 2 42 2 40 [] g := by
  obtain ⟨tl, e, sz, rp, st, m, r, wd, ag, td, om, dn, tb, sm, bg, pi, ss, sl, sb, hC⟩ := h
  have hC' := hC
  obtain ⟨hV, ⟨hta, htb⟩, ⟨cm, cw, ln, sn, bc, ⟨s1, s2, s3, s4, s5, s6⟩, s7, s8, s9, s10⟩, hRu, ⟨w0, c, ⟨hy, hy1, hy2⟩, hc⟩, hSl, hRd, hMTa, ⟨hSm, hBg⟩, ⟨hSo, hSs⟩, ⟨vl, hVl, hvl⟩, hM, o1, o2, o3, o4, o5, o6, o7, o8, o9, o10, o11, o12, o13, o14⟩ := hC'
  by_cases hf : 60 < pcN (bg e) (sz - 12) + rp
  · exact PRq hC (c_VS_volumes_full Lay_ok hV s1 s2 s3 s4 s5 s6 hRu o8 o9 o10 (by omega) hf) (c_M_volumes_full hM hBg o3 o8 o9 o10 (by omega) hf)
  · exact PRq hC (c_VS_volumes Lay_ok hV s1 s2 s3 s4 s5 s6 hRu o8 o9 o10 (by omega) (by omega)) (c_M_volumes hM hBg o3 o8 o9 o10 (by omega) (by omega))
theorem pr_slot {E : mn_En} {g : mn_H} (h : Cpl g) (x : Int32) (y : Int32) : PRg E MVS_slot MMo_slot 4 88 3 68 [(1, .int x), (2, .int y)] g := by
  obtain ⟨tl, e, sz, rp, st, m, r, wd, ag, td, om, dn, tb, sm, bg, pi, ss, sl, sb, hC⟩ := h
  have hC' := hC
  obtain ⟨hV, ⟨hta, htb⟩, ⟨cm, cw, ln, sn, bc, ⟨s1, s2, s3, s4, s5, s6⟩, s7, s8, s9, s10⟩, hRu, ⟨w0, c, ⟨hy, hy1, hy2⟩, hc⟩, hSl, hRd, hMTa, ⟨hSm, hBg⟩, ⟨hSo, hSs⟩, ⟨vl, hVl, hvl⟩, hM, o1, o2, o3, o4, o5, o6, o7, o8, o9, o10, o11, o12, o13, o14⟩ := hC'
  have ha : ∀ k, k < 60 → ∀ j, j < ss k → sbS sl k j = sb k j := fun k hk j hj => o12 k j hk hj
  rcases i32_rng x 60 (by decide) with ⟨k, hk, rfl⟩ | hx
  · have e0 : stN (sbS sl k) (ss k) = stN (sb k) (ss k) := stN_ext (ha k hk)
    have eh : hdN (sbS sl k) (ss k) ↔ hdN (sb k) (ss k) := hd_ext (ha k hk)
    rcases i32_rng y 6 (by decide) with ⟨i, hi, rfl⟩ | hy
    · match i, hi with
      | 0, _ => exact PRq hC (c_VS_slot0 Lay_ok hV hSl hk) (by rw [← e0]; exact c_M_slot0 hM hSo hSs hSl.2.2.2.2.2.1 o13 o14 hk)
      | 5, _ =>
        by_cases h0 : ss k = 0
        · exact PRq hC (c_VS_slot5e Lay_ok hV hSl hk h0) (c_M_slot5e hM hSo hSs hSl.2.2.2.2.2.1 o13 o14 hk h0)
        · exact PRq hC (c_VS_slot5 Lay_ok hV hSl hk h0) (c_M_slot5 hM hSo hSs hSl.2.2.2.2.2.1 o13 o14 hk h0)
      | 1, _ =>
        by_cases h0 : hdN (sb k) (ss k)
        · exact PRq hC (c_VS_slot1y Lay_ok hV hSl hk h0) (by rw [← ha k hk 2 (by have := h0.1; omega)]; exact c_M_slot1y hM hSo hSs hSl.2.2.2.2.2.1 o13 o14 hk (eh.mpr h0))
        · exact PRq hC (c_VS_slot1n Lay_ok hV hSl hk h0) (c_M_slot1n hM hSo hSs hSl.2.2.2.2.2.1 o13 o14 hk (fun q => h0 (eh.mp q)))
      | 2, _ =>
        by_cases h0 : hdN (sb k) (ss k)
        · exact PRq hC (c_VS_slot2y Lay_ok hV hSl hk h0) (by rw [← ha k hk 3 (by have := h0.1; omega)]; exact c_M_slot2y hM hSo hSs hSl.2.2.2.2.2.1 o13 o14 hk (eh.mpr h0))
        · exact PRq hC (c_VS_slot2n Lay_ok hV hSl hk h0) (c_M_slot2n hM hSo hSs hSl.2.2.2.2.2.1 o13 o14 hk (fun q => h0 (eh.mp q)))
      | 3, _ =>
        by_cases h0 : hdN (sb k) (ss k)
        · exact PRq hC (c_VS_slot3y Lay_ok hV hSl hk h0) (by rw [← ha k hk 4 (by have := h0.1; omega)]; exact c_M_slot3y hM hSo hSs hSl.2.2.2.2.2.1 o13 o14 hk (eh.mpr h0))
        · exact PRq hC (c_VS_slot3n Lay_ok hV hSl hk h0) (c_M_slot3n hM hSo hSs hSl.2.2.2.2.2.1 o13 o14 hk (fun q => h0 (eh.mp q)))
      | 4, _ =>
        by_cases h0 : hdN (sb k) (ss k)
        · exact PRq hC (c_VS_slot4y Lay_ok hV hSl hk h0) (by rw [← ha k hk 5 (by have := h0.1; omega)]; exact c_M_slot4y hM hSo hSs hSl.2.2.2.2.2.1 o13 o14 hk (eh.mpr h0))
        · exact PRq hC (c_VS_slot4n Lay_ok hV hSl hk h0) (c_M_slot4n hM hSo hSs hSl.2.2.2.2.2.1 o13 o14 hk (fun q => h0 (eh.mp q)))
      | i + 6, hi => exact absurd hi (by omega)
    · exact PRq hC (c_VS_slot_what Lay_ok hV hSl hk (hi5 hy (by decide))) (c_M_slot_what hM hk (hi5 hy (by decide)))
  · exact PRq hC (c_VS_slot_bad Lay_ok hV hSl hx) (c_M_slot_bad hM hx)
theorem pr_count {E : mn_En} {g : mn_H} (h : Cpl g) (x : Int32) : PRg E MVS_count MMo_count 5 111 3 68 [(1, .int x)] g := by
  obtain ⟨tl, e, sz, rp, st, m, r, wd, ag, td, om, dn, tb, sm, bg, pi, ss, sl, sb, hC⟩ := h
  have hC' := hC
  obtain ⟨hV, ⟨hta, htb⟩, ⟨cm, cw, ln, sn, bc, ⟨s1, s2, s3, s4, s5, s6⟩, s7, s8, s9, s10⟩, hRu, ⟨w0, c, ⟨hy, hy1, hy2⟩, hc⟩, hSl, hRd, hMTa, ⟨hSm, hBg⟩, ⟨hSo, hSs⟩, ⟨vl, hVl, hvl⟩, hM, o1, o2, o3, o4, o5, o6, o7, o8, o9, o10, o11, o12, o13, o14⟩ := hC'
  have ha : ∀ k, k < 60 → stN (sbS sl k) (ss k) = stN (sb k) (ss k) := fun k hk => stN_ext (fun j hj => o12 k j hk hj)
  have hss := hSl.2.2.2.2.2.1
  rcases i32_rng x 9 (by decide) with ⟨i, hi, rfl⟩ | hx
  · match i, hi with
    | 0, _ => exact PRq hC (c_VS_count0 Lay_ok hV s1 s2 s3 s4 s5 s6) (c_M_count0 hM)
    | 1, _ => exact PRq hC (c_VS_count1 Lay_ok hV s1 s2 s3 s4 s5 s6) (c_M_count1 hM hBg o3)
    | 2, _ => exact PRq hC (c_VS_count2 Lay_ok hV hta htb) (c_M_count2 hM)
    | 3, _ => exact PRq hC (c_VS_count3 Lay_ok hV hSl) (by rw [show cnt (fun k => ss k ≠ 0) 60 = 60 - cnt (fun k => ss k = 0) 60 by have q := cnt_neg (fun k => ss k = 0) 60; show cnt (fun k => ¬ ss k = 0) 60 = _; omega]; exact c_M_count3 hM hSs hss)
    | 4, _ => exact PRq hC (c_VS_count4 Lay_ok hV hSl) (by rw [← cnt_ext (P := fun k => stN (sbS sl k) (ss k) = 1) (fun k hk => by show stN (sbS sl k) (ss k) = 1 ↔ _; rw [ha k hk])]; exact c_M_count4 hM hSo hSs hSl.2.2.2.2.2.1 o13 o14)
    | 5, _ => exact PRq hC (c_VS_count5 Lay_ok hV hSl) (by rw [← cnt_ext (P := fun k => stN (sbS sl k) (ss k) = 2) (fun k hk => by show stN (sbS sl k) (ss k) = 2 ↔ _; rw [ha k hk])]; exact c_M_count5 hM hSo hSs hSl.2.2.2.2.2.1 o13 o14)
    | 6, _ => exact PRq hC (c_VS_count6 Lay_ok hV hRu) (c_M_count6 hM)
    | 7, _ => exact PRq hC (c_VS_count7 Lay_ok hV hRu) (c_M_count7 hM)
    | 8, _ => exact PRq hC (c_VS_count8 Lay_ok hV hRu) (c_M_count8 hM)
    | i + 9, hi => exact absurd hi (by omega)
  · exact PRq hC (c_VS_count_bad Lay_ok hV (hi5t (N := 8) hx (by decide))) (c_M_count_bad hM (hi5t (N := 8) hx (by decide)))
theorem pr_found {E : mn_En} {g : mn_H} (h : Cpl g) (x : Int32) : PRg E MVS_found MMo_found 1 22 1 22 [(1, .int x)] g := by
  obtain ⟨tl, e, sz, rp, st, m, r, wd, ag, td, om, dn, tb, sm, bg, pi, ss, sl, sb, hC⟩ := h
  have hC' := hC
  obtain ⟨hV, ⟨hta, htb⟩, ⟨cm, cw, ln, sn, bc, ⟨s1, s2, s3, s4, s5, s6⟩, s7, s8, s9, s10⟩, hRu, ⟨w0, c, ⟨hy, hy1, hy2⟩, hc⟩, hSl, hRd, hMTa, ⟨hSm, hBg⟩, ⟨hSo, hSs⟩, ⟨vl, hVl, hvl⟩, hM, o1, o2, o3, o4, o5, o6, o7, o8, o9, o10, o11, o12, o13, o14⟩ := hC'
  obtain ⟨rsz, rrp, pr, ma, rm, rw, td1, rpb, rln, rsn, pl, oA, oL, oW, pm, ml, mt, mg, tA, tL, tO, lk, bb, gr, ⟨⟨r1, r2, r3, r4, r5, r6⟩, ⟨er, en, eu, ev, hE⟩, p1, p2, p3, p4⟩, ⟨m7, m8, m9, m10, m11, m12, m13, m14, m15, m16⟩, ⟨b1, b2, b3, b4, b5, b6, b7, b8, b9, b10, b11, b12, b13⟩, hok⟩ := hRd
  rcases i32_rng x 6 (by decide) with ⟨i, hi, rfl⟩ | hx
  · rcases hok with ⟨rfl, rfl⟩ | ⟨rfl, rfl, rfl, rfl, rfl, rfl, rfl, rfl, k1, k2, k3, k4, k5, k6, k7, k8, k9, k10, k11⟩
    · exact PRq hC (c_VS_found_none Lay_ok hV r1 (by omega)) (c_M_found_none hM (by omega))
    · match i, hi with
      | i + 6, hi => exact absurd hi (by omega)
      | 0, _ => exact PRq hC (c_VS_found0 Lay_ok hV r1 r2 r3 r4 r5 r6 p1 p2 p3 p4 k10) (c_M_found0 hM)
      | 1, _ => exact PRq hC (c_VS_found1 Lay_ok hV r1 r2 r3 r4 r5 r6 p1 p2 p3 p4 k10) (c_M_found1 hM)
      | 2, _ => exact PRq hC (c_VS_found2 Lay_ok hV r1 r2 r3 r4 r5 r6 p1 p2 p3 p4 k10) (c_M_found2 hM)
      | 3, _ => exact PRq hC (c_VS_found3 Lay_ok hV r1 r2 r3 r4 r5 r6 p1 p2 p3 p4 k10) (c_M_found3 hM)
      | 4, _ => exact PRq hC (c_VS_found4 Lay_ok hV r1 r2 r3 r4 r5 r6 p1 p2 p3 p4 k10) (c_M_found4 hM)
      | 5, _ => exact PRq hC (c_VS_found5 Lay_ok hV r1 r2 r3 r4 r5 r6 p1 p2 p3 p4 k10) (c_M_found5 hM)
  · exact PRq hC (c_VS_found_bad Lay_ok hV (hi5 hx (by decide))) (c_M_found_bad hM (hi5 hx (by decide)))
theorem pr_where {E : mn_En} {g : mn_H} (h : Cpl g) (x : Int32) : PRg E MVS_where MMo_where 1 21 1 22 [(1, .int x)] g := by
  obtain ⟨tl, e, sz, rp, st, m, r, wd, ag, td, om, dn, tb, sm, bg, pi, ss, sl, sb, hC⟩ := h
  have hC' := hC
  obtain ⟨hV, ⟨hta, htb⟩, ⟨cm, cw, ln, sn, bc, ⟨s1, s2, s3, s4, s5, s6⟩, s7, s8, s9, s10⟩, hRu, ⟨w0, c, ⟨hy, hy1, hy2⟩, hc⟩, hSl, hRd, hMTa, ⟨hSm, hBg⟩, ⟨hSo, hSs⟩, ⟨vl, hVl, hvl⟩, hM, o1, o2, o3, o4, o5, o6, o7, o8, o9, o10, o11, o12, o13, o14⟩ := hC'
  obtain ⟨rsz, rrp, pr, ma, rm, rw, td1, rpb, rln, rsn, pl, oA, oL, oW, pm, ml, mt, mg, tA, tL, tO, lk, bb, gr, ⟨⟨r1, r2, r3, r4, r5, r6⟩, ⟨er, en, eu, ev, hE⟩, p1, p2, p3, p4⟩, ⟨m7, m8, m9, m10, m11, m12, m13, m14, m15, m16⟩, ⟨b1, b2, b3, b4, b5, b6, b7, b8, b9, b10, b11, b12, b13⟩, hok⟩ := hRd
  rcases hok with ⟨rfl, rfl⟩ | ⟨rfl, rfl, rfl, rfl, rfl, rfl, rfl, rfl, k1, k2, k3, k4, k5, k6, k7, k8, k9, k10, k11⟩
  · exact PRq hC (c_VS_where_none Lay_ok hV r1) (c_M_where_none hM)
  · rcases i32_rng x (m + r) (by omega) with ⟨i, hi, rfl⟩ | hx
    · exact PRq hC (c_VS_where Lay_ok hV r1 r2 r3 r4 r5 r6 k2 k3 hi) (by rw [k7 i hi]; exact c_M_where hM m7 k1 k2 k3 hi)
    · exact PRq hC (c_VS_where_bad Lay_ok hV r1 r2 r3 r4 r5 r6 hx) (c_M_where_bad hM k1 k2 k3 hx)
theorem pr_got {E : mn_En} {g : mn_H} (h : Cpl g) (x : Int32) : PRg E MVS_got MMo_got 3 66 1 22 [(1, .int x)] g := by
  obtain ⟨tl, e, sz, rp, st, m, r, wd, ag, td, om, dn, tb, sm, bg, pi, ss, sl, sb, hC⟩ := h
  have hC' := hC
  obtain ⟨hV, ⟨hta, htb⟩, ⟨cm, cw, ln, sn, bc, ⟨s1, s2, s3, s4, s5, s6⟩, s7, s8, s9, s10⟩, hRu, ⟨w0, c, ⟨hy, hy1, hy2⟩, hc⟩, hSl, hRd, hMTa, ⟨hSm, hBg⟩, ⟨hSo, hSs⟩, ⟨vl, hVl, hvl⟩, hM, o1, o2, o3, o4, o5, o6, o7, o8, o9, o10, o11, o12, o13, o14⟩ := hC'
  obtain ⟨rsz, rrp, pr, ma, rm, rw, td1, rpb, rln, rsn, pl, oA, oL, oW, pm, ml, mt, mg, tA, tL, tO, lk, bb, gr, ⟨⟨r1, r2, r3, r4, r5, r6⟩, ⟨er, en, eu, ev, hE⟩, p1, p2, p3, p4⟩, ⟨m7, m8, m9, m10, m11, m12, m13, m14, m15, m16⟩, ⟨b1, b2, b3, b4, b5, b6, b7, b8, b9, b10, b11, b12, b13⟩, hok⟩ := hRd
  rcases hok with ⟨rfl, rfl⟩ | ⟨rfl, rfl, rfl, rfl, rfl, rfl, rfl, rfl, k1, k2, k3, k4, k5, k6, k7, k8, k9, k10, k11⟩
  · exact PRq hC (c_VS_got_none Lay_ok hV r1) (c_M_got_none hM)
  · rcases i32_rng x (m * (wd - 12)) (by omega) with ⟨i, hi, rfl⟩ | hx
    · have ek := kN_ext (p := i) (w := wd - 12) (by omega) k8
      by_cases hk : kN rln m (wd - 12) i
      · exact PRq hC (c_VS_got_y Lay_ok hV r1 r2 r3 r4 r5 r6 k2 (by omega) k6 b6 hi hk) (by rw [k9 i hk]; exact c_M_got_y hM m7 m8 m10 k2 k4 k5 b8 (fun j q _ h => b7 j q h) k1 k6 hi (ek.mp hk))
      · exact PRq hC (c_VS_got_n Lay_ok hV r1 r2 r3 r4 r5 r6 k2 (by omega) k6 b6 hi hk) (c_M_got_n hM m7 m8 m10 k2 k4 k5 b8 (fun j q _ h => b7 j q h) k1 k6 hi (fun q => hk (ek.mpr q)))
    · exact PRq hC (c_VS_got_bad Lay_ok hV r1 r2 r3 r4 r5 r6 hx) (c_M_got_bad hM k1 k6 k4 k5 hx)
theorem pr_opened {E : mn_En} {g : mn_H} (h : Cpl g) (x : Int32) (y : Int32) : PRg E MVS_opened MMo_opened 1 22 1 22 [(1, .int x), (2, .int y)] g := by
  obtain ⟨tl, e, sz, rp, st, m, r, wd, ag, td, om, dn, tb, sm, bg, pi, ss, sl, sb, hC⟩ := h
  have hC' := hC
  obtain ⟨hV, ⟨hta, htb⟩, ⟨cm, cw, ln, sn, bc, ⟨s1, s2, s3, s4, s5, s6⟩, s7, s8, s9, s10⟩, hRu, ⟨w0, c, ⟨hy, hy1, hy2⟩, hc⟩, hSl, hRd, hMTa, ⟨hSm, hBg⟩, ⟨hSo, hSs⟩, ⟨vl, hVl, hvl⟩, hM, o1, o2, o3, o4, o5, o6, o7, o8, o9, o10, o11, o12, o13, o14⟩ := hC'
  obtain ⟨rsz, rrp, pr, ma, rm, rw, td1, rpb, rln, rsn, pl, oA, oL, oW, pm, ml, mt, mg, tA, tL, tO, lk, bb, gr, ⟨⟨r1, r2, r3, r4, r5, r6⟩, ⟨er, en, eu, ev, hE⟩, p1, p2, p3, p4⟩, ⟨m7, m8, m9, m10, m11, m12, m13, m14, m15, m16⟩, ⟨b1, b2, b3, b4, b5, b6, b7, b8, b9, b10, b11, b12, b13⟩, hok⟩ := hRd
  rcases hok with ⟨rfl, rfl⟩ | ⟨rfl, rfl, rfl, rfl, rfl, rfl, rfl, rfl, k1, k2, k3, k4, k5, k6, k7, k8, k9, k10, k11⟩
  · refine PRq hC (c_VS_opened_bad Lay_ok hV p1 p2 p3 p4 (by omega) ?_) (c_M_opened_none hM)
    by_cases q : x < 0
    · exact Or.inl q
    · exact Or.inr (Int32.not_lt.mp q)
  · rcases i32_rng x td (by omega) with ⟨i, hi, rfl⟩ | hx
    · rcases i32_rng y 3 (by decide) with ⟨n, hn, rfl⟩ | hy
      · match n, hn with
        | 0, _ => exact PRq hC (c_VS_opened0 Lay_ok hV p1 p2 p3 p4 k10 hi) (by rw [(k11 i hi).1]; exact c_M_opened0 hM m11 m12 m13 k10 hi)
        | 1, _ => exact PRq hC (c_VS_opened1 Lay_ok hV p1 p2 p3 p4 k10 hi) (by rw [(k11 i hi).2.1]; exact c_M_opened1 hM m11 m12 m13 k10 hi)
        | 2, _ => exact PRq hC (c_VS_opened2 Lay_ok hV p1 p2 p3 p4 k10 hi) (by rw [(k11 i hi).2.2]; exact c_M_opened2 hM m11 m12 m13 k10 hi)
        | n + 3, hn => exact absurd hn (by omega)
      · exact PRq hC (c_VS_opened_what Lay_ok hV p1 p2 p3 p4 k10 hi (hi5t (N := 2) hy (by decide))) (c_M_opened_what hM k10 hi (hi5 hy (by decide)))
    · exact PRq hC (c_VS_opened_bad Lay_ok hV p1 p2 p3 p4 k10 hx) (c_M_opened_bad hM k10 hx)
