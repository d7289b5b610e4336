set_option maxRecDepth 100000 in
theorem c_M_rd5_no {E : mn_En} {g : mn_H} {mo tl e sz rp st m r wd ag td om : Nat} {sl ml mt mg tA tL tO lk bb gr : Nat → Nat} {pm : Nat → Option Nat} (hM : mn_at g mo (.inr (11, [.int 0, .ref (mo + 1), .int (nI tl), .ref (mo + 2), .ref (mo + 3), .int (nI e), .int (nI sz), .int (nI rp), .int (nI st), .ref (mo + 4), .ref (mo + 5), .ref (mo + 6), .int 1, .int (nI m), .int (nI r), .int (nI wd), .int (nI ag), .ref (mo + 7), .ref (mo + 8), .ref (mo + 9), .ref (mo + 10), .int (nI td), .int (nI om), .ref (mo + 11), .ref (mo + 12), .ref (mo + 13), .ref (mo + 14), .ref (mo + 15), .ref (mo + 16)]))) (hSo : mn_at g (mo + 4) (.inl (0, 4800, .inl (fun j => nI (sl j))))) (hPm : mn_at g (mo + 7) (.inl (0, 64, .inl (fun j => onI (pm j))))) (hMl : mn_at g (mo + 8) (.inl (0, 64, .inl (fun j => nI (ml j))))) (hMt : mn_at g (mo + 9) (.inl (0, 64, .inl (fun j => nI (mt j))))) (hMg : mn_at g (mo + 10) (.inl (0, 4800, .inl (fun j => nI (mg j))))) (hTA : mn_at g (mo + 11) (.inl (0, 40, .inl (fun j => nI (tA j))))) (hTL : mn_at g (mo + 12) (.inl (0, 40, .inl (fun j => nI (tL j))))) (hTO : mn_at g (mo + 13) (.inl (0, 40, .inl (fun j => nI (tO j))))) (hLk : mn_at g (mo + 14) (.inl (0, 60, .inl (fun j => nI (lk j))))) (hBy : mn_at g (mo + 15) (.inl (0, 3, .inl (fun j => nI (bb j))))) (hGr : mn_at g (mo + 16) (.inl (0, 12, .inl (fun j => nI (gr j))))) {x : Nat} (hm : m ≤ 60) (hr3 : r ≤ 3) (hwd : 20 ≤ wd) (hwd2 : wd ≤ 80) (hmw : m * (wd - 12) ≤ 4080) (hpa : ∀ j q, pm j = some q → q < 1000) (hml : ∀ j, ml j < 256) (hmt : ∀ j, mt j < 256) (hmg : ∀ j, mg j < 256) (hgr : ∀ j, gr j < 256) (hslb : ∀ j, sl j < 256) (hlk : ∀ j, lk j < 60) (hbb : ∀ j, bb j < 3) {ms : Nat} (hms : cnt (fun j => pm j = none) m = ms) (hno : cnt (fun i => pm (m + i) ≠ none) r < ms) : mn_R E MMo_read 4 97 0 0 373 [(0, .ref mo), (1, .int (nI x))] [] g (fun v g' => v = some (.int (nI (cnt (fun j => pm j ≠ none) m))) ∧ mn_fr (fun q => q = mo ∨ (mo + 7 ≤ q ∧ q ≤ mo + 16)) g g' ∧ ∃ (lk9 bb9 A9 L9 W9 : Nat → Nat) (t9 : Nat), mn_at g' mo (.inr (11, [.int 0, .ref (mo + 1), .int (nI tl), .ref (mo + 2), .ref (mo + 3), .int (nI e), .int (nI sz), .int (nI rp), .int (nI st), .ref (mo + 4), .ref (mo + 5), .ref (mo + 6), .int 1, .int (nI m), .int (nI r), .int (nI wd), .int 0, .ref (mo + 7), .ref (mo + 8), .ref (mo + 9), .ref (mo + 10), .int (nI t9), .int (nI (smW W9 t9)), .ref (mo + 11), .ref (mo + 12), .ref (mo + 13), .ref (mo + 14), .ref (mo + 15), .ref (mo + 16)])) ∧ mn_at g' (mo + 7) (.inl (0, 64, .inl (fun j => onI (pm j)))) ∧ mn_at g' (mo + 8) (.inl (0, 64, .inl (fun j => nI (ml j)))) ∧ mn_at g' (mo + 9) (.inl (0, 64, .inl (fun j => nI (mt j)))) ∧ mn_at g' (mo + 10) (.inl (0, 4800, .inl (fun j => nI (mg j)))) ∧ mn_at g' (mo + 11) (.inl (0, 40, .inl (fun j => nI (A9 j)))) ∧ mn_at g' (mo + 12) (.inl (0, 40, .inl (fun j => nI (L9 j)))) ∧ mn_at g' (mo + 13) (.inl (0, 40, .inl (fun j => nI (W9 j)))) ∧ mn_at g' (mo + 14) (.inl (0, 60, .inl (fun j => nI (lk9 j)))) ∧ mn_at g' (mo + 15) (.inl (0, 3, .inl (fun j => nI (bb9 j)))) ∧ mn_at g' (mo + 16) (.inl (0, 12, .inl (fun j => nI (gr j)))) ∧ (∀ j, lk9 j < 60) ∧ (∀ j, bb9 j < 3) ∧ t9 ≤ 40 ∧ Tld mg (eL pm ml) mt m (wd - 12) t9 A9 L9 W9 ∧ (t9 = 40 ∨ tsq mg (eL pm ml) mt m (wd - 12) t9 = none)) := by
  refine mn_aload_n 0 dMo_read_373 rfl rfl ?_
  refine mn_callV (d' := 3) (w' := 74) (nc' := 0) (ns' := 0) (As := []) (st := []) okMo_makeAgain lMo_153 dMo_read_374 hM rfl rfl rfl rfl (Nat.le_of_ble_eq_true rfl) (Nat.le_of_ble_eq_true rfl) (by decide) (c_M_mka_no hM hPm hLk hBy hm (fun j q _ h => hpa j q h) hr3 hlk hbb hms hno) (fun v g1 hq => ?_)
  obtain ⟨rfl, fg1, hM1, hPm1, lk9, bb9, hLk1, hBy1, hlk9, hbb9⟩ := hq
  show mn_R E MMo_read 4 97 _ _ 377 [(0, .ref mo), (1, .int (nI x))] [] g1 _
  have hSo_g1 := hSo.fr fg1 (fun h => by have h9 : (mo + 4) = mo ∨ (mo + 4) = mo + 14 ∨ (mo + 4) = mo + 15 := h; omega)
  have hMl_g1 := hMl.fr fg1 (fun h => by have h9 : (mo + 8) = mo ∨ (mo + 8) = mo + 14 ∨ (mo + 8) = mo + 15 := h; omega)
  have hMt_g1 := hMt.fr fg1 (fun h => by have h9 : (mo + 9) = mo ∨ (mo + 9) = mo + 14 ∨ (mo + 9) = mo + 15 := h; omega)
  have hMg_g1 := hMg.fr fg1 (fun h => by have h9 : (mo + 10) = mo ∨ (mo + 10) = mo + 14 ∨ (mo + 10) = mo + 15 := h; omega)
  have hTA_g1 := hTA.fr fg1 (fun h => by have h9 : (mo + 11) = mo ∨ (mo + 11) = mo + 14 ∨ (mo + 11) = mo + 15 := h; omega)
  have hTL_g1 := hTL.fr fg1 (fun h => by have h9 : (mo + 12) = mo ∨ (mo + 12) = mo + 14 ∨ (mo + 12) = mo + 15 := h; omega)
  have hTO_g1 := hTO.fr fg1 (fun h => by have h9 : (mo + 13) = mo ∨ (mo + 13) = mo + 14 ∨ (mo + 13) = mo + 15 := h; omega)
  have hGr_g1 := hGr.fr fg1 (fun h => by have h9 : (mo + 16) = mo ∨ (mo + 16) = mo + 14 ∨ (mo + 16) = mo + 15 := h; omega)
  refine mn_aload_n 0 dMo_read_377 rfl rfl ?_
  refine mn_callV (d' := 3) (w' := 69) (nc' := 0) (ns' := 0) (As := []) (st := []) okMo_open lMo_156 dMo_read_378 hM1 rfl rfl rfl rfl (Nat.le_of_ble_eq_true rfl) (Nat.le_of_ble_eq_true rfl) (by decide) (c_M_open hM1 hPm1 hMl_g1 hMt_g1 hMg_g1 hTA_g1 hTL_g1 hTO_g1 hm hwd hwd2 hml (fun j q _ h => hpa j q h) hmw hmg hmt) (fun v g2 hq => ?_)
  obtain ⟨rfl, fg2, t9, A9, L9, W9, hM2, hA2, hL2, hW2, ht9, hT9, hE9⟩ := hq
  show mn_R E MMo_read 4 97 _ _ 381 [(0, .ref mo), (1, .int (nI x))] [] g2 _
  have hSo_g2 := hSo_g1.fr fg2 (fun h => by have h9 : (mo + 4) = mo ∨ (mo + 4) = mo + 11 ∨ (mo + 4) = mo + 12 ∨ (mo + 4) = mo + 13 := h; omega)
  have hPm1_g2 := hPm1.fr fg2 (fun h => by have h9 : (mo + 7) = mo ∨ (mo + 7) = mo + 11 ∨ (mo + 7) = mo + 12 ∨ (mo + 7) = mo + 13 := h; omega)
  have hMl_g2 := hMl_g1.fr fg2 (fun h => by have h9 : (mo + 8) = mo ∨ (mo + 8) = mo + 11 ∨ (mo + 8) = mo + 12 ∨ (mo + 8) = mo + 13 := h; omega)
  have hMt_g2 := hMt_g1.fr fg2 (fun h => by have h9 : (mo + 9) = mo ∨ (mo + 9) = mo + 11 ∨ (mo + 9) = mo + 12 ∨ (mo + 9) = mo + 13 := h; omega)
  have hMg_g2 := hMg_g1.fr fg2 (fun h => by have h9 : (mo + 10) = mo ∨ (mo + 10) = mo + 11 ∨ (mo + 10) = mo + 12 ∨ (mo + 10) = mo + 13 := h; omega)
  have hLk1_g2 := hLk1.fr fg2 (fun h => by have h9 : (mo + 14) = mo ∨ (mo + 14) = mo + 11 ∨ (mo + 14) = mo + 12 ∨ (mo + 14) = mo + 13 := h; omega)
  have hBy1_g2 := hBy1.fr fg2 (fun h => by have h9 : (mo + 15) = mo ∨ (mo + 15) = mo + 11 ∨ (mo + 15) = mo + 12 ∨ (mo + 15) = mo + 13 := h; omega)
  have hGr_g2 := hGr_g1.fr fg2 (fun h => by have h9 : (mo + 16) = mo ∨ (mo + 16) = mo + 11 ∨ (mo + 16) = mo + 12 ∨ (mo + 16) = mo + 13 := h; omega)
  refine mn_iconst (v := 0) dMo_read_381 (by decide) ?_
  refine mn_istore_n (ls' := [(0, .ref mo), (1, .int (nI x)), (2, .int 0)]) dMo_read_382 rfl (by decide) rfl ?_
  refine mn_iconst (v := 0) dMo_read_383 (by decide) ?_
  refine mn_istore_n (ls' := [(0, .ref mo), (1, .int (nI x)), (2, .int 0), (3, .int 0)]) dMo_read_384 rfl (by decide) rfl ?_
  refine mn_R.post (c_M_rd6 hM2 hPm1_g2 hm (fun j q _ h => hpa j q h) (m + 1) 0 (by omega) (by omega)) (fun v g' hq => ?_)
  obtain ⟨hv, rfl⟩ := hq
  exact ⟨hv, ((mn_fr.rf.tr (fg1.mo (fun q h => by have h9 : q = mo ∨ q = mo + 14 ∨ q = mo + 15 := h; show q = mo ∨ (mo + 7 ≤ q ∧ q ≤ mo + 16); omega))).tr (fg2.mo (fun q h => by have h9 : q = mo ∨ q = mo + 11 ∨ q = mo + 12 ∨ q = mo + 13 := h; show q = mo ∨ (mo + 7 ≤ q ∧ q ≤ mo + 16); omega))), lk9, bb9, A9, L9, W9, t9, hM2, hPm1_g2, hMl_g2, hMt_g2, hMg_g2, hA2, hL2, hW2, hLk1_g2, hBy1_g2, hGr_g2, hlk9, hbb9, ht9, hT9, hE9⟩
set_option maxRecDepth 100000 in
theorem c_M_rd5_0 {E : mn_En} {g : mn_H} {mo tl e sz rp st m r wd ag td om : Nat} {sl ml mt mg tA tL tO lk bb gr : Nat → Nat} {pm : Nat → Option Nat} (hM : mn_at g mo (.inr (11, [.int 0, .ref (mo + 1), .int (nI tl), .ref (mo + 2), .ref (mo + 3), .int (nI e), .int (nI sz), .int (nI rp), .int (nI st), .ref (mo + 4), .ref (mo + 5), .ref (mo + 6), .int 1, .int (nI m), .int (nI r), .int (nI wd), .int (nI ag), .ref (mo + 7), .ref (mo + 8), .ref (mo + 9), .ref (mo + 10), .int (nI td), .int (nI om), .ref (mo + 11), .ref (mo + 12), .ref (mo + 13), .ref (mo + 14), .ref (mo + 15), .ref (mo + 16)]))) (hSo : mn_at g (mo + 4) (.inl (0, 4800, .inl (fun j => nI (sl j))))) (hPm : mn_at g (mo + 7) (.inl (0, 64, .inl (fun j => onI (pm j))))) (hMl : mn_at g (mo + 8) (.inl (0, 64, .inl (fun j => nI (ml j))))) (hMt : mn_at g (mo + 9) (.inl (0, 64, .inl (fun j => nI (mt j))))) (hMg : mn_at g (mo + 10) (.inl (0, 4800, .inl (fun j => nI (mg j))))) (hTA : mn_at g (mo + 11) (.inl (0, 40, .inl (fun j => nI (tA j))))) (hTL : mn_at g (mo + 12) (.inl (0, 40, .inl (fun j => nI (tL j))))) (hTO : mn_at g (mo + 13) (.inl (0, 40, .inl (fun j => nI (tO j))))) (hLk : mn_at g (mo + 14) (.inl (0, 60, .inl (fun j => nI (lk j))))) (hBy : mn_at g (mo + 15) (.inl (0, 3, .inl (fun j => nI (bb j))))) (hGr : mn_at g (mo + 16) (.inl (0, 12, .inl (fun j => nI (gr j))))) {x : Nat} (hm : m ≤ 60) (hr3 : r ≤ 3) (hwd : 20 ≤ wd) (hwd2 : wd ≤ 80) (hmw : m * (wd - 12) ≤ 4080) (hpa : ∀ j q, pm j = some q → q < 1000) (hml : ∀ j, ml j < 256) (hmt : ∀ j, mt j < 256) (hmg : ∀ j, mg j < 256) (hgr : ∀ j, gr j < 256) (hslb : ∀ j, sl j < 256) (hlk : ∀ j, lk j < 60) (hbb : ∀ j, bb j < 3) (hms : cnt (fun j => pm j = none) m = 0) : mn_R E MMo_read 4 97 0 0 373 [(0, .ref mo), (1, .int (nI x))] [] g (fun v g' => v = some (.int (nI (cnt (fun j => pm j ≠ none) m))) ∧ mn_fr (fun q => q = mo ∨ (mo + 7 ≤ q ∧ q ≤ mo + 16)) g g' ∧ ∃ (lk9 bb9 A9 L9 W9 : Nat → Nat) (t9 : Nat), mn_at g' mo (.inr (11, [.int 0, .ref (mo + 1), .int (nI tl), .ref (mo + 2), .ref (mo + 3), .int (nI e), .int (nI sz), .int (nI rp), .int (nI st), .ref (mo + 4), .ref (mo + 5), .ref (mo + 6), .int 1, .int (nI m), .int (nI r), .int (nI wd), .int 0, .ref (mo + 7), .ref (mo + 8), .ref (mo + 9), .ref (mo + 10), .int (nI t9), .int (nI (smW W9 t9)), .ref (mo + 11), .ref (mo + 12), .ref (mo + 13), .ref (mo + 14), .ref (mo + 15), .ref (mo + 16)])) ∧ mn_at g' (mo + 7) (.inl (0, 64, .inl (fun j => onI (pm j)))) ∧ mn_at g' (mo + 8) (.inl (0, 64, .inl (fun j => nI (ml j)))) ∧ mn_at g' (mo + 9) (.inl (0, 64, .inl (fun j => nI (mt j)))) ∧ mn_at g' (mo + 10) (.inl (0, 4800, .inl (fun j => nI (mg j)))) ∧ mn_at g' (mo + 11) (.inl (0, 40, .inl (fun j => nI (A9 j)))) ∧ mn_at g' (mo + 12) (.inl (0, 40, .inl (fun j => nI (L9 j)))) ∧ mn_at g' (mo + 13) (.inl (0, 40, .inl (fun j => nI (W9 j)))) ∧ mn_at g' (mo + 14) (.inl (0, 60, .inl (fun j => nI (lk9 j)))) ∧ mn_at g' (mo + 15) (.inl (0, 3, .inl (fun j => nI (bb9 j)))) ∧ mn_at g' (mo + 16) (.inl (0, 12, .inl (fun j => nI (gr j)))) ∧ (∀ j, lk9 j < 60) ∧ (∀ j, bb9 j < 3) ∧ t9 ≤ 40 ∧ Tld mg (eL pm ml) mt m (wd - 12) t9 A9 L9 W9 ∧ (t9 = 40 ∨ tsq mg (eL pm ml) mt m (wd - 12) t9 = none)) := by
  refine mn_aload_n 0 dMo_read_373 rfl rfl ?_
  refine mn_callV (d' := 3) (w' := 74) (nc' := 0) (ns' := 0) (As := []) (st := []) okMo_makeAgain lMo_153 dMo_read_374 hM rfl rfl rfl rfl (Nat.le_of_ble_eq_true rfl) (Nat.le_of_ble_eq_true rfl) (by decide) (c_M_mka_0 hM hPm hLk hBy hm (fun j q _ h => hpa j q h) hr3 hwd hwd2 hlk hbb hms) (fun v g1 hq => ?_)
  obtain ⟨rfl, fg1, hM1, hPm1, lk9, bb9, hLk1, hBy1, hlk9, hbb9⟩ := hq
  show mn_R E MMo_read 4 97 _ _ 377 [(0, .ref mo), (1, .int (nI x))] [] g1 _
  have hSo_g1 := hSo.fr fg1 (fun h => by have h9 : (mo + 4) = mo ∨ (mo + 4) = mo + 14 ∨ (mo + 4) = mo + 15 := h; omega)
  have hMl_g1 := hMl.fr fg1 (fun h => by have h9 : (mo + 8) = mo ∨ (mo + 8) = mo + 14 ∨ (mo + 8) = mo + 15 := h; omega)
  have hMt_g1 := hMt.fr fg1 (fun h => by have h9 : (mo + 9) = mo ∨ (mo + 9) = mo + 14 ∨ (mo + 9) = mo + 15 := h; omega)
  have hMg_g1 := hMg.fr fg1 (fun h => by have h9 : (mo + 10) = mo ∨ (mo + 10) = mo + 14 ∨ (mo + 10) = mo + 15 := h; omega)
  have hTA_g1 := hTA.fr fg1 (fun h => by have h9 : (mo + 11) = mo ∨ (mo + 11) = mo + 14 ∨ (mo + 11) = mo + 15 := h; omega)
  have hTL_g1 := hTL.fr fg1 (fun h => by have h9 : (mo + 12) = mo ∨ (mo + 12) = mo + 14 ∨ (mo + 12) = mo + 15 := h; omega)
  have hTO_g1 := hTO.fr fg1 (fun h => by have h9 : (mo + 13) = mo ∨ (mo + 13) = mo + 14 ∨ (mo + 13) = mo + 15 := h; omega)
  have hGr_g1 := hGr.fr fg1 (fun h => by have h9 : (mo + 16) = mo ∨ (mo + 16) = mo + 14 ∨ (mo + 16) = mo + 15 := h; omega)
  refine mn_aload_n 0 dMo_read_377 rfl rfl ?_
  refine mn_callV (d' := 3) (w' := 69) (nc' := 0) (ns' := 0) (As := []) (st := []) okMo_open lMo_156 dMo_read_378 hM1 rfl rfl rfl rfl (Nat.le_of_ble_eq_true rfl) (Nat.le_of_ble_eq_true rfl) (by decide) (c_M_open hM1 hPm1 hMl_g1 hMt_g1 hMg_g1 hTA_g1 hTL_g1 hTO_g1 hm hwd hwd2 hml (fun j q _ h => hpa j q h) hmw hmg hmt) (fun v g2 hq => ?_)
  obtain ⟨rfl, fg2, t9, A9, L9, W9, hM2, hA2, hL2, hW2, ht9, hT9, hE9⟩ := hq
  show mn_R E MMo_read 4 97 _ _ 381 [(0, .ref mo), (1, .int (nI x))] [] g2 _
  have hSo_g2 := hSo_g1.fr fg2 (fun h => by have h9 : (mo + 4) = mo ∨ (mo + 4) = mo + 11 ∨ (mo + 4) = mo + 12 ∨ (mo + 4) = mo + 13 := h; omega)
  have hPm1_g2 := hPm1.fr fg2 (fun h => by have h9 : (mo + 7) = mo ∨ (mo + 7) = mo + 11 ∨ (mo + 7) = mo + 12 ∨ (mo + 7) = mo + 13 := h; omega)
  have hMl_g2 := hMl_g1.fr fg2 (fun h => by have h9 : (mo + 8) = mo ∨ (mo + 8) = mo + 11 ∨ (mo + 8) = mo + 12 ∨ (mo + 8) = mo + 13 := h; omega)
  have hMt_g2 := hMt_g1.fr fg2 (fun h => by have h9 : (mo + 9) = mo ∨ (mo + 9) = mo + 11 ∨ (mo + 9) = mo + 12 ∨ (mo + 9) = mo + 13 := h; omega)
  have hMg_g2 := hMg_g1.fr fg2 (fun h => by have h9 : (mo + 10) = mo ∨ (mo + 10) = mo + 11 ∨ (mo + 10) = mo + 12 ∨ (mo + 10) = mo + 13 := h; omega)
  have hLk1_g2 := hLk1.fr fg2 (fun h => by have h9 : (mo + 14) = mo ∨ (mo + 14) = mo + 11 ∨ (mo + 14) = mo + 12 ∨ (mo + 14) = mo + 13 := h; omega)
  have hBy1_g2 := hBy1.fr fg2 (fun h => by have h9 : (mo + 15) = mo ∨ (mo + 15) = mo + 11 ∨ (mo + 15) = mo + 12 ∨ (mo + 15) = mo + 13 := h; omega)
  have hGr_g2 := hGr_g1.fr fg2 (fun h => by have h9 : (mo + 16) = mo ∨ (mo + 16) = mo + 11 ∨ (mo + 16) = mo + 12 ∨ (mo + 16) = mo + 13 := h; omega)
  refine mn_iconst (v := 0) dMo_read_381 (by decide) ?_
  refine mn_istore_n (ls' := [(0, .ref mo), (1, .int (nI x)), (2, .int 0)]) dMo_read_382 rfl (by decide) rfl ?_
  refine mn_iconst (v := 0) dMo_read_383 (by decide) ?_
  refine mn_istore_n (ls' := [(0, .ref mo), (1, .int (nI x)), (2, .int 0), (3, .int 0)]) dMo_read_384 rfl (by decide) rfl ?_
  refine mn_R.post (c_M_rd6 hM2 hPm1_g2 hm (fun j q _ h => hpa j q h) (m + 1) 0 (by omega) (by omega)) (fun v g' hq => ?_)
  obtain ⟨hv, rfl⟩ := hq
  exact ⟨hv, ((mn_fr.rf.tr (fg1.mo (fun q h => by have h9 : q = mo ∨ q = mo + 14 ∨ q = mo + 15 := h; show q = mo ∨ (mo + 7 ≤ q ∧ q ≤ mo + 16); omega))).tr (fg2.mo (fun q h => by have h9 : q = mo ∨ q = mo + 11 ∨ q = mo + 12 ∨ q = mo + 13 := h; show q = mo ∨ (mo + 7 ≤ q ∧ q ≤ mo + 16); omega))), lk9, bb9, A9, L9, W9, t9, hM2, hPm1_g2, hMl_g2, hMt_g2, hMg_g2, hA2, hL2, hW2, hLk1_g2, hBy1_g2, hGr_g2, hlk9, hbb9, ht9, hT9, hE9⟩
set_option maxRecDepth 100000 in
theorem c_M_rd5_y {E : mn_En} {g : mn_H} {mo tl e sz rp st m r wd ag td om : Nat} {sl ml mt mg tA tL tO lk bb gr : Nat → Nat} {pm : Nat → Option Nat} (hM : mn_at g mo (.inr (11, [.int 0, .ref (mo + 1), .int (nI tl), .ref (mo + 2), .ref (mo + 3), .int (nI e), .int (nI sz), .int (nI rp), .int (nI st), .ref (mo + 4), .ref (mo + 5), .ref (mo + 6), .int 1, .int (nI m), .int (nI r), .int (nI wd), .int (nI ag), .ref (mo + 7), .ref (mo + 8), .ref (mo + 9), .ref (mo + 10), .int (nI td), .int (nI om), .ref (mo + 11), .ref (mo + 12), .ref (mo + 13), .ref (mo + 14), .ref (mo + 15), .ref (mo + 16)]))) (hSo : mn_at g (mo + 4) (.inl (0, 4800, .inl (fun j => nI (sl j))))) (hPm : mn_at g (mo + 7) (.inl (0, 64, .inl (fun j => onI (pm j))))) (hMl : mn_at g (mo + 8) (.inl (0, 64, .inl (fun j => nI (ml j))))) (hMt : mn_at g (mo + 9) (.inl (0, 64, .inl (fun j => nI (mt j))))) (hMg : mn_at g (mo + 10) (.inl (0, 4800, .inl (fun j => nI (mg j))))) (hTA : mn_at g (mo + 11) (.inl (0, 40, .inl (fun j => nI (tA j))))) (hTL : mn_at g (mo + 12) (.inl (0, 40, .inl (fun j => nI (tL j))))) (hTO : mn_at g (mo + 13) (.inl (0, 40, .inl (fun j => nI (tO j))))) (hLk : mn_at g (mo + 14) (.inl (0, 60, .inl (fun j => nI (lk j))))) (hBy : mn_at g (mo + 15) (.inl (0, 3, .inl (fun j => nI (bb j))))) (hGr : mn_at g (mo + 16) (.inl (0, 12, .inl (fun j => nI (gr j))))) {x ms : Nat} (hm : m ≤ 60) (hr3 : r ≤ 3) (hwd : 20 ≤ wd) (hwd2 : wd ≤ 80) (hmw : m * (wd - 12) ≤ 4080) (hpa : ∀ j q, pm j = some q → q < 1000) (hml : ∀ j, ml j < 256) (hmt : ∀ j, mt j < 256) (hmg : ∀ j, mg j < 256) (hgr : ∀ j, gr j < 256) (hslb : ∀ j, sl j < 256) (hlk : ∀ j, lk j < 60) (hbb : ∀ j, bb j < 3) (hp60 : ∀ j q, j < m + r → pm j = some q → q < 60) (hms : cnt (fun j => pm j = none) m = ms) (hk0 : 0 < ms) (hyes : ms ≤ cnt (fun i => pm (m + i) ≠ none) r) : mn_R E MMo_read 4 97 0 0 373 [(0, .ref mo), (1, .int (nI x))] [] g (fun v g' => v = some (.int (nI (cnt (fun j => tuP pm (unK lk pm m) ms j ≠ none) m))) ∧ mn_fr (fun q => q = mo ∨ (mo + 7 ≤ q ∧ q ≤ mo + 16)) g g' ∧ ∃ (LK BB ml9 mt9 mg9 gr9 A9 L9 W9 : Nat → Nat) (t9 : Nat), LK = unK lk pm m ∧ BB = (byS pm m ms bb r).1 ∧ mn_at g' mo (.inr (11, [.int 0, .ref (mo + 1), .int (nI tl), .ref (mo + 2), .ref (mo + 3), .int (nI e), .int (nI sz), .int (nI rp), .int (nI st), .ref (mo + 4), .ref (mo + 5), .ref (mo + 6), .int 1, .int (nI m), .int (nI r), .int (nI wd), .int (nI ms), .ref (mo + 7), .ref (mo + 8), .ref (mo + 9), .ref (mo + 10), .int (nI t9), .int (nI (smW W9 t9)), .ref (mo + 11), .ref (mo + 12), .ref (mo + 13), .ref (mo + 14), .ref (mo + 15), .ref (mo + 16)])) ∧ mn_at g' (mo + 7) (.inl (0, 64, .inl (fun j => onI ((tuP pm LK ms) j)))) ∧ mn_at g' (mo + 8) (.inl (0, 64, .inl (fun j => nI (ml9 j)))) ∧ mn_at g' (mo + 9) (.inl (0, 64, .inl (fun j => nI (mt9 j)))) ∧ mn_at g' (mo + 10) (.inl (0, 4800, .inl (fun j => nI (mg9 j)))) ∧ mn_at g' (mo + 11) (.inl (0, 40, .inl (fun j => nI (A9 j)))) ∧ mn_at g' (mo + 12) (.inl (0, 40, .inl (fun j => nI (L9 j)))) ∧ mn_at g' (mo + 13) (.inl (0, 40, .inl (fun j => nI (W9 j)))) ∧ mn_at g' (mo + 14) (.inl (0, 60, .inl (fun j => nI (LK j)))) ∧ mn_at g' (mo + 15) (.inl (0, 3, .inl (fun j => nI (BB j)))) ∧ mn_at g' (mo + 16) (.inl (0, 12, .inl (fun j => nI (gr9 j)))) ∧ (∀ j, ml9 j < 256) ∧ (∀ j, mt9 j < 256) ∧ (∀ j, mg9 j < 256) ∧ (∀ j, gr9 j < 256) ∧ ((∀ u, u < ms → ml9 (LK u) = XM BB LK (fun a0 => sl (80 * (pm (m + BB a0)).getD 0 + 6)) (eL pm ml) m ms u) ∧ (∀ n, (∀ u, u < ms → n ≠ LK u) → ml9 n = ml n) ∧ (∀ u, u < ms → mt9 (LK u) = XM BB LK (fun a0 => sl (80 * (pm (m + BB a0)).getD 0 + 7)) (eL pm mt) m ms u) ∧ (∀ n, (∀ u, u < ms → n ≠ LK u) → mt9 n = mt n) ∧ (∀ u, u < ms → ∀ i9, i9 < wd - 12 → mg9 (LK u * (wd - 12) + i9) = XM BB LK (fun a0 => sl (80 * (pm (m + BB a0)).getD 0 + 12 + i9)) (eL pm (fun n0 => mg (n0 * (wd - 12) + i9))) m ms u) ∧ (∀ p, (∀ u, u < ms → ¬ (LK u * (wd - 12) ≤ p ∧ p < LK u * (wd - 12) + (wd - 12))) → mg9 p = mg p)) ∧ t9 ≤ 40 ∧ Tld mg9 (eL (tuP pm LK ms) ml9) mt9 m (wd - 12) t9 A9 L9 W9 ∧ (t9 = 40 ∨ tsq mg9 (eL (tuP pm LK ms) ml9) mt9 m (wd - 12) t9 = none)) := by
  refine mn_aload_n 0 dMo_read_373 rfl rfl ?_
  refine mn_callV (d' := 3) (w' := 74) (nc' := 0) (ns' := 0) (As := []) (st := []) okMo_makeAgain lMo_153 dMo_read_374 hM rfl rfl rfl rfl (Nat.le_of_ble_eq_true rfl) (Nat.le_of_ble_eq_true rfl) (by decide) (c_M_mka hM hSo hPm hMl hMt hMg hLk hBy hGr hm (fun j q _ h => hpa j q h) hr3 hwd hwd2 hmw hlk hbb hslb hml hmt hmg hgr hp60 hms hk0 hyes) (fun v g1 hq => ?_)
  obtain ⟨rfl, fg1, LK, BB, ml9, mt9, mg9, gr9, eLK, eBB, hM1, hPm1, hMl1, hMt1, hMg1, hLk1, hBy1, hGr1, hml9, hmt9, hmg9, hgr9, hspec⟩ := hq
  show mn_R E MMo_read 4 97 _ _ 377 [(0, .ref mo), (1, .int (nI x))] [] g1 _
  have hSo_g1 := hSo.fr fg1 (fun h => by have h9 : (mo + 4) = mo ∨ (mo + 7 ≤ (mo + 4) ∧ (mo + 4) ≤ mo + 10) ∨ (mo + 14 ≤ (mo + 4) ∧ (mo + 4) ≤ mo + 16) := h; omega)
  have hTA_g1 := hTA.fr fg1 (fun h => by have h9 : (mo + 11) = mo ∨ (mo + 7 ≤ (mo + 11) ∧ (mo + 11) ≤ mo + 10) ∨ (mo + 14 ≤ (mo + 11) ∧ (mo + 11) ≤ mo + 16) := h; omega)
  have hTL_g1 := hTL.fr fg1 (fun h => by have h9 : (mo + 12) = mo ∨ (mo + 7 ≤ (mo + 12) ∧ (mo + 12) ≤ mo + 10) ∨ (mo + 14 ≤ (mo + 12) ∧ (mo + 12) ≤ mo + 16) := h; omega)
  have hTO_g1 := hTO.fr fg1 (fun h => by have h9 : (mo + 13) = mo ∨ (mo + 7 ≤ (mo + 13) ∧ (mo + 13) ≤ mo + 10) ∨ (mo + 14 ≤ (mo + 13) ∧ (mo + 13) ≤ mo + 16) := h; omega)
  refine mn_aload_n 0 dMo_read_377 rfl rfl ?_
  refine mn_callV (d' := 3) (w' := 69) (nc' := 0) (ns' := 0) (As := []) (st := []) okMo_open lMo_156 dMo_read_378 hM1 rfl rfl rfl rfl (Nat.le_of_ble_eq_true rfl) (Nat.le_of_ble_eq_true rfl) (by decide) (c_M_open hM1 hPm1 hMl1 hMt1 hMg1 hTA_g1 hTL_g1 hTO_g1 hm hwd hwd2 hml9 (fun j q _ h => tuP_ok hpa _ j q h) hmw hmg9 hmt9) (fun v g2 hq => ?_)
  obtain ⟨rfl, fg2, t9, A9, L9, W9, hM2, hA2, hL2, hW2, ht9, hT9, hE9⟩ := hq
  show mn_R E MMo_read 4 97 _ _ 381 [(0, .ref mo), (1, .int (nI x))] [] g2 _
  have hSo_g2 := hSo_g1.fr fg2 (fun h => by have h9 : (mo + 4) = mo ∨ (mo + 4) = mo + 11 ∨ (mo + 4) = mo + 12 ∨ (mo + 4) = mo + 13 := h; omega)
  have hPm1_g2 := hPm1.fr fg2 (fun h => by have h9 : (mo + 7) = mo ∨ (mo + 7) = mo + 11 ∨ (mo + 7) = mo + 12 ∨ (mo + 7) = mo + 13 := h; omega)
  have hMl1_g2 := hMl1.fr fg2 (fun h => by have h9 : (mo + 8) = mo ∨ (mo + 8) = mo + 11 ∨ (mo + 8) = mo + 12 ∨ (mo + 8) = mo + 13 := h; omega)
  have hMt1_g2 := hMt1.fr fg2 (fun h => by have h9 : (mo + 9) = mo ∨ (mo + 9) = mo + 11 ∨ (mo + 9) = mo + 12 ∨ (mo + 9) = mo + 13 := h; omega)
  have hMg1_g2 := hMg1.fr fg2 (fun h => by have h9 : (mo + 10) = mo ∨ (mo + 10) = mo + 11 ∨ (mo + 10) = mo + 12 ∨ (mo + 10) = mo + 13 := h; omega)
  have hLk1_g2 := hLk1.fr fg2 (fun h => by have h9 : (mo + 14) = mo ∨ (mo + 14) = mo + 11 ∨ (mo + 14) = mo + 12 ∨ (mo + 14) = mo + 13 := h; omega)
  have hBy1_g2 := hBy1.fr fg2 (fun h => by have h9 : (mo + 15) = mo ∨ (mo + 15) = mo + 11 ∨ (mo + 15) = mo + 12 ∨ (mo + 15) = mo + 13 := h; omega)
  have hGr1_g2 := hGr1.fr fg2 (fun h => by have h9 : (mo + 16) = mo ∨ (mo + 16) = mo + 11 ∨ (mo + 16) = mo + 12 ∨ (mo + 16) = mo + 13 := h; omega)
  refine mn_iconst (v := 0) dMo_read_381 (by decide) ?_
  refine mn_istore_n (ls' := [(0, .ref mo), (1, .int (nI x)), (2, .int 0)]) dMo_read_382 rfl (by decide) rfl ?_
  refine mn_iconst (v := 0) dMo_read_383 (by decide) ?_
  refine mn_istore_n (ls' := [(0, .ref mo), (1, .int (nI x)), (2, .int 0), (3, .int 0)]) dMo_read_384 rfl (by decide) rfl ?_
  refine mn_R.post (c_M_rd6 hM2 hPm1_g2 hm (fun j q _ h => tuP_ok hpa _ j q h) (m + 1) 0 (by omega) (by omega)) (fun v g' hq => ?_)
  obtain ⟨hv, rfl⟩ := hq
  rw [eLK] at hv
  exact ⟨hv, ((mn_fr.rf.tr (fg1.mo (fun q h => by have h9 : q = mo ∨ (mo + 7 ≤ q ∧ q ≤ mo + 10) ∨ (mo + 14 ≤ q ∧ q ≤ mo + 16) := h; show q = mo ∨ (mo + 7 ≤ q ∧ q ≤ mo + 16); omega))).tr (fg2.mo (fun q h => by have h9 : q = mo ∨ q = mo + 11 ∨ q = mo + 12 ∨ q = mo + 13 := h; show q = mo ∨ (mo + 7 ≤ q ∧ q ≤ mo + 16); omega))), LK, BB, ml9, mt9, mg9, gr9, A9, L9, W9, t9, eLK, eBB, hM2, hPm1_g2, hMl1_g2, hMt1_g2, hMg1_g2, hA2, hL2, hW2, hLk1_g2, hBy1_g2, hGr1_g2, hml9, hmt9, hmg9, hgr9, hspec, ht9, hT9, hE9⟩
set_option maxRecDepth 100000 in
theorem c_M_read_none {E : mn_En} {g : mn_H} {mo tl e sz rp st m r wd ag td om : Nat} {ir : Int32} {m0 r0 wd0 : Nat} {sl ss : Nat → Nat} (hM : mn_at g mo (.inr (11, [.int 0, .ref (mo + 1), .int (nI tl), .ref (mo + 2), .ref (mo + 3), .int (nI e), .int (nI sz), .int (nI rp), .int (nI st), .ref (mo + 4), .ref (mo + 5), .ref (mo + 6), .int ir, .int (nI m0), .int (nI r0), .int (nI wd0), .int (nI ag), .ref (mo + 7), .ref (mo + 8), .ref (mo + 9), .ref (mo + 10), .int (nI td), .int (nI om), .ref (mo + 11), .ref (mo + 12), .ref (mo + 13), .ref (mo + 14), .ref (mo + 15), .ref (mo + 16)]))) (hSo : mn_at g (mo + 4) (.inl (0, 4800, .inl (fun j => nI (sl j))))) (hSs : mn_at g (mo + 5) (.inl (0, 60, .inl (fun j => nI (ss j))))) {x : Nat} (hx : x < 256) (hss : ∀ k, ss k ≤ 80) (hs20 : ∀ k, ss k = 0 ∨ 20 ≤ ss k) (hslb : ∀ j, sl j < 256) (hno : ∀ s, s < 60 → ¬ (sbS sl s 2 = x ∧ stN (sbS sl s) (ss s) = 1)) : mn_R E MMo_read 4 97 0 0 0 [(0, .ref mo), (1, .int (nI x))] [] g (fun x g' => x = some (.int (-2)) ∧ mn_fr (fun q => q = mo) g g' ∧ mn_at g' mo (.inr (11, [.int 0, .ref (mo + 1), .int (nI tl), .ref (mo + 2), .ref (mo + 3), .int (nI e), .int (nI sz), .int (nI rp), .int (nI st), .ref (mo + 4), .ref (mo + 5), .ref (mo + 6), .int 0, .int (nI m0), .int (nI r0), .int (nI wd0), .int (nI ag), .ref (mo + 7), .ref (mo + 8), .ref (mo + 9), .ref (mo + 10), .int (nI td), .int (nI om), .ref (mo + 11), .ref (mo + 12), .ref (mo + 13), .ref (mo + 14), .ref (mo + 15), .ref (mo + 16)]))) := by
  refine mn_aload_n 0 dMo_read_0 rfl rfl ?_
  refine mn_iconst (v := 0) dMo_read_1 (by decide) ?_
  refine mn_putf okMo 0 lMo_1 (by decide) rfl hM rfl rfl (Nat.le_of_ble_eq_true rfl) dMo_read_2 ?_
  obtain ⟨g1, eg1⟩ : ∃ gg_, gg_ = mn_set g mo (.inr (11, [.int 0, .ref (mo + 1), .int (nI tl), .ref (mo + 2), .ref (mo + 3), .int (nI e), .int (nI sz), .int (nI rp), .int (nI st), .ref (mo + 4), .ref (mo + 5), .ref (mo + 6), .int ir, .int (nI m0), .int (nI r0), .int (nI wd0), .int (nI ag), .ref (mo + 7), .ref (mo + 8), .ref (mo + 9), .ref (mo + 10), .int (nI td), .int (nI om), .ref (mo + 11), .ref (mo + 12), .ref (mo + 13), .ref (mo + 14), .ref (mo + 15), .ref (mo + 16)])) := ⟨_, rfl⟩
  refine mn_R.toG eg1 ?_
  have hM_g1 : mn_at g1 mo (.inr (11, [.int 0, .ref (mo + 1), .int (nI tl), .ref (mo + 2), .ref (mo + 3), .int (nI e), .int (nI sz), .int (nI rp), .int (nI st), .ref (mo + 4), .ref (mo + 5), .ref (mo + 6), .int ir, .int (nI m0), .int (nI r0), .int (nI wd0), .int (nI ag), .ref (mo + 7), .ref (mo + 8), .ref (mo + 9), .ref (mo + 10), .int (nI td), .int (nI om), .ref (mo + 11), .ref (mo + 12), .ref (mo + 13), .ref (mo + 14), .ref (mo + 15), .ref (mo + 16)])) := by rw [eg1]; exact hM.same
  have hSo_g1 : mn_at g1 (mo + 4) (.inl (0, 4800, .inl (fun j => nI (sl j)))) := by rw [eg1]; exact hSo.off (by omega)
  have hSs_g1 : mn_at g1 (mo + 5) (.inl (0, 60, .inl (fun j => nI (ss j)))) := by rw [eg1]; exact hSs.off (by omega)
  refine mn_iload_n 1 dMo_read_5 rfl rfl ?_
  refine mn_iconst (v := 0) dMo_read_6 (by decide) ?_
  refine mn_sipush (v := 255) dMo_read_7 (by decide) ?_
  refine mn_cS (d' := 0) (w' := 0) (As := [.int (nI x), .int 0, .int 255]) (stk' := [.int 1]) okMo_in lMo_68 dMo_read_10 rfl rfl (Nat.le_of_ble_eq_true rfl) (Nat.le_of_ble_eq_true rfl) (by decide) (c_M_in_y (nI_pos (by omega)) (ml_lt (a := x) (b := 255) (by omega) (by omega) (by omega))) rfl ?_
  refine mn_if_ne 18 dMo_read_13 (by decide) (fun c2 => ?_) (fun c2 => ?_)
  · refine mn_aload_n 0 dMo_read_18 rfl rfl ?_
    refine mn_iconst (v := 0) dMo_read_19 (by decide) ?_
    refine mn_putf okMo 12 lMo_140 (by decide) rfl hM_g1 rfl rfl (Nat.le_of_ble_eq_true rfl) dMo_read_20 ?_
    obtain ⟨g3, eg3⟩ : ∃ gg_, gg_ = mn_set g1 mo (.inr (11, [.int 0, .ref (mo + 1), .int (nI tl), .ref (mo + 2), .ref (mo + 3), .int (nI e), .int (nI sz), .int (nI rp), .int (nI st), .ref (mo + 4), .ref (mo + 5), .ref (mo + 6), .int 0, .int (nI m0), .int (nI r0), .int (nI wd0), .int (nI ag), .ref (mo + 7), .ref (mo + 8), .ref (mo + 9), .ref (mo + 10), .int (nI td), .int (nI om), .ref (mo + 11), .ref (mo + 12), .ref (mo + 13), .ref (mo + 14), .ref (mo + 15), .ref (mo + 16)])) := ⟨_, rfl⟩
    refine mn_R.toG eg3 ?_
    have hM_g3 : mn_at g3 mo (.inr (11, [.int 0, .ref (mo + 1), .int (nI tl), .ref (mo + 2), .ref (mo + 3), .int (nI e), .int (nI sz), .int (nI rp), .int (nI st), .ref (mo + 4), .ref (mo + 5), .ref (mo + 6), .int 0, .int (nI m0), .int (nI r0), .int (nI wd0), .int (nI ag), .ref (mo + 7), .ref (mo + 8), .ref (mo + 9), .ref (mo + 10), .int (nI td), .int (nI om), .ref (mo + 11), .ref (mo + 12), .ref (mo + 13), .ref (mo + 14), .ref (mo + 15), .ref (mo + 16)])) := by rw [eg3]; exact hM_g1.same
    have hSo_g3 : mn_at g3 (mo + 4) (.inl (0, 4800, .inl (fun j => nI (sl j)))) := by rw [eg3]; exact hSo_g1.off (by omega)
    have hSs_g3 : mn_at g3 (mo + 5) (.inl (0, 60, .inl (fun j => nI (ss j)))) := by rw [eg3]; exact hSs_g1.off (by omega)
    refine mn_iconst (v := 0) dMo_read_23 (by decide) ?_
    refine mn_istore_n (ls' := [(0, .ref mo), (1, .int (nI x)), (2, .int 0)]) dMo_read_24 rfl (by decide) rfl ?_
    refine c_M_rd1 hM_g3 hSo_g3 hSs_g3 hx hss hs20 hslb ?_ ?_ 61 0 (by omega) (by omega) (fun s9 hs9 => absurd hs9 (by omega))
    · intro hall
      refine mn_aload_n 0 dMo_read_113 rfl rfl ?_
      refine mn_get okMo 12 lMo_140 (by decide) hM_g3 rfl dMo_read_114 ?_
      refine mn_if_ne 123 dMo_read_117 (by decide) (fun c4 => ?_) (fun c4 => ?_)
      · exact absurd c4 (by decide)
      · refine mn_bipush (v := (-2)) dMo_read_120 (by decide) ?_
        exact mn_iret rfl dMo_read_122 ⟨rfl, ((mn_fr.rf.set eg1 (by show mo = mo; omega)).set eg3 (by show mo = mo; omega)), hM_g3⟩
    · intro f9 g9 h1 h2; exact absurd h2 (hno f9 h1)
  · exact absurd c2 (by decide)
set_option maxRecDepth 100000 in
theorem c_M_read_no {E : mn_En} {g : mn_H} {mo tl e sz rp st m r wd ag td om : Nat} {ir : Int32} {m0 r0 wd0 : Nat} {sl ss ml mt mg tA tL tO lk bb gr : Nat → Nat} {pm : Nat → Option Nat} (hM : mn_at g mo (.inr (11, [.int 0, .ref (mo + 1), .int (nI tl), .ref (mo + 2), .ref (mo + 3), .int (nI e), .int (nI sz), .int (nI rp), .int (nI st), .ref (mo + 4), .ref (mo + 5), .ref (mo + 6), .int ir, .int (nI m0), .int (nI r0), .int (nI wd0), .int (nI ag), .ref (mo + 7), .ref (mo + 8), .ref (mo + 9), .ref (mo + 10), .int (nI td), .int (nI om), .ref (mo + 11), .ref (mo + 12), .ref (mo + 13), .ref (mo + 14), .ref (mo + 15), .ref (mo + 16)]))) (hSo : mn_at g (mo + 4) (.inl (0, 4800, .inl (fun j => nI (sl j))))) (hSs : mn_at g (mo + 5) (.inl (0, 60, .inl (fun j => nI (ss j))))) (hPm : mn_at g (mo + 7) (.inl (0, 64, .inl (fun j => onI (pm j))))) (hMl : mn_at g (mo + 8) (.inl (0, 64, .inl (fun j => nI (ml j))))) (hMt : mn_at g (mo + 9) (.inl (0, 64, .inl (fun j => nI (mt j))))) (hMg : mn_at g (mo + 10) (.inl (0, 4800, .inl (fun j => nI (mg j))))) (hTA : mn_at g (mo + 11) (.inl (0, 40, .inl (fun j => nI (tA j))))) (hTL : mn_at g (mo + 12) (.inl (0, 40, .inl (fun j => nI (tL j))))) (hTO : mn_at g (mo + 13) (.inl (0, 40, .inl (fun j => nI (tO j))))) (hLk : mn_at g (mo + 14) (.inl (0, 60, .inl (fun j => nI (lk j))))) (hBy : mn_at g (mo + 15) (.inl (0, 3, .inl (fun j => nI (bb j))))) (hGr : mn_at g (mo + 16) (.inl (0, 12, .inl (fun j => nI (gr j))))) {x f : Nat} (hx : x < 256) (hss : ∀ k, ss k ≤ 80) (hs20 : ∀ k, ss k = 0 ∨ 20 ≤ ss k) (hslb : ∀ j, sl j < 256) (hf : f < 60) (hgd : (sbS sl f 2 = x ∧ stN (sbS sl f) (ss f) = 1)) (hfs : ∀ s, s < f → ¬ (sbS sl s 2 = x ∧ stN (sbS sl s) (ss s) = 1)) (em : sl (80 * f + 4) = m) (er : sl (80 * f + 5) = r) (ew : ss f = wd) (hpa : ∀ j q, pm j = some q → q < 1000) (hml : ∀ j, ml j < 256) (hmt : ∀ j, mt j < 256) (hmg : ∀ j, mg j < 256) (hgr : ∀ j, gr j < 256) (hlk : ∀ j, lk j < 60) (hbb : ∀ j, bb j < 3) {ms : Nat} (hms : cnt (fun j => (plD ss (sbS sl) x f (nnP pm (m + r)) 60) j = none) m = ms) (hno : cnt (fun i => (plD ss (sbS sl) x f (nnP pm (m + r)) 60) (m + i) ≠ none) r < ms) : mn_R E MMo_read 4 97 0 0 0 [(0, .ref mo), (1, .int (nI x))] [] g (fun v g' => v = some (.int (nI (cnt (fun j => (plD ss (sbS sl) x f (nnP pm (m + r)) 60) j ≠ none) m))) ∧ mn_fr (fun q => q = mo ∨ (mo + 7 ≤ q ∧ q ≤ mo + 16)) g g' ∧ ∃ ml4 mt4 mg4 : Nat → Nat, (∀ j, ml4 j < 256) ∧ (∀ j, mt4 j < 256) ∧ (∀ j, mg4 j < 256) ∧ Cpd (plD ss (sbS sl) x f (nnP pm (m + r)) 60) sl (wd - 12) m ml4 mt4 mg4 ∧ ∃ (lk9 bb9 A9 L9 W9 : Nat → Nat) (t9 : Nat), mn_at g' mo (.inr (11, [.int 0, .ref (mo + 1), .int (nI tl), .ref (mo + 2), .ref (mo + 3), .int (nI e), .int (nI sz), .int (nI rp), .int (nI st), .ref (mo + 4), .ref (mo + 5), .ref (mo + 6), .int 1, .int (nI m), .int (nI r), .int (nI wd), .int 0, .ref (mo + 7), .ref (mo + 8), .ref (mo + 9), .ref (mo + 10), .int (nI t9), .int (nI (smW W9 t9)), .ref (mo + 11), .ref (mo + 12), .ref (mo + 13), .ref (mo + 14), .ref (mo + 15), .ref (mo + 16)])) ∧ mn_at g' (mo + 7) (.inl (0, 64, .inl (fun j => onI ((plD ss (sbS sl) x f (nnP pm (m + r)) 60) j)))) ∧ mn_at g' (mo + 8) (.inl (0, 64, .inl (fun j => nI (ml4 j)))) ∧ mn_at g' (mo + 9) (.inl (0, 64, .inl (fun j => nI (mt4 j)))) ∧ mn_at g' (mo + 10) (.inl (0, 4800, .inl (fun j => nI (mg4 j)))) ∧ mn_at g' (mo + 11) (.inl (0, 40, .inl (fun j => nI (A9 j)))) ∧ mn_at g' (mo + 12) (.inl (0, 40, .inl (fun j => nI (L9 j)))) ∧ mn_at g' (mo + 13) (.inl (0, 40, .inl (fun j => nI (W9 j)))) ∧ mn_at g' (mo + 14) (.inl (0, 60, .inl (fun j => nI (lk9 j)))) ∧ mn_at g' (mo + 15) (.inl (0, 3, .inl (fun j => nI (bb9 j)))) ∧ mn_at g' (mo + 16) (.inl (0, 12, .inl (fun j => nI (gr j)))) ∧ (∀ j, lk9 j < 60) ∧ (∀ j, bb9 j < 3) ∧ t9 ≤ 40 ∧ Tld mg4 (eL (plD ss (sbS sl) x f (nnP pm (m + r)) 60) ml4) mt4 m (wd - 12) t9 A9 L9 W9 ∧ (t9 = 40 ∨ tsq mg4 (eL (plD ss (sbS sl) x f (nnP pm (m + r)) 60) ml4) mt4 m (wd - 12) t9 = none)) := by
  have hhd := stN_hd hgd.2
  have hm : m ≤ 60 := by have q1 := hhd.2.2.2.2.2.1; have q2 : sl (80 * f + 4) ≤ 60 := q1; omega
  have hr3 : r ≤ 3 := by have q1 := hhd.2.2.2.2.2.2.1; have q2 : sl (80 * f + 5) ≤ 3 := q1; omega
  have hwd : 20 ≤ wd := by have q1 := hhd.1; have q2 := hs20 f; omega
  have hwd2 : wd ≤ 80 := by have q1 := hss f; omega
  have hmw : m * (wd - 12) ≤ 4080 := Nat.le_trans (Nat.mul_le_mul hm (show wd - 12 ≤ 68 by omega)) (by decide)
  have hP0 : ∀ j, j < m + r → (plD ss (sbS sl) x f (nnP pm (m + r)) 60) j = plK ss (sbS sl) x f 60 j := fun j hj => plD_eq (by omega) (by unfold nnP; rw [if_pos hj])
  have hPa : ∀ j q, (plD ss (sbS sl) x f (nnP pm (m + r)) 60) j = some q → q < 1000 := fun j q h => plD_ok (nnP_ok hpa _) 60 j q (Nat.le_refl _) h
  have hP60 : ∀ j q, j < m + r → (plD ss (sbS sl) x f (nnP pm (m + r)) 60) j = some q → q < 60 := fun j q hj h => (plK_lt (by omega) ((hP0 j hj).symm.trans h)).1
  refine mn_aload_n 0 dMo_read_0 rfl rfl ?_
  refine mn_iconst (v := 0) dMo_read_1 (by decide) ?_
  refine mn_putf okMo 0 lMo_1 (by decide) rfl hM rfl rfl (Nat.le_of_ble_eq_true rfl) dMo_read_2 ?_
  obtain ⟨g1, eg1⟩ : ∃ gg_, gg_ = mn_set g mo (.inr (11, [.int 0, .ref (mo + 1), .int (nI tl), .ref (mo + 2), .ref (mo + 3), .int (nI e), .int (nI sz), .int (nI rp), .int (nI st), .ref (mo + 4), .ref (mo + 5), .ref (mo + 6), .int ir, .int (nI m0), .int (nI r0), .int (nI wd0), .int (nI ag), .ref (mo + 7), .ref (mo + 8), .ref (mo + 9), .ref (mo + 10), .int (nI td), .int (nI om), .ref (mo + 11), .ref (mo + 12), .ref (mo + 13), .ref (mo + 14), .ref (mo + 15), .ref (mo + 16)])) := ⟨_, rfl⟩
  refine mn_R.toG eg1 ?_
  have hM_g1 : mn_at g1 mo (.inr (11, [.int 0, .ref (mo + 1), .int (nI tl), .ref (mo + 2), .ref (mo + 3), .int (nI e), .int (nI sz), .int (nI rp), .int (nI st), .ref (mo + 4), .ref (mo + 5), .ref (mo + 6), .int ir, .int (nI m0), .int (nI r0), .int (nI wd0), .int (nI ag), .ref (mo + 7), .ref (mo + 8), .ref (mo + 9), .ref (mo + 10), .int (nI td), .int (nI om), .ref (mo + 11), .ref (mo + 12), .ref (mo + 13), .ref (mo + 14), .ref (mo + 15), .ref (mo + 16)])) := by rw [eg1]; exact hM.same
  have hSo_g1 : mn_at g1 (mo + 4) (.inl (0, 4800, .inl (fun j => nI (sl j)))) := by rw [eg1]; exact hSo.off (by omega)
  have hSs_g1 : mn_at g1 (mo + 5) (.inl (0, 60, .inl (fun j => nI (ss j)))) := by rw [eg1]; exact hSs.off (by omega)
  have hPm_g1 : mn_at g1 (mo + 7) (.inl (0, 64, .inl (fun j => onI (pm j)))) := by rw [eg1]; exact hPm.off (by omega)
  have hMl_g1 : mn_at g1 (mo + 8) (.inl (0, 64, .inl (fun j => nI (ml j)))) := by rw [eg1]; exact hMl.off (by omega)
  have hMt_g1 : mn_at g1 (mo + 9) (.inl (0, 64, .inl (fun j => nI (mt j)))) := by rw [eg1]; exact hMt.off (by omega)
  have hMg_g1 : mn_at g1 (mo + 10) (.inl (0, 4800, .inl (fun j => nI (mg j)))) := by rw [eg1]; exact hMg.off (by omega)
  have hTA_g1 : mn_at g1 (mo + 11) (.inl (0, 40, .inl (fun j => nI (tA j)))) := by rw [eg1]; exact hTA.off (by omega)
  have hTL_g1 : mn_at g1 (mo + 12) (.inl (0, 40, .inl (fun j => nI (tL j)))) := by rw [eg1]; exact hTL.off (by omega)
  have hTO_g1 : mn_at g1 (mo + 13) (.inl (0, 40, .inl (fun j => nI (tO j)))) := by rw [eg1]; exact hTO.off (by omega)
  have hLk_g1 : mn_at g1 (mo + 14) (.inl (0, 60, .inl (fun j => nI (lk j)))) := by rw [eg1]; exact hLk.off (by omega)
  have hBy_g1 : mn_at g1 (mo + 15) (.inl (0, 3, .inl (fun j => nI (bb j)))) := by rw [eg1]; exact hBy.off (by omega)
  have hGr_g1 : mn_at g1 (mo + 16) (.inl (0, 12, .inl (fun j => nI (gr j)))) := by rw [eg1]; exact hGr.off (by omega)
  refine mn_iload_n 1 dMo_read_5 rfl rfl ?_
  refine mn_iconst (v := 0) dMo_read_6 (by decide) ?_
  refine mn_sipush (v := 255) dMo_read_7 (by decide) ?_
  refine mn_cS (d' := 0) (w' := 0) (As := [.int (nI x), .int 0, .int 255]) (stk' := [.int 1]) okMo_in lMo_68 dMo_read_10 rfl rfl (Nat.le_of_ble_eq_true rfl) (Nat.le_of_ble_eq_true rfl) (by decide) (c_M_in_y (nI_pos (by omega)) (ml_lt (a := x) (b := 255) (by omega) (by omega) (by omega))) rfl ?_
  refine mn_if_ne 18 dMo_read_13 (by decide) (fun c2 => ?_) (fun c2 => ?_)
  · refine mn_aload_n 0 dMo_read_18 rfl rfl ?_
    refine mn_iconst (v := 0) dMo_read_19 (by decide) ?_
    refine mn_putf okMo 12 lMo_140 (by decide) rfl hM_g1 rfl rfl (Nat.le_of_ble_eq_true rfl) dMo_read_20 ?_
    obtain ⟨g3, eg3⟩ : ∃ gg_, gg_ = mn_set g1 mo (.inr (11, [.int 0, .ref (mo + 1), .int (nI tl), .ref (mo + 2), .ref (mo + 3), .int (nI e), .int (nI sz), .int (nI rp), .int (nI st), .ref (mo + 4), .ref (mo + 5), .ref (mo + 6), .int 0, .int (nI m0), .int (nI r0), .int (nI wd0), .int (nI ag), .ref (mo + 7), .ref (mo + 8), .ref (mo + 9), .ref (mo + 10), .int (nI td), .int (nI om), .ref (mo + 11), .ref (mo + 12), .ref (mo + 13), .ref (mo + 14), .ref (mo + 15), .ref (mo + 16)])) := ⟨_, rfl⟩
    refine mn_R.toG eg3 ?_
    have hM_g3 : mn_at g3 mo (.inr (11, [.int 0, .ref (mo + 1), .int (nI tl), .ref (mo + 2), .ref (mo + 3), .int (nI e), .int (nI sz), .int (nI rp), .int (nI st), .ref (mo + 4), .ref (mo + 5), .ref (mo + 6), .int 0, .int (nI m0), .int (nI r0), .int (nI wd0), .int (nI ag), .ref (mo + 7), .ref (mo + 8), .ref (mo + 9), .ref (mo + 10), .int (nI td), .int (nI om), .ref (mo + 11), .ref (mo + 12), .ref (mo + 13), .ref (mo + 14), .ref (mo + 15), .ref (mo + 16)])) := by rw [eg3]; exact hM_g1.same
    have hSo_g3 : mn_at g3 (mo + 4) (.inl (0, 4800, .inl (fun j => nI (sl j)))) := by rw [eg3]; exact hSo_g1.off (by omega)
    have hSs_g3 : mn_at g3 (mo + 5) (.inl (0, 60, .inl (fun j => nI (ss j)))) := by rw [eg3]; exact hSs_g1.off (by omega)
    have hPm_g3 : mn_at g3 (mo + 7) (.inl (0, 64, .inl (fun j => onI (pm j)))) := by rw [eg3]; exact hPm_g1.off (by omega)
    have hMl_g3 : mn_at g3 (mo + 8) (.inl (0, 64, .inl (fun j => nI (ml j)))) := by rw [eg3]; exact hMl_g1.off (by omega)
    have hMt_g3 : mn_at g3 (mo + 9) (.inl (0, 64, .inl (fun j => nI (mt j)))) := by rw [eg3]; exact hMt_g1.off (by omega)
    have hMg_g3 : mn_at g3 (mo + 10) (.inl (0, 4800, .inl (fun j => nI (mg j)))) := by rw [eg3]; exact hMg_g1.off (by omega)
    have hTA_g3 : mn_at g3 (mo + 11) (.inl (0, 40, .inl (fun j => nI (tA j)))) := by rw [eg3]; exact hTA_g1.off (by omega)
    have hTL_g3 : mn_at g3 (mo + 12) (.inl (0, 40, .inl (fun j => nI (tL j)))) := by rw [eg3]; exact hTL_g1.off (by omega)
    have hTO_g3 : mn_at g3 (mo + 13) (.inl (0, 40, .inl (fun j => nI (tO j)))) := by rw [eg3]; exact hTO_g1.off (by omega)
    have hLk_g3 : mn_at g3 (mo + 14) (.inl (0, 60, .inl (fun j => nI (lk j)))) := by rw [eg3]; exact hLk_g1.off (by omega)
    have hBy_g3 : mn_at g3 (mo + 15) (.inl (0, 3, .inl (fun j => nI (bb j)))) := by rw [eg3]; exact hBy_g1.off (by omega)
    have hGr_g3 : mn_at g3 (mo + 16) (.inl (0, 12, .inl (fun j => nI (gr j)))) := by rw [eg3]; exact hGr_g1.off (by omega)
    refine mn_iconst (v := 0) dMo_read_23 (by decide) ?_
    refine mn_istore_n (ls' := [(0, .ref mo), (1, .int (nI x)), (2, .int 0)]) dMo_read_24 rfl (by decide) rfl ?_
    refine c_M_rd1 hM_g3 hSo_g3 hSs_g3 hx hss hs20 hslb ?_ ?_ 61 0 (by omega) (by omega) (fun s9 hs9 => absurd hs9 (by omega))
    · exact fun hall => absurd hgd (hall f hf)
    · intro f9 g1 q1 q2 q3 f1 hM1
      obtain rfl : f9 = f := fst_uni (P := fun s => sbS sl s 2 = x ∧ stN (sbS sl s) (ss s) = 1) q2 q3 hgd hfs
      rw [em, er, ew] at hM1
      have hSo_g1 := hSo_g3.fr f1 (fun h => by have h9 : (mo + 4) = mo := h; omega)
      have hSs_g1 := hSs_g3.fr f1 (fun h => by have h9 : (mo + 5) = mo := h; omega)
      have hPm_g1 := hPm_g3.fr f1 (fun h => by have h9 : (mo + 7) = mo := h; omega)
      have hMl_g1 := hMl_g3.fr f1 (fun h => by have h9 : (mo + 8) = mo := h; omega)
      have hMt_g1 := hMt_g3.fr f1 (fun h => by have h9 : (mo + 9) = mo := h; omega)
      have hMg_g1 := hMg_g3.fr f1 (fun h => by have h9 : (mo + 10) = mo := h; omega)
      have hTA_g1 := hTA_g3.fr f1 (fun h => by have h9 : (mo + 11) = mo := h; omega)
      have hTL_g1 := hTL_g3.fr f1 (fun h => by have h9 : (mo + 12) = mo := h; omega)
      have hTO_g1 := hTO_g3.fr f1 (fun h => by have h9 : (mo + 13) = mo := h; omega)
      have hLk_g1 := hLk_g3.fr f1 (fun h => by have h9 : (mo + 14) = mo := h; omega)
      have hBy_g1 := hBy_g3.fr f1 (fun h => by have h9 : (mo + 15) = mo := h; omega)
      have hGr_g1 := hGr_g3.fr f1 (fun h => by have h9 : (mo + 16) = mo := h; omega)
      have F1 : mn_fr (fun q => q = mo ∨ (mo + 7 ≤ q ∧ q ≤ mo + 16)) g g1 := (((mn_fr.rf.set eg1 (by show mo = mo ∨ (mo + 7 ≤ mo ∧ mo ≤ mo + 16); omega)).set eg3 (by show mo = mo ∨ (mo + 7 ≤ mo ∧ mo ≤ mo + 16); omega)).tr (f1.mo (fun q h => by have h9 : q = mo := h; show q = mo ∨ (mo + 7 ≤ q ∧ q ≤ mo + 16); omega)))
      refine mn_aload_n 0 dMo_read_113 rfl rfl ?_
      refine mn_get okMo 12 lMo_140 (by decide) hM1 rfl dMo_read_114 ?_
      refine mn_if_ne 123 dMo_read_117 (by decide) (fun c4 => ?_) (fun c4 => ?_)
      · refine mn_iconst (v := 0) dMo_read_123 (by decide) ?_
        refine mn_istore_n (ls' := [(0, .ref mo), (1, .int (nI x)), (2, .int 0)]) dMo_read_124 rfl (by decide) rfl ?_
        have h9 : mn_at g1 (mo + 7) (.inl (0, 64, .inl (fun j => onI ((nnP pm 0) j)))) := by rw [nnP_0]; exact hPm_g1
        refine c_M_rd2 hm hr3 (fun g2 f2 hM2 hPm2 => ?_) (m + r + 1) 0 g1 (by omega) (by omega) mn_fr.rf hM1 h9
        have hSo_g2 := hSo_g1.fr f2 (fun h => by have h9 : (mo + 4) = mo + 7 := h; omega)
        have hSs_g2 := hSs_g1.fr f2 (fun h => by have h9 : (mo + 5) = mo + 7 := h; omega)
        have hMl_g2 := hMl_g1.fr f2 (fun h => by have h9 : (mo + 8) = mo + 7 := h; omega)
        have hMt_g2 := hMt_g1.fr f2 (fun h => by have h9 : (mo + 9) = mo + 7 := h; omega)
        have hMg_g2 := hMg_g1.fr f2 (fun h => by have h9 : (mo + 10) = mo + 7 := h; omega)
        have hTA_g2 := hTA_g1.fr f2 (fun h => by have h9 : (mo + 11) = mo + 7 := h; omega)
        have hTL_g2 := hTL_g1.fr f2 (fun h => by have h9 : (mo + 12) = mo + 7 := h; omega)
        have hTO_g2 := hTO_g1.fr f2 (fun h => by have h9 : (mo + 13) = mo + 7 := h; omega)
        have hLk_g2 := hLk_g1.fr f2 (fun h => by have h9 : (mo + 14) = mo + 7 := h; omega)
        have hBy_g2 := hBy_g1.fr f2 (fun h => by have h9 : (mo + 15) = mo + 7 := h; omega)
        have hGr_g2 := hGr_g1.fr f2 (fun h => by have h9 : (mo + 16) = mo + 7 := h; omega)
        refine mn_bipush (v := 59) dMo_read_152 (by decide) ?_
        refine mn_istore_n (ls' := [(0, .ref mo), (1, .int (nI x)), (2, .int 59)]) dMo_read_154 rfl (by decide) rfl ?_
        refine c_M_rd3 (f := f9) (p0 := nnP pm (m + r)) hx hss hs20 hslb hm hr3 hwd2 em.symm er.symm ew.symm (fun g3 f3 hM3 hSo3 hSs3 hPm3 => ?_) 60 59 g2 (by omega) (by omega) mn_fr.rf hM2 hSo_g2 hSs_g2 hPm2
        have hMl_g3 := hMl_g2.fr f3 (fun h => by have h9 : (mo + 8) = mo + 7 := h; omega)
        have hMt_g3 := hMt_g2.fr f3 (fun h => by have h9 : (mo + 9) = mo + 7 := h; omega)
        have hMg_g3 := hMg_g2.fr f3 (fun h => by have h9 : (mo + 10) = mo + 7 := h; omega)
        have hTA_g3 := hTA_g2.fr f3 (fun h => by have h9 : (mo + 11) = mo + 7 := h; omega)
        have hTL_g3 := hTL_g2.fr f3 (fun h => by have h9 : (mo + 12) = mo + 7 := h; omega)
        have hTO_g3 := hTO_g2.fr f3 (fun h => by have h9 : (mo + 13) = mo + 7 := h; omega)
        have hLk_g3 := hLk_g2.fr f3 (fun h => by have h9 : (mo + 14) = mo + 7 := h; omega)
        have hBy_g3 := hBy_g2.fr f3 (fun h => by have h9 : (mo + 15) = mo + 7 := h; omega)
        have hGr_g3 := hGr_g2.fr f3 (fun h => by have h9 : (mo + 16) = mo + 7 := h; omega)
        refine mn_iconst (v := 0) dMo_read_248 (by decide) ?_
        refine mn_istore_n (ls' := [(0, .ref mo), (1, .int (nI x)), (2, .int 0)]) dMo_read_249 rfl (by decide) rfl ?_
        refine c_M_rd4 hm hwd hwd2 hmw hslb (fun j q _ h => hPa j q h) (fun j q hj h => hP60 j q (by omega) h) (fun g4 ml4 mt4 mg4 f4 hml4 hmt4 hmg4 hcp4 hM4 hSo4 hPm4 hMl4 hMt4 hMg4 => ?_) (m + 1) 0 g3 ml mt mg (by omega) (by omega) mn_fr.rf hml hmt hmg (fun v k hv => absurd hv (by omega)) hM3 hSo3 hPm3 hMl_g3 hMt_g3 hMg_g3
        have hSs3_g4 := hSs3.fr f4 (fun h => by have h9 : (mo + 5) = mo + 8 ∨ (mo + 5) = mo + 9 ∨ (mo + 5) = mo + 10 := h; omega)
        have hTA_g4 := hTA_g3.fr f4 (fun h => by have h9 : (mo + 11) = mo + 8 ∨ (mo + 11) = mo + 9 ∨ (mo + 11) = mo + 10 := h; omega)
        have hTL_g4 := hTL_g3.fr f4 (fun h => by have h9 : (mo + 12) = mo + 8 ∨ (mo + 12) = mo + 9 ∨ (mo + 12) = mo + 10 := h; omega)
        have hTO_g4 := hTO_g3.fr f4 (fun h => by have h9 : (mo + 13) = mo + 8 ∨ (mo + 13) = mo + 9 ∨ (mo + 13) = mo + 10 := h; omega)
        have hLk_g4 := hLk_g3.fr f4 (fun h => by have h9 : (mo + 14) = mo + 8 ∨ (mo + 14) = mo + 9 ∨ (mo + 14) = mo + 10 := h; omega)
        have hBy_g4 := hBy_g3.fr f4 (fun h => by have h9 : (mo + 15) = mo + 8 ∨ (mo + 15) = mo + 9 ∨ (mo + 15) = mo + 10 := h; omega)
        have hGr_g4 := hGr_g3.fr f4 (fun h => by have h9 : (mo + 16) = mo + 8 ∨ (mo + 16) = mo + 9 ∨ (mo + 16) = mo + 10 := h; omega)
        refine mn_R.post (c_M_rd5_no (x := x) hM4 hSo4 hPm4 hMl4 hMt4 hMg4 hTA_g4 hTL_g4 hTO_g4 hLk_g4 hBy_g4 hGr_g4 hm hr3 hwd hwd2 hmw hPa hml4 hmt4 hmg4 hgr hslb hlk hbb hms hno) (fun v g' hq => ?_)
        obtain ⟨hv, hf9, hq⟩ := hq
        exact ⟨hv, ((((mn_fr.rf.tr (F1.mo (fun q h => by have h9 : q = mo ∨ (mo + 7 ≤ q ∧ q ≤ mo + 16) := h; show q = mo ∨ (mo + 7 ≤ q ∧ q ≤ mo + 16); omega))).tr (f2.mo (fun q h => by have h9 : q = mo + 7 := h; show q = mo ∨ (mo + 7 ≤ q ∧ q ≤ mo + 16); omega))).tr (f3.mo (fun q h => by have h9 : q = mo + 7 := h; show q = mo ∨ (mo + 7 ≤ q ∧ q ≤ mo + 16); omega))).tr (f4.mo (fun q h => by have h9 : q = mo + 8 ∨ q = mo + 9 ∨ q = mo + 10 := h; show q = mo ∨ (mo + 7 ≤ q ∧ q ≤ mo + 16); omega))).tr hf9, ml4, mt4, mg4, hml4, hmt4, hmg4, hcp4, hq⟩
      · exact absurd c4 (by decide)
  · exact absurd c2 (by decide)
set_option maxRecDepth 100000 in
theorem c_M_read_0 {E : mn_En} {g : mn_H} {mo tl e sz rp st m r wd ag td om : Nat} {ir : Int32} {m0 r0 wd0 : Nat} {sl ss ml mt mg tA tL tO lk bb gr : Nat → Nat} {pm : Nat → Option Nat} (hM : mn_at g mo (.inr (11, [.int 0, .ref (mo + 1), .int (nI tl), .ref (mo + 2), .ref (mo + 3), .int (nI e), .int (nI sz), .int (nI rp), .int (nI st), .ref (mo + 4), .ref (mo + 5), .ref (mo + 6), .int ir, .int (nI m0), .int (nI r0), .int (nI wd0), .int (nI ag), .ref (mo + 7), .ref (mo + 8), .ref (mo + 9), .ref (mo + 10), .int (nI td), .int (nI om), .ref (mo + 11), .ref (mo + 12), .ref (mo + 13), .ref (mo + 14), .ref (mo + 15), .ref (mo + 16)]))) (hSo : mn_at g (mo + 4) (.inl (0, 4800, .inl (fun j => nI (sl j))))) (hSs : mn_at g (mo + 5) (.inl (0, 60, .inl (fun j => nI (ss j))))) (hPm : mn_at g (mo + 7) (.inl (0, 64, .inl (fun j => onI (pm j))))) (hMl : mn_at g (mo + 8) (.inl (0, 64, .inl (fun j => nI (ml j))))) (hMt : mn_at g (mo + 9) (.inl (0, 64, .inl (fun j => nI (mt j))))) (hMg : mn_at g (mo + 10) (.inl (0, 4800, .inl (fun j => nI (mg j))))) (hTA : mn_at g (mo + 11) (.inl (0, 40, .inl (fun j => nI (tA j))))) (hTL : mn_at g (mo + 12) (.inl (0, 40, .inl (fun j => nI (tL j))))) (hTO : mn_at g (mo + 13) (.inl (0, 40, .inl (fun j => nI (tO j))))) (hLk : mn_at g (mo + 14) (.inl (0, 60, .inl (fun j => nI (lk j))))) (hBy : mn_at g (mo + 15) (.inl (0, 3, .inl (fun j => nI (bb j))))) (hGr : mn_at g (mo + 16) (.inl (0, 12, .inl (fun j => nI (gr j))))) {x f : Nat} (hx : x < 256) (hss : ∀ k, ss k ≤ 80) (hs20 : ∀ k, ss k = 0 ∨ 20 ≤ ss k) (hslb : ∀ j, sl j < 256) (hf : f < 60) (hgd : (sbS sl f 2 = x ∧ stN (sbS sl f) (ss f) = 1)) (hfs : ∀ s, s < f → ¬ (sbS sl s 2 = x ∧ stN (sbS sl s) (ss s) = 1)) (em : sl (80 * f + 4) = m) (er : sl (80 * f + 5) = r) (ew : ss f = wd) (hpa : ∀ j q, pm j = some q → q < 1000) (hml : ∀ j, ml j < 256) (hmt : ∀ j, mt j < 256) (hmg : ∀ j, mg j < 256) (hgr : ∀ j, gr j < 256) (hlk : ∀ j, lk j < 60) (hbb : ∀ j, bb j < 3) (hms : cnt (fun j => (plD ss (sbS sl) x f (nnP pm (m + r)) 60) j = none) m = 0) : mn_R E MMo_read 4 97 0 0 0 [(0, .ref mo), (1, .int (nI x))] [] g (fun v g' => v = some (.int (nI (cnt (fun j => (plD ss (sbS sl) x f (nnP pm (m + r)) 60) j ≠ none) m))) ∧ mn_fr (fun q => q = mo ∨ (mo + 7 ≤ q ∧ q ≤ mo + 16)) g g' ∧ ∃ ml4 mt4 mg4 : Nat → Nat, (∀ j, ml4 j < 256) ∧ (∀ j, mt4 j < 256) ∧ (∀ j, mg4 j < 256) ∧ Cpd (plD ss (sbS sl) x f (nnP pm (m + r)) 60) sl (wd - 12) m ml4 mt4 mg4 ∧ ∃ (lk9 bb9 A9 L9 W9 : Nat → Nat) (t9 : Nat), mn_at g' mo (.inr (11, [.int 0, .ref (mo + 1), .int (nI tl), .ref (mo + 2), .ref (mo + 3), .int (nI e), .int (nI sz), .int (nI rp), .int (nI st), .ref (mo + 4), .ref (mo + 5), .ref (mo + 6), .int 1, .int (nI m), .int (nI r), .int (nI wd), .int 0, .ref (mo + 7), .ref (mo + 8), .ref (mo + 9), .ref (mo + 10), .int (nI t9), .int (nI (smW W9 t9)), .ref (mo + 11), .ref (mo + 12), .ref (mo + 13), .ref (mo + 14), .ref (mo + 15), .ref (mo + 16)])) ∧ mn_at g' (mo + 7) (.inl (0, 64, .inl (fun j => onI ((plD ss (sbS sl) x f (nnP pm (m + r)) 60) j)))) ∧ mn_at g' (mo + 8) (.inl (0, 64, .inl (fun j => nI (ml4 j)))) ∧ mn_at g' (mo + 9) (.inl (0, 64, .inl (fun j => nI (mt4 j)))) ∧ mn_at g' (mo + 10) (.inl (0, 4800, .inl (fun j => nI (mg4 j)))) ∧ mn_at g' (mo + 11) (.inl (0, 40, .inl (fun j => nI (A9 j)))) ∧ mn_at g' (mo + 12) (.inl (0, 40, .inl (fun j => nI (L9 j)))) ∧ mn_at g' (mo + 13) (.inl (0, 40, .inl (fun j => nI (W9 j)))) ∧ mn_at g' (mo + 14) (.inl (0, 60, .inl (fun j => nI (lk9 j)))) ∧ mn_at g' (mo + 15) (.inl (0, 3, .inl (fun j => nI (bb9 j)))) ∧ mn_at g' (mo + 16) (.inl (0, 12, .inl (fun j => nI (gr j)))) ∧ (∀ j, lk9 j < 60) ∧ (∀ j, bb9 j < 3) ∧ t9 ≤ 40 ∧ Tld mg4 (eL (plD ss (sbS sl) x f (nnP pm (m + r)) 60) ml4) mt4 m (wd - 12) t9 A9 L9 W9 ∧ (t9 = 40 ∨ tsq mg4 (eL (plD ss (sbS sl) x f (nnP pm (m + r)) 60) ml4) mt4 m (wd - 12) t9 = none)) := by
  have hhd := stN_hd hgd.2
  have hm : m ≤ 60 := by have q1 := hhd.2.2.2.2.2.1; have q2 : sl (80 * f + 4) ≤ 60 := q1; omega
  have hr3 : r ≤ 3 := by have q1 := hhd.2.2.2.2.2.2.1; have q2 : sl (80 * f + 5) ≤ 3 := q1; omega
  have hwd : 20 ≤ wd := by have q1 := hhd.1; have q2 := hs20 f; omega
  have hwd2 : wd ≤ 80 := by have q1 := hss f; omega
  have hmw : m * (wd - 12) ≤ 4080 := Nat.le_trans (Nat.mul_le_mul hm (show wd - 12 ≤ 68 by omega)) (by decide)
  have hP0 : ∀ j, j < m + r → (plD ss (sbS sl) x f (nnP pm (m + r)) 60) j = plK ss (sbS sl) x f 60 j := fun j hj => plD_eq (by omega) (by unfold nnP; rw [if_pos hj])
  have hPa : ∀ j q, (plD ss (sbS sl) x f (nnP pm (m + r)) 60) j = some q → q < 1000 := fun j q h => plD_ok (nnP_ok hpa _) 60 j q (Nat.le_refl _) h
  have hP60 : ∀ j q, j < m + r → (plD ss (sbS sl) x f (nnP pm (m + r)) 60) j = some q → q < 60 := fun j q hj h => (plK_lt (by omega) ((hP0 j hj).symm.trans h)).1
  refine mn_aload_n 0 dMo_read_0 rfl rfl ?_
  refine mn_iconst (v := 0) dMo_read_1 (by decide) ?_
  refine mn_putf okMo 0 lMo_1 (by decide) rfl hM rfl rfl (Nat.le_of_ble_eq_true rfl) dMo_read_2 ?_
  obtain ⟨g1, eg1⟩ : ∃ gg_, gg_ = mn_set g mo (.inr (11, [.int 0, .ref (mo + 1), .int (nI tl), .ref (mo + 2), .ref (mo + 3), .int (nI e), .int (nI sz), .int (nI rp), .int (nI st), .ref (mo + 4), .ref (mo + 5), .ref (mo + 6), .int ir, .int (nI m0), .int (nI r0), .int (nI wd0), .int (nI ag), .ref (mo + 7), .ref (mo + 8), .ref (mo + 9), .ref (mo + 10), .int (nI td), .int (nI om), .ref (mo + 11), .ref (mo + 12), .ref (mo + 13), .ref (mo + 14), .ref (mo + 15), .ref (mo + 16)])) := ⟨_, rfl⟩
  refine mn_R.toG eg1 ?_
  have hM_g1 : mn_at g1 mo (.inr (11, [.int 0, .ref (mo + 1), .int (nI tl), .ref (mo + 2), .ref (mo + 3), .int (nI e), .int (nI sz), .int (nI rp), .int (nI st), .ref (mo + 4), .ref (mo + 5), .ref (mo + 6), .int ir, .int (nI m0), .int (nI r0), .int (nI wd0), .int (nI ag), .ref (mo + 7), .ref (mo + 8), .ref (mo + 9), .ref (mo + 10), .int (nI td), .int (nI om), .ref (mo + 11), .ref (mo + 12), .ref (mo + 13), .ref (mo + 14), .ref (mo + 15), .ref (mo + 16)])) := by rw [eg1]; exact hM.same
  have hSo_g1 : mn_at g1 (mo + 4) (.inl (0, 4800, .inl (fun j => nI (sl j)))) := by rw [eg1]; exact hSo.off (by omega)
  have hSs_g1 : mn_at g1 (mo + 5) (.inl (0, 60, .inl (fun j => nI (ss j)))) := by rw [eg1]; exact hSs.off (by omega)
  have hPm_g1 : mn_at g1 (mo + 7) (.inl (0, 64, .inl (fun j => onI (pm j)))) := by rw [eg1]; exact hPm.off (by omega)
  have hMl_g1 : mn_at g1 (mo + 8) (.inl (0, 64, .inl (fun j => nI (ml j)))) := by rw [eg1]; exact hMl.off (by omega)
  have hMt_g1 : mn_at g1 (mo + 9) (.inl (0, 64, .inl (fun j => nI (mt j)))) := by rw [eg1]; exact hMt.off (by omega)
  have hMg_g1 : mn_at g1 (mo + 10) (.inl (0, 4800, .inl (fun j => nI (mg j)))) := by rw [eg1]; exact hMg.off (by omega)
  have hTA_g1 : mn_at g1 (mo + 11) (.inl (0, 40, .inl (fun j => nI (tA j)))) := by rw [eg1]; exact hTA.off (by omega)
  have hTL_g1 : mn_at g1 (mo + 12) (.inl (0, 40, .inl (fun j => nI (tL j)))) := by rw [eg1]; exact hTL.off (by omega)
  have hTO_g1 : mn_at g1 (mo + 13) (.inl (0, 40, .inl (fun j => nI (tO j)))) := by rw [eg1]; exact hTO.off (by omega)
  have hLk_g1 : mn_at g1 (mo + 14) (.inl (0, 60, .inl (fun j => nI (lk j)))) := by rw [eg1]; exact hLk.off (by omega)
  have hBy_g1 : mn_at g1 (mo + 15) (.inl (0, 3, .inl (fun j => nI (bb j)))) := by rw [eg1]; exact hBy.off (by omega)
  have hGr_g1 : mn_at g1 (mo + 16) (.inl (0, 12, .inl (fun j => nI (gr j)))) := by rw [eg1]; exact hGr.off (by omega)
  refine mn_iload_n 1 dMo_read_5 rfl rfl ?_
  refine mn_iconst (v := 0) dMo_read_6 (by decide) ?_
  refine mn_sipush (v := 255) dMo_read_7 (by decide) ?_
  refine mn_cS (d' := 0) (w' := 0) (As := [.int (nI x), .int 0, .int 255]) (stk' := [.int 1]) okMo_in lMo_68 dMo_read_10 rfl rfl (Nat.le_of_ble_eq_true rfl) (Nat.le_of_ble_eq_true rfl) (by decide) (c_M_in_y (nI_pos (by omega)) (ml_lt (a := x) (b := 255) (by omega) (by omega) (by omega))) rfl ?_
  refine mn_if_ne 18 dMo_read_13 (by decide) (fun c2 => ?_) (fun c2 => ?_)
  · refine mn_aload_n 0 dMo_read_18 rfl rfl ?_
    refine mn_iconst (v := 0) dMo_read_19 (by decide) ?_
    refine mn_putf okMo 12 lMo_140 (by decide) rfl hM_g1 rfl rfl (Nat.le_of_ble_eq_true rfl) dMo_read_20 ?_
    obtain ⟨g3, eg3⟩ : ∃ gg_, gg_ = mn_set g1 mo (.inr (11, [.int 0, .ref (mo + 1), .int (nI tl), .ref (mo + 2), .ref (mo + 3), .int (nI e), .int (nI sz), .int (nI rp), .int (nI st), .ref (mo + 4), .ref (mo + 5), .ref (mo + 6), .int 0, .int (nI m0), .int (nI r0), .int (nI wd0), .int (nI ag), .ref (mo + 7), .ref (mo + 8), .ref (mo + 9), .ref (mo + 10), .int (nI td), .int (nI om), .ref (mo + 11), .ref (mo + 12), .ref (mo + 13), .ref (mo + 14), .ref (mo + 15), .ref (mo + 16)])) := ⟨_, rfl⟩
    refine mn_R.toG eg3 ?_
    have hM_g3 : mn_at g3 mo (.inr (11, [.int 0, .ref (mo + 1), .int (nI tl), .ref (mo + 2), .ref (mo + 3), .int (nI e), .int (nI sz), .int (nI rp), .int (nI st), .ref (mo + 4), .ref (mo + 5), .ref (mo + 6), .int 0, .int (nI m0), .int (nI r0), .int (nI wd0), .int (nI ag), .ref (mo + 7), .ref (mo + 8), .ref (mo + 9), .ref (mo + 10), .int (nI td), .int (nI om), .ref (mo + 11), .ref (mo + 12), .ref (mo + 13), .ref (mo + 14), .ref (mo + 15), .ref (mo + 16)])) := by rw [eg3]; exact hM_g1.same
    have hSo_g3 : mn_at g3 (mo + 4) (.inl (0, 4800, .inl (fun j => nI (sl j)))) := by rw [eg3]; exact hSo_g1.off (by omega)
    have hSs_g3 : mn_at g3 (mo + 5) (.inl (0, 60, .inl (fun j => nI (ss j)))) := by rw [eg3]; exact hSs_g1.off (by omega)
    have hPm_g3 : mn_at g3 (mo + 7) (.inl (0, 64, .inl (fun j => onI (pm j)))) := by rw [eg3]; exact hPm_g1.off (by omega)
    have hMl_g3 : mn_at g3 (mo + 8) (.inl (0, 64, .inl (fun j => nI (ml j)))) := by rw [eg3]; exact hMl_g1.off (by omega)
    have hMt_g3 : mn_at g3 (mo + 9) (.inl (0, 64, .inl (fun j => nI (mt j)))) := by rw [eg3]; exact hMt_g1.off (by omega)
    have hMg_g3 : mn_at g3 (mo + 10) (.inl (0, 4800, .inl (fun j => nI (mg j)))) := by rw [eg3]; exact hMg_g1.off (by omega)
    have hTA_g3 : mn_at g3 (mo + 11) (.inl (0, 40, .inl (fun j => nI (tA j)))) := by rw [eg3]; exact hTA_g1.off (by omega)
    have hTL_g3 : mn_at g3 (mo + 12) (.inl (0, 40, .inl (fun j => nI (tL j)))) := by rw [eg3]; exact hTL_g1.off (by omega)
    have hTO_g3 : mn_at g3 (mo + 13) (.inl (0, 40, .inl (fun j => nI (tO j)))) := by rw [eg3]; exact hTO_g1.off (by omega)
    have hLk_g3 : mn_at g3 (mo + 14) (.inl (0, 60, .inl (fun j => nI (lk j)))) := by rw [eg3]; exact hLk_g1.off (by omega)
    have hBy_g3 : mn_at g3 (mo + 15) (.inl (0, 3, .inl (fun j => nI (bb j)))) := by rw [eg3]; exact hBy_g1.off (by omega)
    have hGr_g3 : mn_at g3 (mo + 16) (.inl (0, 12, .inl (fun j => nI (gr j)))) := by rw [eg3]; exact hGr_g1.off (by omega)
    refine mn_iconst (v := 0) dMo_read_23 (by decide) ?_
    refine mn_istore_n (ls' := [(0, .ref mo), (1, .int (nI x)), (2, .int 0)]) dMo_read_24 rfl (by decide) rfl ?_
    refine c_M_rd1 hM_g3 hSo_g3 hSs_g3 hx hss hs20 hslb ?_ ?_ 61 0 (by omega) (by omega) (fun s9 hs9 => absurd hs9 (by omega))
    · exact fun hall => absurd hgd (hall f hf)
    · intro f9 g1 q1 q2 q3 f1 hM1
      obtain rfl : f9 = f := fst_uni (P := fun s => sbS sl s 2 = x ∧ stN (sbS sl s) (ss s) = 1) q2 q3 hgd hfs
      rw [em, er, ew] at hM1
      have hSo_g1 := hSo_g3.fr f1 (fun h => by have h9 : (mo + 4) = mo := h; omega)
      have hSs_g1 := hSs_g3.fr f1 (fun h => by have h9 : (mo + 5) = mo := h; omega)
      have hPm_g1 := hPm_g3.fr f1 (fun h => by have h9 : (mo + 7) = mo := h; omega)
      have hMl_g1 := hMl_g3.fr f1 (fun h => by have h9 : (mo + 8) = mo := h; omega)
      have hMt_g1 := hMt_g3.fr f1 (fun h => by have h9 : (mo + 9) = mo := h; omega)
      have hMg_g1 := hMg_g3.fr f1 (fun h => by have h9 : (mo + 10) = mo := h; omega)
      have hTA_g1 := hTA_g3.fr f1 (fun h => by have h9 : (mo + 11) = mo := h; omega)
      have hTL_g1 := hTL_g3.fr f1 (fun h => by have h9 : (mo + 12) = mo := h; omega)
      have hTO_g1 := hTO_g3.fr f1 (fun h => by have h9 : (mo + 13) = mo := h; omega)
      have hLk_g1 := hLk_g3.fr f1 (fun h => by have h9 : (mo + 14) = mo := h; omega)
      have hBy_g1 := hBy_g3.fr f1 (fun h => by have h9 : (mo + 15) = mo := h; omega)
      have hGr_g1 := hGr_g3.fr f1 (fun h => by have h9 : (mo + 16) = mo := h; omega)
      have F1 : mn_fr (fun q => q = mo ∨ (mo + 7 ≤ q ∧ q ≤ mo + 16)) g g1 := (((mn_fr.rf.set eg1 (by show mo = mo ∨ (mo + 7 ≤ mo ∧ mo ≤ mo + 16); omega)).set eg3 (by show mo = mo ∨ (mo + 7 ≤ mo ∧ mo ≤ mo + 16); omega)).tr (f1.mo (fun q h => by have h9 : q = mo := h; show q = mo ∨ (mo + 7 ≤ q ∧ q ≤ mo + 16); omega)))
      refine mn_aload_n 0 dMo_read_113 rfl rfl ?_
      refine mn_get okMo 12 lMo_140 (by decide) hM1 rfl dMo_read_114 ?_
      refine mn_if_ne 123 dMo_read_117 (by decide) (fun c4 => ?_) (fun c4 => ?_)
      · refine mn_iconst (v := 0) dMo_read_123 (by decide) ?_
        refine mn_istore_n (ls' := [(0, .ref mo), (1, .int (nI x)), (2, .int 0)]) dMo_read_124 rfl (by decide) rfl ?_
        have h9 : mn_at g1 (mo + 7) (.inl (0, 64, .inl (fun j => onI ((nnP pm 0) j)))) := by rw [nnP_0]; exact hPm_g1
        refine c_M_rd2 hm hr3 (fun g2 f2 hM2 hPm2 => ?_) (m + r + 1) 0 g1 (by omega) (by omega) mn_fr.rf hM1 h9
        have hSo_g2 := hSo_g1.fr f2 (fun h => by have h9 : (mo + 4) = mo + 7 := h; omega)
        have hSs_g2 := hSs_g1.fr f2 (fun h => by have h9 : (mo + 5) = mo + 7 := h; omega)
        have hMl_g2 := hMl_g1.fr f2 (fun h => by have h9 : (mo + 8) = mo + 7 := h; omega)
        have hMt_g2 := hMt_g1.fr f2 (fun h => by have h9 : (mo + 9) = mo + 7 := h; omega)
        have hMg_g2 := hMg_g1.fr f2 (fun h => by have h9 : (mo + 10) = mo + 7 := h; omega)
        have hTA_g2 := hTA_g1.fr f2 (fun h => by have h9 : (mo + 11) = mo + 7 := h; omega)
        have hTL_g2 := hTL_g1.fr f2 (fun h => by have h9 : (mo + 12) = mo + 7 := h; omega)
        have hTO_g2 := hTO_g1.fr f2 (fun h => by have h9 : (mo + 13) = mo + 7 := h; omega)
        have hLk_g2 := hLk_g1.fr f2 (fun h => by have h9 : (mo + 14) = mo + 7 := h; omega)
        have hBy_g2 := hBy_g1.fr f2 (fun h => by have h9 : (mo + 15) = mo + 7 := h; omega)
        have hGr_g2 := hGr_g1.fr f2 (fun h => by have h9 : (mo + 16) = mo + 7 := h; omega)
        refine mn_bipush (v := 59) dMo_read_152 (by decide) ?_
        refine mn_istore_n (ls' := [(0, .ref mo), (1, .int (nI x)), (2, .int 59)]) dMo_read_154 rfl (by decide) rfl ?_
        refine c_M_rd3 (f := f9) (p0 := nnP pm (m + r)) hx hss hs20 hslb hm hr3 hwd2 em.symm er.symm ew.symm (fun g3 f3 hM3 hSo3 hSs3 hPm3 => ?_) 60 59 g2 (by omega) (by omega) mn_fr.rf hM2 hSo_g2 hSs_g2 hPm2
        have hMl_g3 := hMl_g2.fr f3 (fun h => by have h9 : (mo + 8) = mo + 7 := h; omega)
        have hMt_g3 := hMt_g2.fr f3 (fun h => by have h9 : (mo + 9) = mo + 7 := h; omega)
        have hMg_g3 := hMg_g2.fr f3 (fun h => by have h9 : (mo + 10) = mo + 7 := h; omega)
        have hTA_g3 := hTA_g2.fr f3 (fun h => by have h9 : (mo + 11) = mo + 7 := h; omega)
        have hTL_g3 := hTL_g2.fr f3 (fun h => by have h9 : (mo + 12) = mo + 7 := h; omega)
        have hTO_g3 := hTO_g2.fr f3 (fun h => by have h9 : (mo + 13) = mo + 7 := h; omega)
        have hLk_g3 := hLk_g2.fr f3 (fun h => by have h9 : (mo + 14) = mo + 7 := h; omega)
        have hBy_g3 := hBy_g2.fr f3 (fun h => by have h9 : (mo + 15) = mo + 7 := h; omega)
        have hGr_g3 := hGr_g2.fr f3 (fun h => by have h9 : (mo + 16) = mo + 7 := h; omega)
        refine mn_iconst (v := 0) dMo_read_248 (by decide) ?_
        refine mn_istore_n (ls' := [(0, .ref mo), (1, .int (nI x)), (2, .int 0)]) dMo_read_249 rfl (by decide) rfl ?_
        refine c_M_rd4 hm hwd hwd2 hmw hslb (fun j q _ h => hPa j q h) (fun j q hj h => hP60 j q (by omega) h) (fun g4 ml4 mt4 mg4 f4 hml4 hmt4 hmg4 hcp4 hM4 hSo4 hPm4 hMl4 hMt4 hMg4 => ?_) (m + 1) 0 g3 ml mt mg (by omega) (by omega) mn_fr.rf hml hmt hmg (fun v k hv => absurd hv (by omega)) hM3 hSo3 hPm3 hMl_g3 hMt_g3 hMg_g3
        have hSs3_g4 := hSs3.fr f4 (fun h => by have h9 : (mo + 5) = mo + 8 ∨ (mo + 5) = mo + 9 ∨ (mo + 5) = mo + 10 := h; omega)
        have hTA_g4 := hTA_g3.fr f4 (fun h => by have h9 : (mo + 11) = mo + 8 ∨ (mo + 11) = mo + 9 ∨ (mo + 11) = mo + 10 := h; omega)
        have hTL_g4 := hTL_g3.fr f4 (fun h => by have h9 : (mo + 12) = mo + 8 ∨ (mo + 12) = mo + 9 ∨ (mo + 12) = mo + 10 := h; omega)
        have hTO_g4 := hTO_g3.fr f4 (fun h => by have h9 : (mo + 13) = mo + 8 ∨ (mo + 13) = mo + 9 ∨ (mo + 13) = mo + 10 := h; omega)
        have hLk_g4 := hLk_g3.fr f4 (fun h => by have h9 : (mo + 14) = mo + 8 ∨ (mo + 14) = mo + 9 ∨ (mo + 14) = mo + 10 := h; omega)
        have hBy_g4 := hBy_g3.fr f4 (fun h => by have h9 : (mo + 15) = mo + 8 ∨ (mo + 15) = mo + 9 ∨ (mo + 15) = mo + 10 := h; omega)
        have hGr_g4 := hGr_g3.fr f4 (fun h => by have h9 : (mo + 16) = mo + 8 ∨ (mo + 16) = mo + 9 ∨ (mo + 16) = mo + 10 := h; omega)
        refine mn_R.post (c_M_rd5_0 (x := x) hM4 hSo4 hPm4 hMl4 hMt4 hMg4 hTA_g4 hTL_g4 hTO_g4 hLk_g4 hBy_g4 hGr_g4 hm hr3 hwd hwd2 hmw hPa hml4 hmt4 hmg4 hgr hslb hlk hbb hms) (fun v g' hq => ?_)
        obtain ⟨hv, hf9, hq⟩ := hq
        exact ⟨hv, ((((mn_fr.rf.tr (F1.mo (fun q h => by have h9 : q = mo ∨ (mo + 7 ≤ q ∧ q ≤ mo + 16) := h; show q = mo ∨ (mo + 7 ≤ q ∧ q ≤ mo + 16); omega))).tr (f2.mo (fun q h => by have h9 : q = mo + 7 := h; show q = mo ∨ (mo + 7 ≤ q ∧ q ≤ mo + 16); omega))).tr (f3.mo (fun q h => by have h9 : q = mo + 7 := h; show q = mo ∨ (mo + 7 ≤ q ∧ q ≤ mo + 16); omega))).tr (f4.mo (fun q h => by have h9 : q = mo + 8 ∨ q = mo + 9 ∨ q = mo + 10 := h; show q = mo ∨ (mo + 7 ≤ q ∧ q ≤ mo + 16); omega))).tr hf9, ml4, mt4, mg4, hml4, hmt4, hmg4, hcp4, hq⟩
      · exact absurd c4 (by decide)
  · exact absurd c2 (by decide)
set_option maxRecDepth 100000 in
theorem c_M_read_y {E : mn_En} {g : mn_H} {mo tl e sz rp st m r wd ag td om : Nat} {ir : Int32} {m0 r0 wd0 : Nat} {sl ss ml mt mg tA tL tO lk bb gr : Nat → Nat} {pm : Nat → Option Nat} (hM : mn_at g mo (.inr (11, [.int 0, .ref (mo + 1), .int (nI tl), .ref (mo + 2), .ref (mo + 3), .int (nI e), .int (nI sz), .int (nI rp), .int (nI st), .ref (mo + 4), .ref (mo + 5), .ref (mo + 6), .int ir, .int (nI m0), .int (nI r0), .int (nI wd0), .int (nI ag), .ref (mo + 7), .ref (mo + 8), .ref (mo + 9), .ref (mo + 10), .int (nI td), .int (nI om), .ref (mo + 11), .ref (mo + 12), .ref (mo + 13), .ref (mo + 14), .ref (mo + 15), .ref (mo + 16)]))) (hSo : mn_at g (mo + 4) (.inl (0, 4800, .inl (fun j => nI (sl j))))) (hSs : mn_at g (mo + 5) (.inl (0, 60, .inl (fun j => nI (ss j))))) (hPm : mn_at g (mo + 7) (.inl (0, 64, .inl (fun j => onI (pm j))))) (hMl : mn_at g (mo + 8) (.inl (0, 64, .inl (fun j => nI (ml j))))) (hMt : mn_at g (mo + 9) (.inl (0, 64, .inl (fun j => nI (mt j))))) (hMg : mn_at g (mo + 10) (.inl (0, 4800, .inl (fun j => nI (mg j))))) (hTA : mn_at g (mo + 11) (.inl (0, 40, .inl (fun j => nI (tA j))))) (hTL : mn_at g (mo + 12) (.inl (0, 40, .inl (fun j => nI (tL j))))) (hTO : mn_at g (mo + 13) (.inl (0, 40, .inl (fun j => nI (tO j))))) (hLk : mn_at g (mo + 14) (.inl (0, 60, .inl (fun j => nI (lk j))))) (hBy : mn_at g (mo + 15) (.inl (0, 3, .inl (fun j => nI (bb j))))) (hGr : mn_at g (mo + 16) (.inl (0, 12, .inl (fun j => nI (gr j))))) {x f : Nat} (hx : x < 256) (hss : ∀ k, ss k ≤ 80) (hs20 : ∀ k, ss k = 0 ∨ 20 ≤ ss k) (hslb : ∀ j, sl j < 256) (hf : f < 60) (hgd : (sbS sl f 2 = x ∧ stN (sbS sl f) (ss f) = 1)) (hfs : ∀ s, s < f → ¬ (sbS sl s 2 = x ∧ stN (sbS sl s) (ss s) = 1)) (em : sl (80 * f + 4) = m) (er : sl (80 * f + 5) = r) (ew : ss f = wd) (hpa : ∀ j q, pm j = some q → q < 1000) (hml : ∀ j, ml j < 256) (hmt : ∀ j, mt j < 256) (hmg : ∀ j, mg j < 256) (hgr : ∀ j, gr j < 256) (hlk : ∀ j, lk j < 60) (hbb : ∀ j, bb j < 3) {ms : Nat} (hms : cnt (fun j => (plD ss (sbS sl) x f (nnP pm (m + r)) 60) j = none) m = ms) (hk0 : 0 < ms) (hyes : ms ≤ cnt (fun i => (plD ss (sbS sl) x f (nnP pm (m + r)) 60) (m + i) ≠ none) r) : mn_R E MMo_read 4 97 0 0 0 [(0, .ref mo), (1, .int (nI x))] [] g (fun v g' => v = some (.int (nI (cnt (fun j => tuP (plD ss (sbS sl) x f (nnP pm (m + r)) 60) (unK lk (plD ss (sbS sl) x f (nnP pm (m + r)) 60) m) ms j ≠ none) m))) ∧ mn_fr (fun q => q = mo ∨ (mo + 7 ≤ q ∧ q ≤ mo + 16)) g g' ∧ ∃ ml4 mt4 mg4 : Nat → Nat, (∀ j, ml4 j < 256) ∧ (∀ j, mt4 j < 256) ∧ (∀ j, mg4 j < 256) ∧ Cpd (plD ss (sbS sl) x f (nnP pm (m + r)) 60) sl (wd - 12) m ml4 mt4 mg4 ∧ ∃ (LK BB ml9 mt9 mg9 gr9 A9 L9 W9 : Nat → Nat) (t9 : Nat), LK = unK lk (plD ss (sbS sl) x f (nnP pm (m + r)) 60) m ∧ BB = (byS (plD ss (sbS sl) x f (nnP pm (m + r)) 60) m ms bb r).1 ∧ mn_at g' mo (.inr (11, [.int 0, .ref (mo + 1), .int (nI tl), .ref (mo + 2), .ref (mo + 3), .int (nI e), .int (nI sz), .int (nI rp), .int (nI st), .ref (mo + 4), .ref (mo + 5), .ref (mo + 6), .int 1, .int (nI m), .int (nI r), .int (nI wd), .int (nI ms), .ref (mo + 7), .ref (mo + 8), .ref (mo + 9), .ref (mo + 10), .int (nI t9), .int (nI (smW W9 t9)), .ref (mo + 11), .ref (mo + 12), .ref (mo + 13), .ref (mo + 14), .ref (mo + 15), .ref (mo + 16)])) ∧ mn_at g' (mo + 7) (.inl (0, 64, .inl (fun j => onI ((tuP (plD ss (sbS sl) x f (nnP pm (m + r)) 60) LK ms) j)))) ∧ mn_at g' (mo + 8) (.inl (0, 64, .inl (fun j => nI (ml9 j)))) ∧ mn_at g' (mo + 9) (.inl (0, 64, .inl (fun j => nI (mt9 j)))) ∧ mn_at g' (mo + 10) (.inl (0, 4800, .inl (fun j => nI (mg9 j)))) ∧ mn_at g' (mo + 11) (.inl (0, 40, .inl (fun j => nI (A9 j)))) ∧ mn_at g' (mo + 12) (.inl (0, 40, .inl (fun j => nI (L9 j)))) ∧ mn_at g' (mo + 13) (.inl (0, 40, .inl (fun j => nI (W9 j)))) ∧ mn_at g' (mo + 14) (.inl (0, 60, .inl (fun j => nI (LK j)))) ∧ mn_at g' (mo + 15) (.inl (0, 3, .inl (fun j => nI (BB j)))) ∧ mn_at g' (mo + 16) (.inl (0, 12, .inl (fun j => nI (gr9 j)))) ∧ (∀ j, ml9 j < 256) ∧ (∀ j, mt9 j < 256) ∧ (∀ j, mg9 j < 256) ∧ (∀ j, gr9 j < 256) ∧ ((∀ u, u < ms → ml9 (LK u) = XM BB LK (fun a0 => sl (80 * ((plD ss (sbS sl) x f (nnP pm (m + r)) 60) (m + BB a0)).getD 0 + 6)) (eL (plD ss (sbS sl) x f (nnP pm (m + r)) 60) ml4) m ms u) ∧ (∀ n, (∀ u, u < ms → n ≠ LK u) → ml9 n = ml4 n) ∧ (∀ u, u < ms → mt9 (LK u) = XM BB LK (fun a0 => sl (80 * ((plD ss (sbS sl) x f (nnP pm (m + r)) 60) (m + BB a0)).getD 0 + 7)) (eL (plD ss (sbS sl) x f (nnP pm (m + r)) 60) mt4) m ms u) ∧ (∀ n, (∀ u, u < ms → n ≠ LK u) → mt9 n = mt4 n) ∧ (∀ u, u < ms → ∀ i9, i9 < wd - 12 → mg9 (LK u * (wd - 12) + i9) = XM BB LK (fun a0 => sl (80 * ((plD ss (sbS sl) x f (nnP pm (m + r)) 60) (m + BB a0)).getD 0 + 12 + i9)) (eL (plD ss (sbS sl) x f (nnP pm (m + r)) 60) (fun n0 => mg4 (n0 * (wd - 12) + i9))) m ms u) ∧ (∀ p, (∀ u, u < ms → ¬ (LK u * (wd - 12) ≤ p ∧ p < LK u * (wd - 12) + (wd - 12))) → mg9 p = mg4 p)) ∧ t9 ≤ 40 ∧ Tld mg9 (eL (tuP (plD ss (sbS sl) x f (nnP pm (m + r)) 60) LK ms) ml9) mt9 m (wd - 12) t9 A9 L9 W9 ∧ (t9 = 40 ∨ tsq mg9 (eL (tuP (plD ss (sbS sl) x f (nnP pm (m + r)) 60) LK ms) ml9) mt9 m (wd - 12) t9 = none)) := by
  have hhd := stN_hd hgd.2
  have hm : m ≤ 60 := by have q1 := hhd.2.2.2.2.2.1; have q2 : sl (80 * f + 4) ≤ 60 := q1; omega
  have hr3 : r ≤ 3 := by have q1 := hhd.2.2.2.2.2.2.1; have q2 : sl (80 * f + 5) ≤ 3 := q1; omega
  have hwd : 20 ≤ wd := by have q1 := hhd.1; have q2 := hs20 f; omega
  have hwd2 : wd ≤ 80 := by have q1 := hss f; omega
  have hmw : m * (wd - 12) ≤ 4080 := Nat.le_trans (Nat.mul_le_mul hm (show wd - 12 ≤ 68 by omega)) (by decide)
  have hP0 : ∀ j, j < m + r → (plD ss (sbS sl) x f (nnP pm (m + r)) 60) j = plK ss (sbS sl) x f 60 j := fun j hj => plD_eq (by omega) (by unfold nnP; rw [if_pos hj])
  have hPa : ∀ j q, (plD ss (sbS sl) x f (nnP pm (m + r)) 60) j = some q → q < 1000 := fun j q h => plD_ok (nnP_ok hpa _) 60 j q (Nat.le_refl _) h
  have hP60 : ∀ j q, j < m + r → (plD ss (sbS sl) x f (nnP pm (m + r)) 60) j = some q → q < 60 := fun j q hj h => (plK_lt (by omega) ((hP0 j hj).symm.trans h)).1
  refine mn_aload_n 0 dMo_read_0 rfl rfl ?_
  refine mn_iconst (v := 0) dMo_read_1 (by decide) ?_
  refine mn_putf okMo 0 lMo_1 (by decide) rfl hM rfl rfl (Nat.le_of_ble_eq_true rfl) dMo_read_2 ?_
  obtain ⟨g1, eg1⟩ : ∃ gg_, gg_ = mn_set g mo (.inr (11, [.int 0, .ref (mo + 1), .int (nI tl), .ref (mo + 2), .ref (mo + 3), .int (nI e), .int (nI sz), .int (nI rp), .int (nI st), .ref (mo + 4), .ref (mo + 5), .ref (mo + 6), .int ir, .int (nI m0), .int (nI r0), .int (nI wd0), .int (nI ag), .ref (mo + 7), .ref (mo + 8), .ref (mo + 9), .ref (mo + 10), .int (nI td), .int (nI om), .ref (mo + 11), .ref (mo + 12), .ref (mo + 13), .ref (mo + 14), .ref (mo + 15), .ref (mo + 16)])) := ⟨_, rfl⟩
  refine mn_R.toG eg1 ?_
  have hM_g1 : mn_at g1 mo (.inr (11, [.int 0, .ref (mo + 1), .int (nI tl), .ref (mo + 2), .ref (mo + 3), .int (nI e), .int (nI sz), .int (nI rp), .int (nI st), .ref (mo + 4), .ref (mo + 5), .ref (mo + 6), .int ir, .int (nI m0), .int (nI r0), .int (nI wd0), .int (nI ag), .ref (mo + 7), .ref (mo + 8), .ref (mo + 9), .ref (mo + 10), .int (nI td), .int (nI om), .ref (mo + 11), .ref (mo + 12), .ref (mo + 13), .ref (mo + 14), .ref (mo + 15), .ref (mo + 16)])) := by rw [eg1]; exact hM.same
  have hSo_g1 : mn_at g1 (mo + 4) (.inl (0, 4800, .inl (fun j => nI (sl j)))) := by rw [eg1]; exact hSo.off (by omega)
  have hSs_g1 : mn_at g1 (mo + 5) (.inl (0, 60, .inl (fun j => nI (ss j)))) := by rw [eg1]; exact hSs.off (by omega)
  have hPm_g1 : mn_at g1 (mo + 7) (.inl (0, 64, .inl (fun j => onI (pm j)))) := by rw [eg1]; exact hPm.off (by omega)
  have hMl_g1 : mn_at g1 (mo + 8) (.inl (0, 64, .inl (fun j => nI (ml j)))) := by rw [eg1]; exact hMl.off (by omega)
  have hMt_g1 : mn_at g1 (mo + 9) (.inl (0, 64, .inl (fun j => nI (mt j)))) := by rw [eg1]; exact hMt.off (by omega)
  have hMg_g1 : mn_at g1 (mo + 10) (.inl (0, 4800, .inl (fun j => nI (mg j)))) := by rw [eg1]; exact hMg.off (by omega)
  have hTA_g1 : mn_at g1 (mo + 11) (.inl (0, 40, .inl (fun j => nI (tA j)))) := by rw [eg1]; exact hTA.off (by omega)
  have hTL_g1 : mn_at g1 (mo + 12) (.inl (0, 40, .inl (fun j => nI (tL j)))) := by rw [eg1]; exact hTL.off (by omega)
  have hTO_g1 : mn_at g1 (mo + 13) (.inl (0, 40, .inl (fun j => nI (tO j)))) := by rw [eg1]; exact hTO.off (by omega)
  have hLk_g1 : mn_at g1 (mo + 14) (.inl (0, 60, .inl (fun j => nI (lk j)))) := by rw [eg1]; exact hLk.off (by omega)
  have hBy_g1 : mn_at g1 (mo + 15) (.inl (0, 3, .inl (fun j => nI (bb j)))) := by rw [eg1]; exact hBy.off (by omega)
  have hGr_g1 : mn_at g1 (mo + 16) (.inl (0, 12, .inl (fun j => nI (gr j)))) := by rw [eg1]; exact hGr.off (by omega)
  refine mn_iload_n 1 dMo_read_5 rfl rfl ?_
  refine mn_iconst (v := 0) dMo_read_6 (by decide) ?_
  refine mn_sipush (v := 255) dMo_read_7 (by decide) ?_
  refine mn_cS (d' := 0) (w' := 0) (As := [.int (nI x), .int 0, .int 255]) (stk' := [.int 1]) okMo_in lMo_68 dMo_read_10 rfl rfl (Nat.le_of_ble_eq_true rfl) (Nat.le_of_ble_eq_true rfl) (by decide) (c_M_in_y (nI_pos (by omega)) (ml_lt (a := x) (b := 255) (by omega) (by omega) (by omega))) rfl ?_
  refine mn_if_ne 18 dMo_read_13 (by decide) (fun c2 => ?_) (fun c2 => ?_)
  · refine mn_aload_n 0 dMo_read_18 rfl rfl ?_
    refine mn_iconst (v := 0) dMo_read_19 (by decide) ?_
    refine mn_putf okMo 12 lMo_140 (by decide) rfl hM_g1 rfl rfl (Nat.le_of_ble_eq_true rfl) dMo_read_20 ?_
    obtain ⟨g3, eg3⟩ : ∃ gg_, gg_ = mn_set g1 mo (.inr (11, [.int 0, .ref (mo + 1), .int (nI tl), .ref (mo + 2), .ref (mo + 3), .int (nI e), .int (nI sz), .int (nI rp), .int (nI st), .ref (mo + 4), .ref (mo + 5), .ref (mo + 6), .int 0, .int (nI m0), .int (nI r0), .int (nI wd0), .int (nI ag), .ref (mo + 7), .ref (mo + 8), .ref (mo + 9), .ref (mo + 10), .int (nI td), .int (nI om), .ref (mo + 11), .ref (mo + 12), .ref (mo + 13), .ref (mo + 14), .ref (mo + 15), .ref (mo + 16)])) := ⟨_, rfl⟩
    refine mn_R.toG eg3 ?_
    have hM_g3 : mn_at g3 mo (.inr (11, [.int 0, .ref (mo + 1), .int (nI tl), .ref (mo + 2), .ref (mo + 3), .int (nI e), .int (nI sz), .int (nI rp), .int (nI st), .ref (mo + 4), .ref (mo + 5), .ref (mo + 6), .int 0, .int (nI m0), .int (nI r0), .int (nI wd0), .int (nI ag), .ref (mo + 7), .ref (mo + 8), .ref (mo + 9), .ref (mo + 10), .int (nI td), .int (nI om), .ref (mo + 11), .ref (mo + 12), .ref (mo + 13), .ref (mo + 14), .ref (mo + 15), .ref (mo + 16)])) := by rw [eg3]; exact hM_g1.same
    have hSo_g3 : mn_at g3 (mo + 4) (.inl (0, 4800, .inl (fun j => nI (sl j)))) := by rw [eg3]; exact hSo_g1.off (by omega)
    have hSs_g3 : mn_at g3 (mo + 5) (.inl (0, 60, .inl (fun j => nI (ss j)))) := by rw [eg3]; exact hSs_g1.off (by omega)
    have hPm_g3 : mn_at g3 (mo + 7) (.inl (0, 64, .inl (fun j => onI (pm j)))) := by rw [eg3]; exact hPm_g1.off (by omega)
    have hMl_g3 : mn_at g3 (mo + 8) (.inl (0, 64, .inl (fun j => nI (ml j)))) := by rw [eg3]; exact hMl_g1.off (by omega)
    have hMt_g3 : mn_at g3 (mo + 9) (.inl (0, 64, .inl (fun j => nI (mt j)))) := by rw [eg3]; exact hMt_g1.off (by omega)
    have hMg_g3 : mn_at g3 (mo + 10) (.inl (0, 4800, .inl (fun j => nI (mg j)))) := by rw [eg3]; exact hMg_g1.off (by omega)
    have hTA_g3 : mn_at g3 (mo + 11) (.inl (0, 40, .inl (fun j => nI (tA j)))) := by rw [eg3]; exact hTA_g1.off (by omega)
    have hTL_g3 : mn_at g3 (mo + 12) (.inl (0, 40, .inl (fun j => nI (tL j)))) := by rw [eg3]; exact hTL_g1.off (by omega)
    have hTO_g3 : mn_at g3 (mo + 13) (.inl (0, 40, .inl (fun j => nI (tO j)))) := by rw [eg3]; exact hTO_g1.off (by omega)
    have hLk_g3 : mn_at g3 (mo + 14) (.inl (0, 60, .inl (fun j => nI (lk j)))) := by rw [eg3]; exact hLk_g1.off (by omega)
    have hBy_g3 : mn_at g3 (mo + 15) (.inl (0, 3, .inl (fun j => nI (bb j)))) := by rw [eg3]; exact hBy_g1.off (by omega)
    have hGr_g3 : mn_at g3 (mo + 16) (.inl (0, 12, .inl (fun j => nI (gr j)))) := by rw [eg3]; exact hGr_g1.off (by omega)
    refine mn_iconst (v := 0) dMo_read_23 (by decide) ?_
    refine mn_istore_n (ls' := [(0, .ref mo), (1, .int (nI x)), (2, .int 0)]) dMo_read_24 rfl (by decide) rfl ?_
    refine c_M_rd1 hM_g3 hSo_g3 hSs_g3 hx hss hs20 hslb ?_ ?_ 61 0 (by omega) (by omega) (fun s9 hs9 => absurd hs9 (by omega))
    · exact fun hall => absurd hgd (hall f hf)
    · intro f9 g1 q1 q2 q3 f1 hM1
      obtain rfl : f9 = f := fst_uni (P := fun s => sbS sl s 2 = x ∧ stN (sbS sl s) (ss s) = 1) q2 q3 hgd hfs
      rw [em, er, ew] at hM1
      have hSo_g1 := hSo_g3.fr f1 (fun h => by have h9 : (mo + 4) = mo := h; omega)
      have hSs_g1 := hSs_g3.fr f1 (fun h => by have h9 : (mo + 5) = mo := h; omega)
      have hPm_g1 := hPm_g3.fr f1 (fun h => by have h9 : (mo + 7) = mo := h; omega)
      have hMl_g1 := hMl_g3.fr f1 (fun h => by have h9 : (mo + 8) = mo := h; omega)
      have hMt_g1 := hMt_g3.fr f1 (fun h => by have h9 : (mo + 9) = mo := h; omega)
      have hMg_g1 := hMg_g3.fr f1 (fun h => by have h9 : (mo + 10) = mo := h; omega)
      have hTA_g1 := hTA_g3.fr f1 (fun h => by have h9 : (mo + 11) = mo := h; omega)
      have hTL_g1 := hTL_g3.fr f1 (fun h => by have h9 : (mo + 12) = mo := h; omega)
      have hTO_g1 := hTO_g3.fr f1 (fun h => by have h9 : (mo + 13) = mo := h; omega)
      have hLk_g1 := hLk_g3.fr f1 (fun h => by have h9 : (mo + 14) = mo := h; omega)
      have hBy_g1 := hBy_g3.fr f1 (fun h => by have h9 : (mo + 15) = mo := h; omega)
      have hGr_g1 := hGr_g3.fr f1 (fun h => by have h9 : (mo + 16) = mo := h; omega)
      have F1 : mn_fr (fun q => q = mo ∨ (mo + 7 ≤ q ∧ q ≤ mo + 16)) g g1 := (((mn_fr.rf.set eg1 (by show mo = mo ∨ (mo + 7 ≤ mo ∧ mo ≤ mo + 16); omega)).set eg3 (by show mo = mo ∨ (mo + 7 ≤ mo ∧ mo ≤ mo + 16); omega)).tr (f1.mo (fun q h => by have h9 : q = mo := h; show q = mo ∨ (mo + 7 ≤ q ∧ q ≤ mo + 16); omega)))
      refine mn_aload_n 0 dMo_read_113 rfl rfl ?_
      refine mn_get okMo 12 lMo_140 (by decide) hM1 rfl dMo_read_114 ?_
      refine mn_if_ne 123 dMo_read_117 (by decide) (fun c4 => ?_) (fun c4 => ?_)
      · refine mn_iconst (v := 0) dMo_read_123 (by decide) ?_
        refine mn_istore_n (ls' := [(0, .ref mo), (1, .int (nI x)), (2, .int 0)]) dMo_read_124 rfl (by decide) rfl ?_
        have h9 : mn_at g1 (mo + 7) (.inl (0, 64, .inl (fun j => onI ((nnP pm 0) j)))) := by rw [nnP_0]; exact hPm_g1
        refine c_M_rd2 hm hr3 (fun g2 f2 hM2 hPm2 => ?_) (m + r + 1) 0 g1 (by omega) (by omega) mn_fr.rf hM1 h9
        have hSo_g2 := hSo_g1.fr f2 (fun h => by have h9 : (mo + 4) = mo + 7 := h; omega)
        have hSs_g2 := hSs_g1.fr f2 (fun h => by have h9 : (mo + 5) = mo + 7 := h; omega)
        have hMl_g2 := hMl_g1.fr f2 (fun h => by have h9 : (mo + 8) = mo + 7 := h; omega)
        have hMt_g2 := hMt_g1.fr f2 (fun h => by have h9 : (mo + 9) = mo + 7 := h; omega)
        have hMg_g2 := hMg_g1.fr f2 (fun h => by have h9 : (mo + 10) = mo + 7 := h; omega)
        have hTA_g2 := hTA_g1.fr f2 (fun h => by have h9 : (mo + 11) = mo + 7 := h; omega)
        have hTL_g2 := hTL_g1.fr f2 (fun h => by have h9 : (mo + 12) = mo + 7 := h; omega)
        have hTO_g2 := hTO_g1.fr f2 (fun h => by have h9 : (mo + 13) = mo + 7 := h; omega)
        have hLk_g2 := hLk_g1.fr f2 (fun h => by have h9 : (mo + 14) = mo + 7 := h; omega)
        have hBy_g2 := hBy_g1.fr f2 (fun h => by have h9 : (mo + 15) = mo + 7 := h; omega)
        have hGr_g2 := hGr_g1.fr f2 (fun h => by have h9 : (mo + 16) = mo + 7 := h; omega)
        refine mn_bipush (v := 59) dMo_read_152 (by decide) ?_
        refine mn_istore_n (ls' := [(0, .ref mo), (1, .int (nI x)), (2, .int 59)]) dMo_read_154 rfl (by decide) rfl ?_
        refine c_M_rd3 (f := f9) (p0 := nnP pm (m + r)) hx hss hs20 hslb hm hr3 hwd2 em.symm er.symm ew.symm (fun g3 f3 hM3 hSo3 hSs3 hPm3 => ?_) 60 59 g2 (by omega) (by omega) mn_fr.rf hM2 hSo_g2 hSs_g2 hPm2
        have hMl_g3 := hMl_g2.fr f3 (fun h => by have h9 : (mo + 8) = mo + 7 := h; omega)
        have hMt_g3 := hMt_g2.fr f3 (fun h => by have h9 : (mo + 9) = mo + 7 := h; omega)
        have hMg_g3 := hMg_g2.fr f3 (fun h => by have h9 : (mo + 10) = mo + 7 := h; omega)
        have hTA_g3 := hTA_g2.fr f3 (fun h => by have h9 : (mo + 11) = mo + 7 := h; omega)
        have hTL_g3 := hTL_g2.fr f3 (fun h => by have h9 : (mo + 12) = mo + 7 := h; omega)
        have hTO_g3 := hTO_g2.fr f3 (fun h => by have h9 : (mo + 13) = mo + 7 := h; omega)
        have hLk_g3 := hLk_g2.fr f3 (fun h => by have h9 : (mo + 14) = mo + 7 := h; omega)
        have hBy_g3 := hBy_g2.fr f3 (fun h => by have h9 : (mo + 15) = mo + 7 := h; omega)
        have hGr_g3 := hGr_g2.fr f3 (fun h => by have h9 : (mo + 16) = mo + 7 := h; omega)
        refine mn_iconst (v := 0) dMo_read_248 (by decide) ?_
        refine mn_istore_n (ls' := [(0, .ref mo), (1, .int (nI x)), (2, .int 0)]) dMo_read_249 rfl (by decide) rfl ?_
        refine c_M_rd4 hm hwd hwd2 hmw hslb (fun j q _ h => hPa j q h) (fun j q hj h => hP60 j q (by omega) h) (fun g4 ml4 mt4 mg4 f4 hml4 hmt4 hmg4 hcp4 hM4 hSo4 hPm4 hMl4 hMt4 hMg4 => ?_) (m + 1) 0 g3 ml mt mg (by omega) (by omega) mn_fr.rf hml hmt hmg (fun v k hv => absurd hv (by omega)) hM3 hSo3 hPm3 hMl_g3 hMt_g3 hMg_g3
        have hSs3_g4 := hSs3.fr f4 (fun h => by have h9 : (mo + 5) = mo + 8 ∨ (mo + 5) = mo + 9 ∨ (mo + 5) = mo + 10 := h; omega)
        have hTA_g4 := hTA_g3.fr f4 (fun h => by have h9 : (mo + 11) = mo + 8 ∨ (mo + 11) = mo + 9 ∨ (mo + 11) = mo + 10 := h; omega)
        have hTL_g4 := hTL_g3.fr f4 (fun h => by have h9 : (mo + 12) = mo + 8 ∨ (mo + 12) = mo + 9 ∨ (mo + 12) = mo + 10 := h; omega)
        have hTO_g4 := hTO_g3.fr f4 (fun h => by have h9 : (mo + 13) = mo + 8 ∨ (mo + 13) = mo + 9 ∨ (mo + 13) = mo + 10 := h; omega)
        have hLk_g4 := hLk_g3.fr f4 (fun h => by have h9 : (mo + 14) = mo + 8 ∨ (mo + 14) = mo + 9 ∨ (mo + 14) = mo + 10 := h; omega)
        have hBy_g4 := hBy_g3.fr f4 (fun h => by have h9 : (mo + 15) = mo + 8 ∨ (mo + 15) = mo + 9 ∨ (mo + 15) = mo + 10 := h; omega)
        have hGr_g4 := hGr_g3.fr f4 (fun h => by have h9 : (mo + 16) = mo + 8 ∨ (mo + 16) = mo + 9 ∨ (mo + 16) = mo + 10 := h; omega)
        refine mn_R.post (c_M_rd5_y (x := x) hM4 hSo4 hPm4 hMl4 hMt4 hMg4 hTA_g4 hTL_g4 hTO_g4 hLk_g4 hBy_g4 hGr_g4 hm hr3 hwd hwd2 hmw hPa hml4 hmt4 hmg4 hgr hslb hlk hbb hP60 hms hk0 hyes) (fun v g' hq => ?_)
        obtain ⟨hv, hf9, hq⟩ := hq
        exact ⟨hv, ((((mn_fr.rf.tr (F1.mo (fun q h => by have h9 : q = mo ∨ (mo + 7 ≤ q ∧ q ≤ mo + 16) := h; show q = mo ∨ (mo + 7 ≤ q ∧ q ≤ mo + 16); omega))).tr (f2.mo (fun q h => by have h9 : q = mo + 7 := h; show q = mo ∨ (mo + 7 ≤ q ∧ q ≤ mo + 16); omega))).tr (f3.mo (fun q h => by have h9 : q = mo + 7 := h; show q = mo ∨ (mo + 7 ≤ q ∧ q ≤ mo + 16); omega))).tr (f4.mo (fun q h => by have h9 : q = mo + 8 ∨ q = mo + 9 ∨ q = mo + 10 := h; show q = mo ∨ (mo + 7 ≤ q ∧ q ≤ mo + 16); omega))).tr hf9, ml4, mt4, mg4, hml4, hmt4, hmg4, hcp4, hq⟩
      · exact absurd c4 (by decide)
  · exact absurd c2 (by decide)
