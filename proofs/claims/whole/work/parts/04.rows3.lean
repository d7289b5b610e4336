/-! MINE: rows that write and make -/
theorem mn_v_def (E : mn_En) (t : FieldType) : mn_v E (defaultValue t) = defaultValue t := by cases t <;> rfl
section MNPUT
variable {E : mn_En} {M : mn_M} {d w nc ns pc i a ci : Nat} {ls : List (Nat × Value)} {st : List Value} {g : mn_H} {Q : Option Value → mn_H → Prop}
theorem mn_in {c0 : mn_C} (hat : mn_at g a c0) : mn_F E (mn_ad E a) := by
  show mn_Z E < mn_ad E a
  rw [mn_ad_pos hat.1]
  have := hat.1
  omega
theorem mn_putf {C : String} {T : u_T} {N : Nat} {ty : Nat → FieldType} {fs : List Value} {v : Value} (oc : mn_okC ci C T N ty) (k0 : Nat) (lk : Cond.fieldLink M.1.cls i (T k0).1 (T k0).2.1 (T k0).2.2.1 ∈ mn_W) (hk : k0 < N) (hfin : (T k0).2.2.2 = false) (hat : mn_at g a (.inr (ci, fs))) (hn : narrow (ty k0) (mn_v E v) = mn_v E v) (hf : fits (ty k0) (mn_v E v) = true) (hlen : k0 < fs.length) (hdg : decode M.2.1 pc = .ok (.putfield i, 3))
    (k : mn_R E M d w nc ns (pc + 3) ls st (mn_set g a (.inr (ci, fs.set k0 v))) Q) : mn_R E M d w nc ns pc ls (v :: .ref a :: st) g Q := by
  intro p e s m args below meth c H locs cells slots lsr R X Y hl hr
  have hts := X.hts
  have hap := va_apart (own := M.1.cls) hts oc.2.1 ty oc.2.2.1 oc.2.2.2 X.K.1 oc.1
  obtain ⟨r, h1, cell, q1, q2, q3, q4⟩ := Y.1 (a - 1) _ (mn_ws_get hat)
  have hr' : r = (C, T, N) := Option.some.inj (h1.symm.trans oc.1)
  subst hr'
  obtain ⟨hS, hfc, kC, hkC, hkind⟩ := X.K.1.1 ci _ oc.1
  obtain ⟨cf, kf, fi, f, hi, hsl⟩ := hS k0 hk
  have hlay := hts _ (oc.2.1 _ (u_in_lay hk))
  unfold u_lay at hlay
  rw [if_neg (by rw [hfin]; decide)] at hlay
  have hst := (u_facts hfc hkC (u_lays hts oc.2.1 hk) hi).1
  have h6 := u_store hfc hkC hkind hlay hi (oc.2.2.1 k0 hk) hn hf
  refine W.putK X.1 X.2.1 (f := f) ⟨X.own, hts _ lk, ⟨_, _, _, hi⟩, hst⟩ (by rw [q2]; exact h6) q1 q3 (by rw [hsl]; exact k2_hasslot (q4 k0 hk)) rfl rfl hdg fun H' e1 e2 e3 => ?_
  rw [hsl] at e1 ⊢
  have hP' := (Y.1).set (e := mn_E E (.inr (ci, fs.set k0 v))) mn_ws_D (mn_ws_get hat) ⟨_, oc.1, t_OB.to (V := updV (vp_V (fs.map (mn_v E))) k0 (mn_v E v)) ⟨_, e1, q2, q3, t_set q4 hap hk (mn_v E v)⟩ (fun j _ => by
    rw [vp_updV_set (by rw [List.length_map]; exact hlen)]
    show _ = vp_V ((fs.set k0 v).map (mn_v E)) j
    rw [List.map_set])⟩ e3
  rw [mn_ws_set hat] at hP'
  exact k p e s m args below meth c H' _ cells slots lsr R X ⟨hP', e2.trans Y.2.1, Y.2.2.1, Y.2.2.2.put e2 e3 (mn_in hat)⟩ hl hr
/-- a final field, in the constructor of its class -/
theorem mn_putF {C : String} {T : u_T} {N : Nat} {ty : Nat → FieldType} {fs : List Value} {v : Value} (oc : mn_okC ci C T N ty) (k0 : Nat) (lk : Cond.fieldLink M.1.cls i (T k0).1 (T k0).2.1 (T k0).2.2.1 ∈ mn_W) (hk : k0 < N) (hfin : (T k0).2.2.2 = true) (hin : M.1.name = "<init>") (hdecl : (T k0).1 = M.1.cls) (hat : mn_at g a (.inr (ci, fs))) (hn : narrow (ty k0) (mn_v E v) = mn_v E v) (hf : fits (ty k0) (mn_v E v) = true) (hlen : k0 < fs.length) (hdg : decode M.2.1 pc = .ok (.putfield i, 3))
    (k : mn_R E M d w nc ns (pc + 3) ls st (mn_set g a (.inr (ci, fs.set k0 v))) Q) : mn_R E M d w nc ns pc ls (v :: .ref a :: st) g Q := by
  intro p e s m args below meth c H locs cells slots lsr R X Y hl hr
  have hts := X.hts
  have hap := va_apart (own := M.1.cls) hts oc.2.1 ty oc.2.2.1 oc.2.2.2 X.K.1 oc.1
  obtain ⟨r, h1, cell, q1, q2, q3, q4⟩ := Y.1 (a - 1) _ (mn_ws_get hat)
  have hr' : r = (C, T, N) := Option.some.inj (h1.symm.trans oc.1)
  subst hr'
  obtain ⟨hS, hfc, kC, hkC, hkind⟩ := X.K.1.1 ci _ oc.1
  obtain ⟨cf, kf, fi, f, hi, hsl⟩ := hS k0 hk
  have hlay := hts _ (oc.2.1 _ (u_in_lay hk))
  unfold u_lay at hlay
  rw [if_pos hfin] at hlay
  have hst := (u_facts hfc hkC (u_lays hts oc.2.1 hk) hi).1
  have hcf : m.cls = cf := by
    obtain ⟨_, _, c', _, _, _, -, -, hf', -, -, -, hown2, -⟩ := Cond.laysFinal_spec hlay
    have e1 : c' = cf := by have := hi.symm.trans hf'; simp at this; exact this.1.symm
    rw [hdecl] at hown2
    rw [← e1]; exact Option.some.inj (X.own.symm.trans hown2)
  have h6 := u_fits hfc hkC hkind (Or.inr hlay) hi (oc.2.2.1 k0 hk) hn hf
  refine W.putFinK X.1 X.2.1 X.own (hts _ lk) hi hst hcf ((X.name hin).trans hin) (by rw [q2]; exact h6) q1 q3 (by rw [hsl]; exact k2_hasslot (q4 k0 hk)) rfl rfl hdg fun H' e1 e2 e3 => ?_
  rw [hsl] at e1 ⊢
  have hP' := (Y.1).set (e := mn_E E (.inr (ci, fs.set k0 v))) mn_ws_D (mn_ws_get hat) ⟨_, oc.1, t_OB.to (V := updV (vp_V (fs.map (mn_v E))) k0 (mn_v E v)) ⟨_, e1, q2, q3, t_set q4 hap hk (mn_v E v)⟩ (fun j _ => by
    rw [vp_updV_set (by rw [List.length_map]; exact hlen)]
    show _ = vp_V ((fs.set k0 v).map (mn_v E)) j
    rw [List.map_set])⟩ e3
  rw [mn_ws_set hat] at hP'
  exact k p e s m args below meth c H' _ cells slots lsr R X ⟨hP', e2.trans Y.2.1, Y.2.2.1, Y.2.2.2.put e2 e3 (mn_in hat)⟩ hl hr
theorem mn_iald {t n : Nat} {f : Nat → Int32} {j : Int32} (hat : mn_at g a (.inl (t, n, .inl f))) (ht : mn_T[t]? = some .int) (hin : vp_in j n) (hdg : decode M.2.1 pc = .ok (.iaload, 1)) (k : mn_R E M d w nc ns (pc + 1) ls (.int (f j.toNatClampNeg) :: st) g Q) : mn_R E M d w nc ns pc ls (.int j :: .ref a :: st) g Q :=
  fun p e s m args below meth c H locs cells slots lsr R X Y hl hr => va_iald (n := n) (f := f) X.1 X.2.1 X.K.1 Y.1 (a - 1) t (mn_ws_get hat) (mn_ty_get ht) hin hdg (k p e s m args below meth c H locs cells slots lsr R X Y hl hr)
theorem mn_iast {t n : Nat} {f : Nat → Int32} {j x : Int32} (hat : mn_at g a (.inl (t, n, .inl f))) (ht : mn_T[t]? = some .int) (hin : vp_in j n) (hdg : decode M.2.1 pc = .ok (.iastore, 1)) (k : mn_R E M d w nc ns (pc + 1) ls st (mn_set g a (.inl (t, n, .inl (upd f j.toNatClampNeg x)))) Q) : mn_R E M d w nc ns pc ls (.int x :: .int j :: .ref a :: st) g Q := by
  intro p e s m args below meth c H locs cells slots lsr R X Y hl hr
  have hc : H[mn_ad E a]? = some (vp_cell (E.2.2.1 t) (n, .inl f)) := Y.1 (a - 1) _ (mn_ws_get hat)
  refine W.iast X.1 X.2.1 hc ((X.K.1.2 t _ (mn_ty_get ht)).1 n (fun j => .int (f j))) (fun q => by cases q) (by show ¬ (j < 0 ∨ (arrV _ _ _).slots.size ≤ _); rw [arrV_size]; exact hin) rfl rfl hdg fun H1 e1 z oq => ?_
  have hP' := (Y.1).set (e := mn_E E (.inl (t, n, .inl (upd f j.toNatClampNeg x)))) mn_ws_D (mn_ws_get hat) (by
    show H1[mn_ad E a]? = some (vp_cell (E.2.2.1 t) (n, .inl (upd f j.toNatClampNeg x)))
    rw [e1, vp_cell_i, vp_cell_i, arrV_store]
    congr 2
    funext q
    by_cases hq : q = j.toNatClampNeg
    · subst hq
      simp [updV, upd]
    · simp [updV, upd, hq]) oq
  rw [mn_ws_set hat] at hP'
  exact k p e s m args below meth c H1 _ cells slots lsr R X ⟨hP', z.trans Y.2.1, Y.2.2.1, Y.2.2.2.put z oq (mn_in hat)⟩ hl hr
theorem mn_alen {t n : Nat} {x : (Nat → Int32) ⊕ (Nat → Int64) ⊕ (Nat → UInt32) ⊕ (Nat → UInt64) ⊕ (Nat → Option Nat)} {ty : FieldType} (hat : mn_at g a (.inl (t, n, x))) (ht : mn_T[t]? = some ty) (hdg : decode M.2.1 pc = .ok (.arraylength, 1)) (k : mn_R E M d w nc ns (pc + 1) ls (.int (nI n) :: st) g Q) : mn_R E M d w nc ns pc ls (.ref a :: st) g Q :=
  fun p e s m args below meth c H locs cells slots lsr R X Y hl hr => va_alen (v := nI n) X.1 X.2.1 X.K.1 Y.1 (a - 1) t (mn_ws_get hat) (mn_ty_get ht) rfl hdg (k p e s m args below meth c H locs cells slots lsr R X Y hl hr)
/-- a reference out of an array; y is the cell that lies there -/
theorem mn_aald {t n y : Nat} {f : Nat → Option Nat} {j : Int32} {ty : FieldType} (hat : mn_at g a (.inl (t, n, .inr (.inr (.inr (.inr f)))))) (ht : mn_T[t]? = some ty) (hty : ty.isReference = true) (hin : vp_in j n) (hy : f j.toNatClampNeg = some y) (hdg : decode M.2.1 pc = .ok (.aaload, 1)) (k : mn_R E M d w nc ns (pc + 1) ls (.ref y :: st) g Q) : mn_R E M d w nc ns pc ls (.int j :: .ref a :: st) g Q := by
  intro p e s m args below meth c H locs cells slots lsr R X Y hl hr
  have hlt : j.toNatClampNeg < n := Nat.not_le.mp fun q => hin (Or.inr q)
  have hc : H[mn_ad E a]? = some (vp_cell (E.2.2.1 t) (n, .inr (.inr (.inr (.inr (fun i => (f i).map (mn_ad E))))))) := Y.1 (a - 1) _ (mn_ws_get hat)
  exact W.aald (v := .ref (mn_ad E y)) (ty := ty) X.1 X.2.1 hc ((X.K.1.2 t _ (mn_ty_get ht)).1 n (fun j => va_rf ((f j).map (mn_ad E)))) hty (fun q => by cases q) (by show ¬ (j < 0 ∨ (arrV _ _ _).slots.size ≤ _); rw [arrV_size]; exact hin) (by show (arrV _ _ _).slots[_]? = _; rw [arrV_read _ _ hlt]; show some (va_rf ((f j.toNatClampNeg).map (mn_ad E))) = _; rw [hy]; rfl) rfl rfl hdg (k p e s m args below meth c H locs cells slots lsr R X Y hl hr)
/-- a reference into an array of references to objects -/
theorem mn_aast {t n y : Nat} {r : vw_C} {f : Nat → Option Nat} {vs : List Value} {j : Int32} (hat : mn_at g a (.inl (t, n, .inr (.inr (.inr (.inr f)))))) (hc : vwCl[ci]? = some r) (ht : mn_T[t]? = some (.object r.1)) (hav : mn_at g y (.inr (ci, vs))) (hin : vp_in j n) (hdg : decode M.2.1 pc = .ok (.aastore, 1)) (k : mn_R E M d w nc ns (pc + 1) ls st (mn_set g a (.inl (t, n, .inr (.inr (.inr (.inr (va_up f j.toNatClampNeg (some y)))))))) Q) : mn_R E M d w nc ns pc ls (.ref y :: .int j :: .ref a :: st) g Q := by
  intro p e s m args below meth c H locs cells slots lsr R X Y hl hr
  have hlt : j.toNatClampNeg < n := Nat.not_le.mp fun q => hin (Or.inr q)
  have h0 : ¬ j < 0 := fun q => hin (Or.inl q)
  obtain ⟨r', hr', cellV, g1, g2, g3, -⟩ := Y.1 (y - 1) _ (mn_ws_get hav)
  have hcl := (X.K.1.1 ci r hc).2
  obtain ⟨kA, comp, k1, k2, k3, -⟩ := (X.K.1.2 t _ (mn_ty_get ht)).2
  have hcomp : comp = E.2.1.1 ci := Option.some.inj (k3.symm.trans hcl.1)
  subst hcomp
  obtain ⟨kC, hkC, -⟩ := hcl.2
  have hcc : H[mn_ad E a]? = some (vp_cell (E.2.2.1 t) (n, .inr (.inr (.inr (.inr (fun i => (f i).map (mn_ad E))))))) := Y.1 (a - 1) _ (mn_ws_get hat)
  refine W.aast X.1 X.2.1 hcc (fun q h => by cases h) (fun h => by cases h) k1 k2 rfl hkC ⟨h0, by show _ < (arrV _ _ _).slots.size; rw [arrV_size]; exact hlt⟩ g1 (fun q h => by rw [g3] at h; cases h) (by rw [g2]; exact hkC) (by rw [g2]; exact va_assign hcl) rfl rfl hdg fun H1 e1 z oq => ?_
  have hP' := (Y.1).set (e := mn_E E (.inl (t, n, .inr (.inr (.inr (.inr (va_up f j.toNatClampNeg (some y)))))))) mn_ws_D (mn_ws_get hat) (by
    show H1[mn_ad E a]? = some (vp_cell (E.2.2.1 t) (n, .inr (.inr (.inr (.inr (fun i => (va_up f j.toNatClampNeg (some y) i).map (mn_ad E)))))))
    rw [e1, vp_cell_q, vp_cell_q, arrV_store]
    congr 2
    funext q
    by_cases hq : q = j.toNatClampNeg
    · subst hq
      simp [updV, va_up, va_rf]
    · simp [updV, va_up, hq]) oq
  rw [mn_ws_set hat] at hP'
  exact k p e s m args below meth c H1 _ cells slots lsr R X ⟨hP', z.trans Y.2.1, Y.2.2.1, Y.2.2.2.put z oq (mn_in hat)⟩ hl hr
/-- the script -/
theorem mn_sld {j : Int32} (hin : vp_in j E.2.2.2.2.2.1) (hdg : decode M.2.1 pc = .ok (.iaload, 1)) (k : mn_R E M d w nc ns (pc + 1) ls (.int (E.2.2.2.2.2.2 j.toNatClampNeg) :: st) g Q) : mn_R E M d w nc ns pc ls (.int j :: .ref 0 :: st) g Q :=
  fun p e s m args below meth c H locs cells slots lsr R X Y hl hr => va_sld X.1 X.2.1 X.scr.1 (Nat.lt_of_le_of_lt X.scr.2.1 X.scr.2.2) (Nat.not_lt.mpr X.scr.2.1) Y.2.2.2 hin hdg (k p e s m args below meth c H locs cells slots lsr R X Y hl hr)
theorem mn_slen (hdg : decode M.2.1 pc = .ok (.arraylength, 1)) (k : mn_R E M d w nc ns (pc + 1) ls (.int (nI E.2.2.2.2.2.1) :: st) g Q) : mn_R E M d w nc ns pc ls (.ref 0 :: st) g Q :=
  fun p e s m args below meth c H locs cells slots lsr R X Y hl hr => va_slen X.1 X.2.1 X.scr.1 (Nat.lt_of_le_of_lt X.scr.2.1 X.scr.2.2) (Nat.not_lt.mpr X.scr.2.1) Y.2.2.2 hdg (k p e s m args below meth c H locs cells slots lsr R X Y hl hr)
/-- a world with one cell more -/
theorem mn_Y.push {s : State} {H H1 : Heap} {locs : List Loc} {c1 : mn_C} (Y : mn_Y E g s H locs) (z : H1.size = H.size + 1) (oq : ∀ q : Nat, q < H.size → H1[q]? = H[q]?) (hc : va_at E.2.1 vwCl (mn_Z E + g.1, mn_E E c1) H1) : mn_Y E (mn_push g c1) s H1 locs := by
  obtain ⟨hP, hz, h0, hS⟩ := Y
  refine ⟨?_, ?_, Nat.succ_pos _, Nat.le_trans hS.1 (by omega), fun q g1 g2 => (oq q (Nat.lt_of_lt_of_le g1 hS.1)).trans (hS.2.1 q g1 g2), hS.2.2⟩
  · rw [mn_ws_push h0]
    refine va_P.app (hP.kept fun k q hk => oq q.1 (hP k q hk).lt) ?_
    intro k q hk
    have hk1 : k < 1 := (List.getElem?_eq_some_iff.mp hk).1
    rw [show k = 0 by omega] at hk
    cases hk
    exact hc
  · show H1.size = mn_Z E + (g.1 + 1)
    omega
theorem mn_new {C : String} {T : u_T} {N : Nat} {ty : Nat → FieldType} (oc : mn_okC ci C T N ty) (fs : List Value) (lk : Cond.classLink M.1.cls i C ∈ mn_W) (hi : Cond.instantiable C N ∈ mn_W) (hini : Cond.initialized C ∈ mn_W) (hfs : (List.range N).map (fun j => defaultValue (ty j)) = fs) (hc1 : 1 ≤ nc) (hs1 : N ≤ ns) (hdg : decode M.2.1 pc = .ok (.new i, 3))
    (k : mn_R E M d w (nc - 1) (ns - N) (pc + 3) ls (.ref g.1 :: st) (mn_push g (.inr (ci, fs))) Q) : mn_R E M d w nc ns pc ls st g Q := by
  intro p e s m args below meth c H locs cells slots lsr R X Y hl hr
  obtain ⟨R1, R2, R3, R4⟩ := id hr
  have hKn := X.K.1.1 ci _ oc.1
  refine W.newcK X.1 X.2.1 X.own (X.hts _ lk) (X.hts _ hi) (X.hts _ hini) rfl hdg (by omega) (by omega) hKn.2.1 Y.2.1 fun H1 kC hkC e1 z1 o1 => ?_
  have hb := u_born ty X.hts oc.2.1 hKn hkC e1 oc.2.2.1
  have hY : mn_Y E (mn_push g (.inr (ci, fs))) s H1 locs := Y.push (by rw [z1, Y.2.1]) (by rw [Y.2.1]; exact o1) ⟨_, oc.1, hb.to (fun j hj => by
    subst hfs
    show _ = vp_V (((List.range N).map (fun j => defaultValue (ty j))).map (mn_v E)) j
    unfold vp_V
    rw [List.getD_eq_getElem?_getD, List.getElem?_map, List.getElem?_map, List.getElem?_range hj]
    show _ = mn_v E (defaultValue (ty j))
    rw [mn_v_def])⟩
  have hk := k p e s m args below meth c H1 locs (cells + 1) (slots + N) lsr R X hY hl ⟨R1, R2, by omega, by omega⟩
  rw [← mn_ad_pos (E := E) Y.2.2.1]
  exact hk
theorem mn_newa {t N : Nat} {n : Int32} (ht : mn_T[t]? = some .int) (harr : Cond.arrayClass .int ∈ mn_W) (hn : ¬ n < 0) (hN : n.toNatClampNeg = N) (hby : N * 4 ≤ 536870912) (hc1 : 1 ≤ nc) (hs1 : N ≤ ns) (hdg : decode M.2.1 pc = .ok (.newarray .int, 2))
    (k : mn_R E M d w (nc - 1) (ns - N) (pc + 2) ls (.ref g.1 :: st) (mn_push g (.inl (t, N, .inl (fun _ => 0)))) Q) : mn_R E M d w nc ns pc ls (.int n :: st) g Q := by
  intro p e s m args below meth c H locs cells slots lsr R X Y hl hr
  obtain ⟨R1, R2, R3, R4⟩ := id hr
  refine va_newaK X.1 X.2.1 (atype := .int) (X.hts _ harr) rfl hdg rfl hn hN hby (by omega) (by omega) Y.2.1 fun H1 cA e1 z1 o1 hAr hNm => ?_
  have hid : E.2.2.1 t = cA := by
    have h1 : s.vm.findClass ("[" ++ (FieldType.int).toString) = some (E.2.2.1 t) := (X.K.1.2 t _ (mn_ty_get ht)).2
    exact Option.some.inj (h1.symm.trans hNm)
  have hY : mn_Y E (mn_push g (.inl (t, N, .inl (fun _ => 0)))) s H1 locs := Y.push (by rw [z1, Y.2.1]) (by rw [Y.2.1]; exact o1) (by
    show H1[mn_Z E + g.1]? = some (vp_cell (E.2.2.1 t) (N, .inl (fun _ => 0)))
    rw [hid]
    exact e1)
  have hk := k p e s m args below meth c H1 locs (cells + 1) (slots + N) lsr R X hY hl ⟨R1, R2, by omega, by omega⟩
  rw [← mn_ad_pos (E := E) Y.2.2.1]
  exact hk
theorem mn_newq {t N : Nat} {C : String} {n : Int32} (ht : mn_T[t]? = some (.object C)) (lk : Cond.classLink M.1.cls i C ∈ mn_W) (hov : Cond.arrayOver (.object C) ∈ mn_NW) (hn : ¬ n < 0) (hN : n.toNatClampNeg = N) (hby : N * 4 ≤ 536870912) (hc1 : 1 ≤ nc) (hs1 : N ≤ ns) (hdg : decode M.2.1 pc = .ok (.anewarray i, 3))
    (k : mn_R E M d w (nc - 1) (ns - N) (pc + 3) ls (.ref g.1 :: st) (mn_push g (.inl (t, N, .inr (.inr (.inr (.inr (fun _ => none))))))) Q) : mn_R E M d w nc ns pc ls (.int n :: st) g Q := by
  intro p e s m args below meth c H locs cells slots lsr R X Y hl hr
  obtain ⟨R1, R2, R3, R4⟩ := id hr
  subst hN
  refine W.anew X.1 X.2.1 X.own (X.hts _ lk) (va_AO.use (X.K.2 _ hov)) rfl hdg rfl hn hby (by omega) (by omega) fun cA kA comp f1 f2 f3 f4 => ?_
  have hid : E.2.2.1 t = cA := by
    obtain ⟨_, _, _, _, _, h1⟩ := (X.K.1.2 t _ (mn_ty_get ht)).2
    exact Option.some.inj (h1.symm.trans f1)
  generalize hH1 : H.push ({ cls := cA, slots := Array.replicate n.toNatClampNeg .null, vm := .none } : Cell) = H1
  have z1 : H1.size = H.size + 1 := by rw [← hH1, Array.size_push]
  have e1 : H1[H.size]? = some (arrV cA n.toNatClampNeg (fun _ => .null)) := by rw [← hH1, Array.getElem?_push_size, ← arrV_new]
  have o1 : ∀ q : Nat, q < H.size → H1[q]? = H[q]? := fun q hq => by rw [← hH1, Array.getElem?_push, if_neg (Nat.ne_of_lt hq)]
  have hY : mn_Y E (mn_push g (.inl (t, n.toNatClampNeg, .inr (.inr (.inr (.inr (fun _ => none))))))) s H1 locs := Y.push z1 o1 (by
    show H1[mn_Z E + g.1]? = some (vp_cell (E.2.2.1 t) (n.toNatClampNeg, .inr (.inr (.inr (.inr (fun _ => none))))))
    rw [hid, ← Y.2.1]
    exact e1)
  have hk := k p e s m args below meth c H1 locs (cells + 1) (slots + n.toNatClampNeg) lsr R X hY hl ⟨R1, R2, by omega, by omega⟩
  rw [Y.2.1, ← mn_ad_pos (E := E) Y.2.2.1]
  exact hk
theorem mn_max {x y z : Int32} (hv : (if x < y then y else x) = z) (lk : Cond.methodLink M.1.cls i Lib.Math.max.name ∈ mn_W) (hst : Cond.static Lib.Math.max.name ∈ mn_W) (hin : Cond.initialized "java/lang/Math" ∈ mn_W) (hco : Cond.code Lib.Math.max.name Lib.Math.max.code 2 (some .int) ∈ mn_W) (hcat : (st.map fun v => v.category).sum ≤ 8) (hd : 1 ≤ d) (hw : 21 ≤ w) (hdg : decode M.2.1 pc = .ok (.invokestatic i, 3)) (k : mn_R E M d w nc ns (pc + 3) ls (.int z :: st) g Q) : mn_R E M d w nc ns pc ls (.int y :: .int x :: st) g Q := by
  subst hv
  intro p e s m args below meth c H locs cells slots lsr R X Y hl hr
  obtain ⟨R1, R2, R3, R4⟩ := id hr
  exact va_mmax X.1 X.2.1 (X.2.2.1.trans hl.1.symm) X.own (X.hts _ lk) (X.hts _ hst) (X.hts _ hin) (X.hts _ hco) (by omega) (by rw [mn_cats]; omega) (by omega) (by omega) hdg (k p e s m args below meth c H locs cells slots lsr R X Y hl hr)
theorem mn_min {x y z : Int32} (hv : (if y < x then y else x) = z) (lk : Cond.methodLink M.1.cls i Lib.Math.min.name ∈ mn_W) (hst : Cond.static Lib.Math.min.name ∈ mn_W) (hin : Cond.initialized "java/lang/Math" ∈ mn_W) (hco : Cond.code Lib.Math.min.name Lib.Math.min.code 2 (some .int) ∈ mn_W) (hcat : (st.map fun v => v.category).sum ≤ 8) (hd : 1 ≤ d) (hw : 21 ≤ w) (hdg : decode M.2.1 pc = .ok (.invokestatic i, 3)) (k : mn_R E M d w nc ns (pc + 3) ls (.int z :: st) g Q) : mn_R E M d w nc ns pc ls (.int y :: .int x :: st) g Q := by
  subst hv
  intro p e s m args below meth c H locs cells slots lsr R X Y hl hr
  obtain ⟨R1, R2, R3, R4⟩ := id hr
  exact va_mmin X.1 X.2.1 (X.2.2.1.trans hl.1.symm) X.own (X.hts _ lk) (X.hts _ hst) (X.hts _ hin) (X.hts _ hco) (by omega) (by rw [mn_cats]; omega) (by omega) (by omega) hdg (k p e s m args below meth c H locs cells slots lsr R X Y hl hr)
/-- System.arraycopy over arrays of ints -/
theorem mn_copy {a0 t n0 n1 : Nat} {f0 f1 : Nat → Int32} {sp dp n : Int32} (lk : Cond.methodLink M.1.cls i arraycopyName ∈ mn_W) (hnat : Cond.native arraycopyName ∈ mn_W) (hst : Cond.static arraycopyName ∈ mn_W) (hini : Cond.initialized "java/lang/System" ∈ mn_W) (ht : mn_T[t]? = some .int) (hat0 : mn_at g a0 (.inl (t, n0, .inl f0))) (hat : mn_at g a (.inl (t, n1, .inl f1)))
    (h1 : ¬ sp < 0) (h2 : ¬ dp < 0) (h3 : ¬ n < 0) (h4 : sp.toNatClampNeg + n.toNatClampNeg ≤ n0) (h5 : dp.toNatClampNeg + n.toNatClampNeg ≤ n1) (hcat : (st.map fun v => v.category).sum ≤ 8) (hd : 1 ≤ d) (hw : 26 ≤ w) (hdg : decode M.2.1 pc = .ok (.invokestatic i, 3))
    (k : mn_R E M d w nc ns (pc + 3) ls st (mn_set g a (.inl (t, n1, .inl (va_cpy f0 f1 sp.toNatClampNeg dp.toNatClampNeg n.toNatClampNeg)))) Q) : mn_R E M d w nc ns pc ls (.int n :: .int dp :: .ref a :: .int sp :: .ref a0 :: st) g Q := by
  intro p e s m args below meth c H locs cells slots lsr R X Y hl hr
  obtain ⟨R1, R2, R3, R4⟩ := id hr
  have nn : ∀ z : Int32, ¬ z < 0 → z.toInt = (z.toNatClampNeg : Int) := by
    intro z hz
    have hz0 : (0 : Int) ≤ z.toInt := by
      have := Int32.not_lt.mp hz
      simpa using Int32.le_iff_toInt_le.mp this
    show z.toInt = ((z.toInt.toNat : Nat) : Int)
    omega
  intro T hT XX
  have hc0 : H[mn_ad E a0]? = some (vp_cell (E.2.2.1 t) (n0, .inl f0)) := Y.1 (a0 - 1) _ (mn_ws_get hat0)
  have hc1 : H[mn_ad E a]? = some (vp_cell (E.2.2.1 t) (n1, .inl f1)) := Y.1 (a - 1) _ (mn_ws_get hat)
  obtain ⟨-, k0, hk0, cm0, hkk0⟩ := (X.K.1.2 t _ (mn_ty_get ht)).1 n0 (fun j => .int (f0 j))
  obtain ⟨-, k1, hk1, cm1, hkk1⟩ := (X.K.1.2 t _ (mn_ty_get ht)).1 n1 (fun j => .int (f1 j))
  obtain ⟨vm', X', step⟩ := XX.arraycopy X.1 X.own (X.hts _ lk) (X.hts _ hnat) (X.hts _ hst) (X.hts _ hini) (src := mn_ad E a0) (dst := mn_ad E a) (cs := vp_cell (E.2.2.1 t) (n0, .inl f0)) (cd := vp_cell (E.2.2.1 t) (n1, .inl f1)) (srcPos := sp) (destPos := dp) (n := n) (by rw [hT]; exact hc0) (by rw [hT]; exact hc1)
    (fun _ h => by cases h) (fun _ h => by cases h) (fun h => by cases h) (fun h => by cases h) hk0 hk1 hkk0 hkk1 rfl h1 h2 h3
    (by rw [nn sp h1, nn n h3]; show ¬ _ > ((arrV _ n0 (fun j => .int (f0 j))).slots.size : Int); rw [arrV_size]; omega)
    (by rw [nn dp h2, nn n h3]; show ¬ _ > ((arrV _ n1 (fun j => .int (f1 j))).slots.size : Int); rw [arrV_size]; omega)
    (fun vm₁ _ j hj => by
      have e : (vp_cell (E.2.2.1 t) (n0, .inl f0)).slots.getD (sp.toNatClampNeg + j) .null = .int (f0 (sp.toNatClampNeg + j)) := by
        show (arrV _ n0 (fun j => .int (f0 j))).slots.getD _ _ = _
        rw [Array.getD_eq_getD_getElem?, arrV_read _ _ (by omega)]
        rfl
      refine ⟨?_, ?_⟩
      · rw [e]
        rfl
      · rw [e]
        exact trivial)
    (g := F0 m pc lsr (.int n :: .int dp :: .ref (mn_ad E a) :: .int sp :: .ref (mn_ad E a0) :: st.map (mn_v E))) rfl (hl.1.trans X.2.2.1.symm) (rest := st.map (mn_v E)) rfl (by rw [X.2.1]; exact hdg) (by omega) (by show 2 * 0 + _ + (nativeFrameWords "java/lang/System" "arraycopy" 5 + 11) ≤ _; rw [mn_cats, show nativeFrameWords "java/lang/System" "arraycopy" 5 = 7 by decide +kernel]; omega)
  have e1 : copied (vp_cell (E.2.2.1 t) (n0, .inl f0)) (vp_cell (E.2.2.1 t) (n1, .inl f1)) sp dp n = vp_cell (E.2.2.1 t) (n1, .inl (va_cpy f0 f1 sp.toNatClampNeg dp.toNatClampNeg n.toNatClampNeg)) := va_copied (fun z => .int z) _ _ f0 f1 h4
  rw [e1] at X' step
  have hlt : mn_ad E a < H.size := (Array.getElem?_eq_some_iff.mp hc1).1
  have hheap : ((T.setVm vm').setCell (mn_ad E a) (vp_cell (E.2.2.1 t) (n1, .inl (va_cpy f0 f1 sp.toNatClampNeg dp.toNatClampNeg n.toNatClampNeg)))).heap = H.setIfInBounds (mn_ad E a) (vp_cell (E.2.2.1 t) (n1, .inl (va_cpy f0 f1 sp.toNatClampNeg dp.toNatClampNeg n.toNatClampNeg))) := by rw [← hT]; rfl
  generalize hH1 : H.setIfInBounds (mn_ad E a) (vp_cell (E.2.2.1 t) (n1, .inl (va_cpy f0 f1 sp.toNatClampNeg dp.toNatClampNeg n.toNatClampNeg))) = H1 at hheap
  have oq : ∀ q : Nat, q ≠ mn_ad E a → H1[q]? = H[q]? := fun q hq => by rw [← hH1]; simp [Array.getElem?_setIfInBounds, Ne.symm hq]
  have z : H1.size = H.size := by rw [← hH1]; simp
  have hP' := (Y.1).set (H1 := H1) (e := mn_E E (.inl (t, n1, .inl (va_cpy f0 f1 sp.toNatClampNeg dp.toNatClampNeg n.toNatClampNeg)))) mn_ws_D (mn_ws_get hat) (by
    show H1[mn_ad E a]? = some (vp_cell _ (n1, .inl (va_cpy f0 f1 sp.toNatClampNeg dp.toNatClampNeg n.toNatClampNeg)))
    rw [← hH1]; simp [Array.getElem?_setIfInBounds, hlt]) oq
  rw [mn_ws_set hat] at hP'
  have hS := Y.2.2.2
  obtain ⟨t2, a1, b1⟩ := k p e s m args below meth c H1 _ cells slots lsr R X ⟨hP', z.trans Y.2.1, Y.2.2.1, by rw [z]; exact hS.1, fun q g1 g2 => by
      rw [oq q (fun e => g2 (by rw [e]; exact mn_in hat))]
      exact hS.2.1 q g1 g2, fun q hq => by
      rcases List.mem_append.mp hq with h | h
      · exact hS.2.2 q h
      · obtain ⟨z, -, hz⟩ := List.mem_map.mp h
        rw [← hz]
        exact mn_in hat⟩ hl hr _ hheap X'
  exact ⟨t2, step t2 a1, b1⟩
end MNPUT
section MNNAT
variable {E : mn_En} {M : mn_M} {d w nc ns pc i a ci : Nat} {ls : List (Nat × Value)} {st : List Value} {g : mn_H} {Q : Option Value → mn_H → Prop}
theorem mn_ialdN {t n j : Nat} {f : Nat → Int32} (hat : mn_at g a (.inl (t, n, .inl f))) (ht : mn_T[t]? = some .int) (hj : j < n) (hn : n < 2 ^ 31) (hdg : decode M.2.1 pc = .ok (.iaload, 1)) (k : mn_R E M d w nc ns (pc + 1) ls (.int (f j) :: st) g Q) : mn_R E M d w nc ns pc ls (.int (nI j) :: .ref a :: st) g Q :=
  mn_iald hat ht (vp_in_nI hj hn) hdg (by rw [nI_clamp (by omega)]; exact k)
theorem mn_iastN {t n j : Nat} {f : Nat → Int32} {x : Int32} (hat : mn_at g a (.inl (t, n, .inl f))) (ht : mn_T[t]? = some .int) (hj : j < n) (hn : n < 2 ^ 31) (hdg : decode M.2.1 pc = .ok (.iastore, 1)) (k : mn_R E M d w nc ns (pc + 1) ls st (mn_set g a (.inl (t, n, .inl (upd f j x)))) Q) : mn_R E M d w nc ns pc ls (.int x :: .int (nI j) :: .ref a :: st) g Q :=
  mn_iast hat ht (vp_in_nI hj hn) hdg (by rw [nI_clamp (by omega)]; exact k)
theorem mn_aaldN {t n y j : Nat} {f : Nat → Option Nat} {ty : FieldType} (hat : mn_at g a (.inl (t, n, .inr (.inr (.inr (.inr f)))))) (ht : mn_T[t]? = some ty) (hty : ty.isReference = true) (hj : j < n) (hn : n < 2 ^ 31) (hy : f j = some y) (hdg : decode M.2.1 pc = .ok (.aaload, 1)) (k : mn_R E M d w nc ns (pc + 1) ls (.ref y :: st) g Q) : mn_R E M d w nc ns pc ls (.int (nI j) :: .ref a :: st) g Q :=
  mn_aald hat ht hty (vp_in_nI hj hn) (by rw [nI_clamp (by omega)]; exact hy) hdg k
theorem mn_sldN {j : Nat} (hj : j < E.2.2.2.2.2.1) (hn : E.2.2.2.2.2.1 < 2 ^ 31) (hdg : decode M.2.1 pc = .ok (.iaload, 1)) (k : mn_R E M d w nc ns (pc + 1) ls (.int (E.2.2.2.2.2.2 j) :: st) g Q) : mn_R E M d w nc ns pc ls (.int (nI j) :: .ref 0 :: st) g Q :=
  mn_sld (vp_in_nI hj hn) hdg (by rw [nI_clamp (by omega)]; exact k)
end MNNAT
/-- an answer and a world that are known -/
def mn_is (v : Option Value) (g : mn_H) : Option Value → mn_H → Prop := fun v' g' => v' = v ∧ g' = g
section MNIS
variable {E : mn_En} {M M' : mn_M} {d w nc ns pc d' w' n i a ci : Nat} {ls : List (Nat × Value)} {st As : List Value} {g g1 : mn_H} {Q : Option Value → mn_H → Prop} {v : Option Value}
theorem mn_cV {r : vw_C} {fs stk stk' : List Value} (ok : mn_okV M' n) (lk : Cond.methodLink M.1.cls i M'.1 ∈ mn_W) (hdg : decode M.2.1 pc = .ok (.invokevirtual i, 3)) (hat : mn_at g a (.inr (ci, fs))) (hc : vwCl[ci]? = some r) (hr1 : r.1 = M'.1.cls) (hs : stk = As.reverse ++ .ref a :: st) (hn : As.length = n) (hlen : (lg_sl (.ref a :: As)).length ≤ M'.2.2.1) (hcat : (st.map fun v => v.category).sum ≤ 8) (hrm : mn_rm M' d w nc ns d' w' 0 0)
    (hM : mn_R E M' d' w' 0 0 0 (lv_args 0 (.ref a :: As)) [] g (mn_is v g1)) (hs' : v.toList ++ st = stk') (k : mn_R E M d w nc ns (pc + 3) ls stk' g1 Q) : mn_R E M d w nc ns pc ls stk g Q :=
  mn_callV ok lk hdg hat hc hr1 hs hn hlen hcat hrm hM (fun v' g' hq => by obtain ⟨rfl, rfl⟩ := hq; subst hs'; exact k)
theorem mn_cS {stk stk' : List Value} (ok : mn_okS M' n) (lk : Cond.methodLink M.1.cls i M'.1 ∈ mn_W) (hdg : decode M.2.1 pc = .ok (.invokestatic i, 3)) (hs : stk = As.reverse ++ st) (hn : As.length = n) (hlen : (lg_sl As).length ≤ M'.2.2.1) (hcat : (st.map fun v => v.category).sum ≤ 8) (hrm : mn_rm M' d w nc ns d' w' 0 0)
    (hM : mn_R E M' d' w' 0 0 0 (lv_args 0 As) [] g (mn_is v g1)) (hs' : v.toList ++ st = stk') (k : mn_R E M d w nc ns (pc + 3) ls stk' g1 Q) : mn_R E M d w nc ns pc ls stk g Q :=
  mn_callS ok lk hdg hs hn hlen hcat hrm hM (fun v' g' hq => by obtain ⟨rfl, rfl⟩ := hq; subst hs'; exact k)
end MNIS
theorem mn_lit {x M : Int32} {n : Nat} (h0 : ¬ x < 0) (h1 : ¬ M ≤ x) (hM : M.toInt = (n : Int)) : vp_in x n := vp_in_iff.mpr ⟨by
  have h := Int32.not_lt.mp h0
  simpa using Int32.le_iff_toInt_le.mp h, by
  have h := Int32.not_le.mp h1
  rw [← hM]; exact Int32.lt_iff_toInt_lt.mp h⟩
theorem mn_max0 {a : Nat} (h : a < 2 ^ 31) : (if (0 : Int32) < nI a then nI a else 0) = nI a := by
  by_cases h0 : a = 0
  · subst h0; rfl
  · exact if_pos ((nI_ltI (a := 0) (b := a) (by omega) h).mpr (by omega))
theorem mn_maxN {a b : Nat} (ha : a < 2 ^ 31) (hb : b < 2 ^ 31) : (if nI a < nI b then nI b else nI a) = nI (max a b) := by
  by_cases h : a < b
  · rw [if_pos ((nI_ltI ha hb).mpr h), Nat.max_eq_right (by omega)]
  · rw [if_neg (fun q => h ((nI_ltI ha hb).mp q)), Nat.max_eq_left (by omega)]
theorem mn_minN {a b : Nat} (ha : a < 2 ^ 31) (hb : b < 2 ^ 31) : (if nI b < nI a then nI b else nI a) = nI (min a b) := by
  by_cases h : b < a
  · rw [if_pos ((nI_ltI hb ha).mpr h), Nat.min_eq_right (by omega)]
  · rw [if_neg (fun q => h ((nI_ltI hb ha).mp q)), Nat.min_eq_left (by omega)]
