/-! MINE: rows over cells: fields, arrays, making, calls -/
def mn_wd (M : mn_M) : List Cond := Cond.code M.1 M.2.1 M.2.2.1 M.2.2.2 :: mn_W
theorem mn_wd_good {M : mn_M} {n : Nat} (h : mn_okM M n) : GoodIn mn_W (mn_wd M) := by
  intro w hw
  rcases List.mem_cons.mp hw with rfl | hw
  · exact ⟨h.2.1, mn_good _ h.2.1⟩
  · exact ⟨hw, mn_good _ hw⟩
/-- what a method finds at its start -/
def mn_Pc (E : mn_En) (g : mn_H) (U : State) : Prop := mn_K E U ∧ (va_X E.2.2.2.1 E.2.2.2.2.2.1 E.2.2.2.2.2.2 U U.heap ∧ E.2.2.2.1 ≤ mn_Z E ∧ mn_Z E < U.heap.size) ∧ va_P E.2.1 vwCl (mn_ws E g) U.heap ∧ U.heap.size = mn_Z E + g.1 ∧ 0 < g.1
theorem mn_Pc.blind {E : mn_En} {g : mn_H} {av : List Value} : FrameBlind (va_Pc av (mn_Pc E g)) := by
  intro a U fr mk h
  obtain ⟨h1, hK, ⟨hX, hb, hz⟩, hP⟩ := h
  exact ⟨h1, hK.warm (U := U.calling fr mk a) (State.WarmedH.refl U), ⟨va_X.moved (u := U) (U := U.calling fr mk a) (Vm.Alike.refl U.vm) hX, hb, hz⟩, hP⟩
theorem mn_scr {E : mn_En} {s : State} {H : Heap} {locs : List Loc} (h : va_X E.2.2.2.1 E.2.2.2.2.2.1 E.2.2.2.2.2.2 s s.heap ∧ E.2.2.2.1 ≤ mn_Z E ∧ mn_Z E < s.heap.size) (hS : va_S (mn_F E) s.heap H locs) : va_X E.2.2.2.1 E.2.2.2.2.2.1 E.2.2.2.2.2.2 s H :=
  h.1.kept (hS.2.1 _ (Nat.lt_of_le_of_lt h.2.1 h.2.2) (Nat.not_lt.mpr h.2.1))
theorem mn_pre {E : mn_En} {M : mn_M} {g : mn_H} {p : Program} {s : State} {m : MethodId} {args : Array Value} {meth : Method} {c : Code} {H : Heap} {locs : List Loc} (X : mn_X E M p s m args meth c) (Y : mn_Y E g s H locs) (av : List Value) : ∀ U : State, U.heap = H → s.WarmedH U.vm → va_Pc av (mn_Pc E g) av.toArray U := by
  intro U hU hW
  refine ⟨rfl, X.K.warm hW, ⟨?_, X.scr.2.1, ?_⟩, by rw [hU]; exact Y.1, by rw [hU]; exact Y.2.1, Y.2.2.1⟩
  · rw [hU]
    exact va_X.moved hW.alike (mn_scr X.scr Y.2.2.2)
  · rw [hU]
    exact Nat.lt_of_lt_of_le X.scr.2.2 Y.2.2.2.1
theorem mn_args_map (E : mn_En) : ∀ (av : List Value) (i : Nat), lv_args i (av.map (mn_v E)) = mn_m E (lv_args i av)
  | [], _ => rfl
  | v :: t, i => by
    show (i, mn_v E v) :: lv_args (if (mn_v E v).category = 2 then i + 2 else i + 1) (t.map (mn_v E)) = (i, mn_v E v) :: mn_m E (lv_args (if v.category = 2 then i + 2 else i + 1) t)
    rw [mn_cat, mn_args_map E t]
theorem mn_sl_len (E : mn_En) (av : List Value) : (lg_sl (av.map (mn_v E))).length = (lg_sl av).length := by
  unfold lg_sl
  induction av with
  | nil => rfl
  | cons v t ih =>
    simp only [List.map_cons, List.flatMap_cons, List.length_append, mn_cat, ih]
    split <;> rfl
/-- A CONTRACT -/
theorem mn_met {E : mn_En} {M : mn_M} {n d w nc ns : Nat} {av : List Value} {g : mn_H} {Q : Option Value → mn_H → Prop} (ok : mn_okM M n) (hlen : (lg_sl av).length ≤ M.2.2.1) (h : mn_R E M d w nc ns 0 (lv_args 0 av) [] g Q) :
    Met E.1 M.1 (mn_wd M) { frames := d, cells := nc, slots := ns, locals := w } (va_Pc (av.map (mn_v E)) (mn_Pc E g)) (mn_Q E Q) nc ns (mn_F E) := by
  refine Met.ofW (cc := M.2.1) (maxL := M.2.2.1) (ret := M.2.2.2) ok.1 rfl ?_
  intro p e s m args below meth c s₁ B hml hv
  obtain ⟨rfl, hK, hX, hP, hz, h0⟩ := hv
  have hts := atoms_spec (ws := mn_wd M) B.pre
  have hown : s.vm.findClass M.1.cls = some m.cls := findClass_of_methodNamed B.named
  have hl := lv_entry (av.map (mn_v E)) (n := M.2.2.1) (by rw [mn_sl_len]; exact hlen)
  rw [lg_entry_eq]
  rw [mn_args_map] at hl
  exact h p e s m _ below meth c s.heap [] 0 0 _ _ ⟨B.exec, B.bytes, hml, B.returns, B.notSynchronized, hown, fun _ => (name_of_methodNamed B.named B.method).1, fun w hw => hts w (List.mem_cons_of_mem _ hw), hK, hX⟩ ⟨hP, hz, h0, va_S.rf⟩ hl ⟨Nat.le_refl _, Nat.le_refl _, by show 0 + nc ≤ nc; omega, by show 0 + ns ≤ ns; omega⟩
theorem mn_back {E : mn_En} {p : Program} {e : Env} {R : Room} {s : State} {m : MethodId} {args : Array Value} {below : List Frame} {meth : Method} {c : Code} {H : Heap} {locs : List Loc} {cells slots mc ms pc : Nat} {ls : Array Slot} {st0 rest : List Value} {a : Array Value} {Q' : Option Value → mn_H → Prop} {Qf : State → Prop}
    (hr : va_Run p E.1 e R s m args below meth c H locs cells slots mc ms (F0 m pc ls st0) rest (mn_Q E Q' a) (mn_F E)) (hS : va_S (mn_F E) s.heap H locs)
    (kk : ∀ (v : Option Value) (g' : mn_H) (H1 : Heap) (locs1 : List Loc), Q' v g' → mn_Y E g' s H1 locs1 → W p E.1 e R s m args below meth c H1 locs1 (cells + mc) (slots + ms) Qf (F0 m (pc + 3) ls ((v.map (mn_v E)).toList ++ rest))) : W p E.1 e R s m args below meth c H locs cells slots Qf (F0 m pc ls st0) := by
  intro T hT X
  obtain ⟨v, st₀, t, T', L, h0, X', hL, e1, e2, ⟨v', g', hq, hv, hP, hz, h1, hzz, hk⟩, st⟩ := hr T hT X
  cases hv
  rw [h0] at hzz hk
  obtain ⟨t2, a1, b1⟩ := kk v' g' T'.heap (locs ++ L) hq ⟨by rw [e1]; exact hP, by rw [e1]; exact hz, h1, Nat.le_trans hS.1 (by rw [e1]; exact hzz), fun q g1 g2 => by rw [e1, hk q (Nat.lt_of_lt_of_le g1 hS.1) g2]; exact hS.2.1 q g1 g2, fun q hq => by
      rcases List.mem_append.mp hq with h | h
      · exact hS.2.2 q h
      · exact hL q h⟩ T' rfl X'
  exact ⟨t2, st t2 a1, b1⟩
theorem mn_opt (E : mn_En) (v : Option Value) (st : List Value) : (v.map (mn_v E)).toList ++ st.map (mn_v E) = (v.toList ++ st).map (mn_v E) := by cases v <;> rfl
section MNCALL
variable {E : mn_En} {M M' : mn_M} {d w nc ns pc d' w' nc' ns' n i a ci : Nat} {ls : List (Nat × Value)} {st As : List Value} {g : mn_H} {Q Q' : Option Value → mn_H → Prop}
/-- the room of a call -/
abbrev mn_rm (M' : mn_M) (d w nc ns d' w' nc' ns' : Nat) : Prop := d' + 1 ≤ d ∧ 8 + (M'.2.2.1 + 11) + w' ≤ w ∧ nc' ≤ nc ∧ ns' ≤ ns
theorem mn_callV {r : vw_C} {fs stk : List Value} (ok : mn_okV M' n) (lk : Cond.methodLink M.1.cls i M'.1 ∈ mn_W) (hdg : decode M.2.1 pc = .ok (.invokevirtual i, 3)) (hat : mn_at g a (.inr (ci, fs))) (hc : vwCl[ci]? = some r) (hr1 : r.1 = M'.1.cls) (hs : stk = As.reverse ++ .ref a :: st) (hn : As.length = n) (hlen : (lg_sl (.ref a :: As)).length ≤ M'.2.2.1) (hcat : (st.map fun v => v.category).sum ≤ 8) (hrm : mn_rm M' d w nc ns d' w' nc' ns')
    (hM : mn_R E M' d' w' nc' ns' 0 (lv_args 0 (.ref a :: As)) [] g Q') (k : ∀ v g', Q' v g' → mn_R E M d w (nc - nc') (ns - ns') (pc + 3) ls (v.toList ++ st) g' Q) : mn_R E M d w nc ns pc ls stk g Q := by
  intro p e s m args below meth c H locs cells slots lsr R X Y hl hr
  subst hs
  obtain ⟨r1, r2, r3, r4⟩ := hrm
  obtain ⟨R1, R2, R3, R4⟩ := id hr
  refine mn_back (rest := st.map (mn_v E)) (va_runV (As := As.map (mn_v E)) (b := mn_ad E a) (n := n) ⟨X.1, X.2.1, X.2.2.1, X.own, X.hts⟩ (mn_met ok.1 hlen hM) ⟨callB_of n X.hts (mn_wd_good ok.1) rfl rfl rfl (X.hts _ ok.1.2.2.1) (X.hts _ lk) ⟨ok.1.2.2.2.1.1, ok.1.2.2.2.1.2, ok.1.2.2.2.2⟩ ⟨Nat.le_trans r1 R1, Nat.le_trans r2 R2⟩, X.hts _ ok.2.1, X.hts _ ok.2.2⟩ ⟨mn_Pc.blind, ?_, mn_pre X Y _⟩ rfl (by rw [List.length_map]; exact hn) hl.1 (by simp [mn_v]) (lv_room (by rw [mn_cats]; exact hcat)) hdg ⟨by omega, by omega⟩) Y.2.2.2 (fun v g' H1 locs1 hq hY => ?_)
  · have h := va_recv X.K.1 Y.1 hc (mn_ws_get hat)
    rw [hr1] at h
    exact h
  · rw [mn_opt]
    exact k v g' hq p e s m args below meth c H1 locs1 _ _ lsr R X hY hl ⟨R1, R2, by omega, by omega⟩
theorem mn_callVN {r : vw_C} {host : String} {fs stk : List Value} (ok : mn_okV M' n) (lk : Cond.methodLinkNest M.1.cls i M'.1 host ∈ mn_NW) (hdg : decode M.2.1 pc = .ok (.invokevirtual i, 3)) (hat : mn_at g a (.inr (ci, fs))) (hc : vwCl[ci]? = some r) (hr1 : r.1 = M'.1.cls) (hs : stk = As.reverse ++ .ref a :: st) (hn : As.length = n) (hlen : (lg_sl (.ref a :: As)).length ≤ M'.2.2.1) (hcat : (st.map fun v => v.category).sum ≤ 8) (hrm : mn_rm M' d w nc ns d' w' nc' ns')
    (hM : mn_R E M' d' w' nc' ns' 0 (lv_args 0 (.ref a :: As)) [] g Q') (k : ∀ v g', Q' v g' → mn_R E M d w (nc - nc') (ns - ns') (pc + 3) ls (v.toList ++ st) g' Q) : mn_R E M d w nc ns pc ls stk g Q := by
  intro p e s m args below meth c H locs cells slots lsr R X Y hl hr
  subst hs
  obtain ⟨r1, r2, r3, r4⟩ := hrm
  obtain ⟨R1, R2, R3, R4⟩ := id hr
  refine mn_back (rest := st.map (mn_v E)) (va_runVN (As := As.map (mn_v E)) (b := mn_ad E a) (n := n) ⟨X.1, X.2.1, X.2.2.1, X.own, X.hts⟩ (mn_met ok.1 hlen hM) ⟨va_cnB n X.hts (mn_wd_good ok.1) rfl rfl rfl (X.K.2 _ lk) (X.hts _ ok.1.2.2.1) ⟨ok.1.2.2.2.1.1, ok.1.2.2.2.1.2, ok.1.2.2.2.2⟩ ⟨Nat.le_trans r1 R1, Nat.le_trans r2 R2⟩, X.hts _ ok.2.1, X.hts _ ok.2.2⟩ ⟨mn_Pc.blind, ?_, mn_pre X Y _⟩ rfl (by rw [List.length_map]; exact hn) hl.1 (by simp [mn_v]) (lv_room (by rw [mn_cats]; exact hcat)) hdg ⟨by omega, by omega⟩) Y.2.2.2 (fun v g' H1 locs1 hq hY => ?_)
  · have h := va_recv X.K.1 Y.1 hc (mn_ws_get hat)
    rw [hr1] at h
    exact h
  · rw [mn_opt]
    exact k v g' hq p e s m args below meth c H1 locs1 _ _ lsr R X hY hl ⟨R1, R2, by omega, by omega⟩
theorem mn_callS {stk : List Value} (ok : mn_okS M' n) (lk : Cond.methodLink M.1.cls i M'.1 ∈ mn_W) (hdg : decode M.2.1 pc = .ok (.invokestatic i, 3)) (hs : stk = As.reverse ++ st) (hn : As.length = n) (hlen : (lg_sl As).length ≤ M'.2.2.1) (hcat : (st.map fun v => v.category).sum ≤ 8) (hrm : mn_rm M' d w nc ns d' w' nc' ns')
    (hM : mn_R E M' d' w' nc' ns' 0 (lv_args 0 As) [] g Q') (k : ∀ v g', Q' v g' → mn_R E M d w (nc - nc') (ns - ns') (pc + 3) ls (v.toList ++ st) g' Q) : mn_R E M d w nc ns pc ls stk g Q := by
  intro p e s m args below meth c H locs cells slots lsr R X Y hl hr
  subst hs
  obtain ⟨r1, r2, r3, r4⟩ := hrm
  obtain ⟨R1, R2, R3, R4⟩ := id hr
  refine mn_back (rest := st.map (mn_v E)) (va_runS (As := As.map (mn_v E)) (n := n) ⟨X.1, X.2.1, X.2.2.1, X.own, X.hts⟩ (mn_met ok.1 hlen hM) ⟨callB_of n X.hts (mn_wd_good ok.1) rfl rfl rfl (X.hts _ ok.1.2.2.1) (X.hts _ lk) ⟨ok.1.2.2.2.1.1, ok.1.2.2.2.1.2, ok.1.2.2.2.2⟩ ⟨Nat.le_trans r1 R1, Nat.le_trans r2 R2⟩, X.hts _ ok.2⟩ ⟨mn_Pc.blind, mn_pre X Y _⟩ rfl (by rw [List.length_map]; exact hn) hl.1 (by simp) (lv_room (by rw [mn_cats]; exact hcat)) hdg ⟨by omega, by omega⟩) Y.2.2.2 (fun v g' H1 locs1 hq hY => ?_)
  rw [mn_opt]
  exact k v g' hq p e s m args below meth c H1 locs1 _ _ lsr R X hY hl ⟨R1, R2, by omega, by omega⟩
theorem mn_callSN {host : String} {stk : List Value} (ok : mn_okS M' n) (lk : Cond.methodLinkNest M.1.cls i M'.1 host ∈ mn_NW) (hdg : decode M.2.1 pc = .ok (.invokestatic i, 3)) (hs : stk = As.reverse ++ st) (hn : As.length = n) (hlen : (lg_sl As).length ≤ M'.2.2.1) (hcat : (st.map fun v => v.category).sum ≤ 8) (hrm : mn_rm M' d w nc ns d' w' nc' ns')
    (hM : mn_R E M' d' w' nc' ns' 0 (lv_args 0 As) [] g Q') (k : ∀ v g', Q' v g' → mn_R E M d w (nc - nc') (ns - ns') (pc + 3) ls (v.toList ++ st) g' Q) : mn_R E M d w nc ns pc ls stk g Q := by
  intro p e s m args below meth c H locs cells slots lsr R X Y hl hr
  subst hs
  obtain ⟨r1, r2, r3, r4⟩ := hrm
  obtain ⟨R1, R2, R3, R4⟩ := id hr
  refine mn_back (rest := st.map (mn_v E)) (va_runSN (As := As.map (mn_v E)) (n := n) ⟨X.1, X.2.1, X.2.2.1, X.own, X.hts⟩ (mn_met ok.1 hlen hM) ⟨va_cnB n X.hts (mn_wd_good ok.1) rfl rfl rfl (X.K.2 _ lk) (X.hts _ ok.1.2.2.1) ⟨ok.1.2.2.2.1.1, ok.1.2.2.2.1.2, ok.1.2.2.2.2⟩ ⟨Nat.le_trans r1 R1, Nat.le_trans r2 R2⟩, X.hts _ ok.2, trivial⟩ ⟨mn_Pc.blind, mn_pre X Y _⟩ rfl (by rw [List.length_map]; exact hn) hl.1 (by simp) (lv_room (by rw [mn_cats]; exact hcat)) hdg ⟨by omega, by omega⟩) Y.2.2.2 (fun v g' H1 locs1 hq hY => ?_)
  rw [mn_opt]
  exact k v g' hq p e s m args below meth c H1 locs1 _ _ lsr R X hY hl ⟨R1, R2, by omega, by omega⟩
theorem mn_callI {stk : List Value} (ok : mn_okI M' n) (lk : Cond.methodLink M.1.cls i M'.1 ∈ mn_W) (hdg : decode M.2.1 pc = .ok (.invokespecial i, 3)) (hs : stk = As.reverse ++ .ref a :: st) (hn : As.length = n) (hlen : (lg_sl (.ref a :: As)).length ≤ M'.2.2.1) (hcat : (st.map fun v => v.category).sum ≤ 8) (hrm : mn_rm M' d w nc ns d' w' nc' ns')
    (hM : mn_R E M' d' w' nc' ns' 0 (lv_args 0 (.ref a :: As)) [] g Q') (k : ∀ v g', Q' v g' → mn_R E M d w (nc - nc') (ns - ns') (pc + 3) ls (v.toList ++ st) g' Q) : mn_R E M d w nc ns pc ls stk g Q := by
  intro p e s m args below meth c H locs cells slots lsr R X Y hl hr
  subst hs
  obtain ⟨r1, r2, r3, r4⟩ := hrm
  obtain ⟨R1, R2, R3, R4⟩ := id hr
  refine mn_back (rest := st.map (mn_v E)) (va_runI (As := As.map (mn_v E)) (b := mn_ad E a) (n := n) ⟨X.1, X.2.1, X.2.2.1, X.own, X.hts⟩ (mn_met ok.1 hlen hM) (cwI n X.hts (mn_wd_good ok.1) (by rw [← ok.2.2.2]; rfl) rfl rfl (X.hts _ ok.1.2.2.1) (X.hts _ lk) (X.hts _ ok.2.2.1) ok.2.1 ⟨ok.1.2.2.2.1.1, ok.1.2.2.2.1.2, ok.1.2.2.2.2⟩ ⟨Nat.le_trans r1 R1, Nat.le_trans r2 R2⟩) ⟨mn_Pc.blind, mn_pre X Y _⟩ rfl (by rw [List.length_map]; exact hn) hl.1 (by simp [mn_v]) (lv_room (by rw [mn_cats]; exact hcat)) hdg ⟨by omega, by omega⟩) Y.2.2.2 (fun v g' H1 locs1 hq hY => ?_)
  rw [mn_opt]
  exact k v g' hq p e s m args below meth c H1 locs1 _ _ lsr R X hY hl ⟨R1, R2, by omega, by omega⟩
theorem mn_callIN {host : String} {stk : List Value} (ok : mn_okI M' n) (lk : Cond.methodLinkNest M.1.cls i M'.1 host ∈ mn_NW) (hdg : decode M.2.1 pc = .ok (.invokespecial i, 3)) (hs : stk = As.reverse ++ .ref a :: st) (hn : As.length = n) (hlen : (lg_sl (.ref a :: As)).length ≤ M'.2.2.1) (hcat : (st.map fun v => v.category).sum ≤ 8) (hrm : mn_rm M' d w nc ns d' w' nc' ns')
    (hM : mn_R E M' d' w' nc' ns' 0 (lv_args 0 (.ref a :: As)) [] g Q') (k : ∀ v g', Q' v g' → mn_R E M d w (nc - nc') (ns - ns') (pc + 3) ls (v.toList ++ st) g' Q) : mn_R E M d w nc ns pc ls stk g Q := by
  intro p e s m args below meth c H locs cells slots lsr R X Y hl hr
  subst hs
  obtain ⟨r1, r2, r3, r4⟩ := hrm
  obtain ⟨R1, R2, R3, R4⟩ := id hr
  refine mn_back (rest := st.map (mn_v E)) (va_runIN (As := As.map (mn_v E)) (b := mn_ad E a) (n := n) ⟨X.1, X.2.1, X.2.2.1, X.own, X.hts⟩ (mn_met ok.1 hlen hM) ⟨va_cnB n X.hts (mn_wd_good ok.1) (by rw [← ok.2.2.2]; rfl) rfl rfl (X.K.2 _ lk) (X.hts _ ok.1.2.2.1) ⟨ok.1.2.2.2.1.1, ok.1.2.2.2.1.2, ok.1.2.2.2.2⟩ ⟨Nat.le_trans r1 R1, Nat.le_trans r2 R2⟩, ok.2.1, X.hts _ ok.2.2.1⟩ ⟨mn_Pc.blind, mn_pre X Y _⟩ rfl (by rw [List.length_map]; exact hn) hl.1 (by simp [mn_v]) (lv_room (by rw [mn_cats]; exact hcat)) hdg ⟨by omega, by omega⟩) Y.2.2.2 (fun v g' H1 locs1 hq hY => ?_)
  rw [mn_opt]
  exact k v g' hq p e s m args below meth c H1 locs1 _ _ lsr R X hY hl ⟨R1, R2, by omega, by omega⟩
theorem mn_objInit (lk : Cond.methodLink M.1.cls i Lib.objectInit ∈ mn_W) (hin : Cond.instanceMethod Lib.objectInit ∈ mn_W) (hco : Cond.code Lib.objectInit ⟨#[0xb1]⟩ 1 none ∈ mn_W) (hdg : decode M.2.1 pc = .ok (.invokespecial i, 3)) (hcat : (st.map fun v => v.category).sum ≤ 8) (hd : 1 ≤ d) (hw : 20 ≤ w) (k : mn_R E M d w nc ns (pc + 3) ls st g Q) : mn_R E M d w nc ns pc ls (.ref a :: st) g Q := by
  intro p e s m args below meth c H locs cells slots lsr R X Y hl hr
  refine W.objInit X.1 X.2.1 X.own (X.hts _ lk) (X.hts _ hin) (X.hts _ hco) rfl (hl.1.trans X.2.2.1.symm) rfl hdg (Nat.le_trans hd hr.1) ?_ (k p e s m args below meth c H locs cells slots lsr R X Y hl hr)
  have := hr.2.1
  show 2 * 0 + _ + 12 ≤ _
  rw [mn_cats]
  omega
theorem mn_get {C : String} {T : u_T} {N : Nat} {ty : Nat → FieldType} {fs : List Value} {v : Value} (oc : mn_okC ci C T N ty) (k0 : Nat) (lk : Cond.fieldLink M.1.cls i (T k0).1 (T k0).2.1 (T k0).2.2.1 ∈ mn_W) (hk : k0 < N) (hat : mn_at g a (.inr (ci, fs))) (hv : fs[k0]? = some v) (hdg : decode M.2.1 pc = .ok (.getfield i, 3)) (k : mn_R E M d w nc ns (pc + 3) ls (v :: st) g Q) : mn_R E M d w nc ns pc ls (.ref a :: st) g Q :=
  fun p e s m args below meth c H locs cells slots lsr R X Y hl hr => va_get (v := mn_v E v) (fs := fs.map (mn_v E)) X.1 X.2.1 X.hts oc.2.1 X.own X.K.1 Y.1 (a - 1) (mn_ws_get hat) oc.1 k0 hk (X.hts _ lk) (fun _ h => h) (by rw [List.getElem?_map, hv]; rfl) hdg (k p e s m args below meth c H locs cells slots lsr R X Y hl hr)
theorem mn_getN {host : String} {C : String} {T : u_T} {N : Nat} {ty : Nat → FieldType} {fs : List Value} {v : Value} (oc : mn_okC ci C T N ty) (k0 : Nat) (lk : Cond.fieldLinkNest M.1.cls i (T k0).1 (T k0).2.1 (T k0).2.2.1 host ∈ mn_NW) (hk : k0 < N) (hat : mn_at g a (.inr (ci, fs))) (hv : fs[k0]? = some v) (hdg : decode M.2.1 pc = .ok (.getfield i, 3)) (k : mn_R E M d w nc ns (pc + 3) ls (v :: st) g Q) : mn_R E M d w nc ns pc ls (.ref a :: st) g Q :=
  fun p e s m args below meth c H locs cells slots lsr R X Y hl hr => va_getN (v := mn_v E v) (fs := fs.map (mn_v E)) X.1 X.2.1 X.hts oc.2.1 X.own X.K.1 Y.1 (a - 1) (mn_ws_get hat) oc.1 k0 hk (va_Nw.use rfl (X.K.2 _ lk)) (fun _ h => h) (by rw [List.getElem?_map, hv]; rfl) hdg (k p e s m args below meth c H locs cells slots lsr R X Y hl hr)
theorem mn_Y.set {s : State} {H1 : Heap} {locs1 : List Loc} {c0 c1 : mn_C} (hat : mn_at g a c0) (Y0 : ∃ H locs, mn_Y E g s H locs) (hP : va_P E.2.1 vwCl ((mn_ws E g).set (a - 1) (mn_ad E a, mn_E E c1)) H1) (hz : H1.size = mn_Z E + g.1) (hS : va_S (mn_F E) s.heap H1 locs1) : mn_Y E (mn_set g a c1) s H1 locs1 := by
  obtain ⟨H, locs, Y⟩ := Y0
  rw [mn_ws_set hat] at hP
  exact ⟨hP, hz, Y.2.2.1, hS⟩
end MNCALL
