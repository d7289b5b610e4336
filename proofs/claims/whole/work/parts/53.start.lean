/-! THE CLAIM OUT OF ONE WALK OF THE LAW'S BODY. Your part is whole_start (and what it stands on); all else here is the same for every law, but numbers. -/
def R_law : String := "VolumeSetsLaw"
def lw_P (b : Addr) (xs : List Int32) (args : Array Value) (s : State) : Prop := args = #[.ref b] ∧ s.IntsAt b xs ∧ xs.length ≤ 3072 ∧ (Jvm.Cond.and given_1 narrow_1).before args s = true
def lw_Q (_ : Array Value) (s : State) (o : Outcome) (t : State) : Prop := o = .returned (some (.int 1)) ∧ Framed s o t [] 600000 7302250
def lw_Z (below : List Frame) (a : Array Value) (s : State) : State → Prop := fun t => ∃ o, t.status = .running ∧ Ended t below o ∧ lw_Q a s o t
/-- the law's own end, with 1 on the stack, nothing written that was there before, its room as the claim has it -/
theorem lw_ret {p : Program} {l : Launch} {e : Env} {s : State} {m : MethodId} {below : List Frame} {meth : Method} {c : Code} {b : Nat} (hx : p.tables.exec = Jvm.exec) (hb : c.code = code) (hr : meth.sig.returnType = ret) (hlocks : meth.locks = false) {pc : Nat} {H : Heap} {ls : Array Slot} (hdg : decode code pc = .ok (.ireturn, 1)) : W p l e room_1 s m #[Value.ref b] below meth c H [] 600000 7302250 (lw_Z below #[Value.ref b] s) (F0 m pc ls [.int 1]) := by
  intro T hT X
  obtain ⟨fs, hret, hrun, hended, hW, hframe⟩ := X.leave (v := some (.int 1)) (hlocks := hlocks) (fun h => by rw [hr] at h; cases h)
  have hmeth' : T.vm.method? m = some meth := X.method'
  refine ⟨T.setFrames fs, ?_, .returned (some (.int 1)), hrun, hended, rfl, ⟨_, rfl⟩, hW, hframe⟩
  jvm_step X.here [X.here.top, hx, hb, hdg, hmeth', hr, ret, narrow_b1]
  (try refine ⟨rfl, ?_⟩); (try refine ⟨rfl, ?_⟩)
  first | (intro acts; rw [hret _ acts rfl rfl rfl]) | rw [hret _ _ rfl rfl rfl]
  exact Steps.refl _
/-- what holds at the law's entry: the machine, the code, the tables' words (any of lw_tbl by 'hts w (by decide +kernel)'), the script of L ints xs at the cell b, what the Statement gives of the start (any of its parts by flat_of_before) -/
def lw_At (p : Program) (s : State) (m : MethodId) (meth : Method) (c : Code) (b L : Nat) (xs : Nat → Int32) : Prop :=
  p.tables.exec = Jvm.exec ∧ c.code = code ∧ meth.sig.returnType = ret ∧ c.maxLocals = 4 ∧ s.vm.findClass R_law = some m.cls ∧ (∀ w ∈ lw_tbl, w.before #[Value.ref b] s = true) ∧ va_X b L xs s s.heap ∧ b < s.heap.size ∧ meth.locks = false ∧ (Jvm.Cond.and given_1 narrow_1).before #[Value.ref b] s = true
-- ===== YOUR PART BEGINS =====
/-- YOUR PART: from the entry, for every script of at most 3072 ints, the law comes to its end with true -/
theorem whole_start {p : Program} {e : Env} {s : State} {m : MethodId} {below : List Frame} {meth : Method} {c : Code} (l : Launch) {b L : Nat} {xs : Nat → Int32} (hL : L ≤ 3072) (C0 : lw_At p s m meth c b L xs) : W p l e room_1 s m #[Value.ref b] below meth c s.heap [] 0 0 (lw_Z below #[Value.ref b] s) (entryFrame m ([Value.ref b] : List Value).toArray 4) := by
  obtain ⟨hx, hcode, hret, hml, hown, hts, hX, hbl, hlocks, -⟩ := C0
  have hW : ∀ w ∈ mn_W, w.before #[Value.ref b] s = true := fun w hw => hts w (List.mem_filter.mp hw).1
  have hN : ∀ w ∈ mn_NW, va_Nw w s := fun w hw => by
    have h1 := hts w (List.mem_filter.mp hw).1
    have h2 := (List.mem_filter.mp hw).2
    cases w <;> first | exact va_Nw.of rfl h1 | exact h1 | cases h2
  have hD : ∀ ci : Nat, ∃ D : ClassId × (Nat → Nat), ∀ q, vwCl[ci]? = some q → u_Kn s q.1 q.2.1 q.2.2 D.1 D.2 := by
    intro ci
    match ci with
    | 0 =>
      obtain ⟨cC, iS, h⟩ := u_known hW okEq.2.1 (hW _ inst_Eq)
      exact ⟨(cC, iS), fun q hq => by have e9 := Option.some.inj (okEq.1.symm.trans hq); subst e9; exact h⟩
    | 1 =>
      obtain ⟨cC, iS, h⟩ := u_known hW okOp.2.1 (hW _ inst_Op)
      exact ⟨(cC, iS), fun q hq => by have e9 := Option.some.inj (okOp.1.symm.trans hq); subst e9; exact h⟩
    | 2 =>
      obtain ⟨cC, iS, h⟩ := u_known hW okPc.2.1 (hW _ inst_Pc)
      exact ⟨(cC, iS), fun q hq => by have e9 := Option.some.inj (okPc.1.symm.trans hq); subst e9; exact h⟩
    | 3 =>
      obtain ⟨cC, iS, h⟩ := u_known hW okRd.2.1 (hW _ inst_Rd)
      exact ⟨(cC, iS), fun q hq => by have e9 := Option.some.inj (okRd.1.symm.trans hq); subst e9; exact h⟩
    | 4 =>
      obtain ⟨cC, iS, h⟩ := u_known hW okRu.2.1 (hW _ inst_Ru)
      exact ⟨(cC, iS), fun q hq => by have e9 := Option.some.inj (okRu.1.symm.trans hq); subst e9; exact h⟩
    | 5 =>
      obtain ⟨cC, iS, h⟩ := u_known hW okSl.2.1 (hW _ inst_Sl)
      exact ⟨(cC, iS), fun q hq => by have e9 := Option.some.inj (okSl.1.symm.trans hq); subst e9; exact h⟩
    | 6 =>
      obtain ⟨cC, iS, h⟩ := u_known hW okSt.2.1 (hW _ inst_St)
      exact ⟨(cC, iS), fun q hq => by have e9 := Option.some.inj (okSt.1.symm.trans hq); subst e9; exact h⟩
    | 7 =>
      obtain ⟨cC, iS, h⟩ := u_known hW okTa.2.1 (hW _ inst_Ta)
      exact ⟨(cC, iS), fun q hq => by have e9 := Option.some.inj (okTa.1.symm.trans hq); subst e9; exact h⟩
    | 8 =>
      obtain ⟨cC, iS, h⟩ := u_known hW okVo.2.1 (hW _ inst_Vo)
      exact ⟨(cC, iS), fun q hq => by have e9 := Option.some.inj (okVo.1.symm.trans hq); subst e9; exact h⟩
    | 9 =>
      obtain ⟨cC, iS, h⟩ := u_known hW okWr.2.1 (hW _ inst_Wr)
      exact ⟨(cC, iS), fun q hq => by have e9 := Option.some.inj (okWr.1.symm.trans hq); subst e9; exact h⟩
    | 10 =>
      obtain ⟨cC, iS, h⟩ := u_known hW okVS.2.1 (hW _ inst_VS)
      exact ⟨(cC, iS), fun q hq => by have e9 := Option.some.inj (okVS.1.symm.trans hq); subst e9; exact h⟩
    | 11 =>
      obtain ⟨cC, iS, h⟩ := u_known hW okMo.2.1 (hW _ inst_Mo)
      exact ⟨(cC, iS), fun q hq => by have e9 := Option.some.inj (okMo.1.symm.trans hq); subst e9; exact h⟩
    | n + 12 => exact ⟨(0, fun _ => 0), fun q hq => by cases hq⟩
  have hT : ∀ t : Nat, ∃ cA : ClassId, ∀ ty, mn_T[t]? = some ty → ArrOfT s cA ty ∧ va_RA s cA ty := by
    intro t
    match t with
    | 0 =>
      obtain ⟨cA, kA, comp, h1, h2, h3⟩ := Cond.arrayClass_spec (hW _ arr_int)
      exact ⟨cA, fun ty hty => by cases hty; exact ⟨fun n z => ⟨fun k h => (by cases h), kA, h2, comp, h3⟩, h1⟩⟩
    | 1 =>
      obtain ⟨comp, cA, kA, h1, -, h3, h4, h5⟩ := Cond.arrayOver_spec (hN _ over_Vo)
      exact ⟨cA, fun ty hty => by cases hty; exact ⟨fun n z => ⟨fun k h => (by cases h), kA, h3, comp, h4⟩, kA, comp, h3, h4, h1, h5⟩⟩
    | 2 =>
      obtain ⟨comp, cA, kA, h1, -, h3, h4, h5⟩ := arrayOverA_spec (hN _ over_int)
      exact ⟨cA, fun ty hty => by cases hty; exact ⟨fun n z => ⟨fun k h => (by cases h), kA, h3, comp, h4⟩, h5⟩⟩
    | n + 3 => exact ⟨0, fun ty hty => by cases hty⟩
  obtain ⟨E, hE⟩ : ∃ E : mn_En, E = (l, (fun ci => (Classical.choose (hD ci)).1, fun ci => (Classical.choose (hD ci)).2), fun t => Classical.choose (hT t), b, s.heap.size - 1, L, xs) := ⟨_, rfl⟩
  have e1 : E.1 = l := by rw [hE]
  have e4 : E.2.2.2.1 = b := by rw [hE]
  have e5 : mn_Z E = s.heap.size - 1 := by rw [hE]
  have e6 : E.2.2.2.2.2.1 = L := by rw [hE]
  have e7 : E.2.2.2.2.2.2 = xs := by rw [hE]
  have hK : mn_K E s := by
    refine ⟨⟨fun ci q hq => ?_, fun k q hk => ?_⟩, hN⟩
    · rw [hE]
      exact Classical.choose_spec (hD ci) q hq
    · have hk3 : k < mn_T.length := by
        have h1 := (List.getElem?_eq_some_iff.mp hk).1
        unfold mn_ty at h1
        rw [List.length_map, List.length_range] at h1
        exact h1
      have hty : mn_T[k]? = some (mn_T[k]'hk3) := List.getElem?_eq_getElem hk3
      have h2 := mn_ty_get (E := E) hty
      rw [h2] at hk
      cases hk
      rw [hE]
      exact Classical.choose_spec (hT k) _ hty
  have hX9 : mn_X E MLa_law p s m #[Value.ref b] meth c := ⟨hx, hcode, hml, hret, hlocks, hown, fun h => absurd h (by decide), hW, hK, by rw [e4, e6, e7]; exact hX, by rw [e4, e5]; omega, by rw [e5]; omega⟩
  have hY9 : mn_Y E (1, fun _ => .inr (0, [])) s s.heap [] := ⟨(fun k q h => by have h9 : ([] : va_W)[k]? = some q := h; rw [List.getElem?_nil] at h9; cases h9), by rw [e5]; show s.heap.size = s.heap.size - 1 + 1; omega, by decide, va_S.rf⟩
  have hv0 : mn_v E (.ref 0) = .ref b := by show Value.ref (mn_ad E 0) = _; unfold mn_ad; rw [if_pos rfl, e4]
  have hl9 := lv_entry ([Value.ref b]) (n := 4) (by show 1 ≤ 4; decide)
  rw [lg_entry_eq]
  have hl8 : lv_has ((lg_sl [Value.ref b] ++ List.replicate (4 - (lg_sl [Value.ref b]).length) Slot.unset).toArray) MLa_law.2.2.1 (mn_m E [(0, .ref 0)]) := by
    show lv_has _ 4 [(0, mn_v E (.ref 0))]
    rw [hv0]
    exact hl9
  have hR := c_La_law (E := E) (g := (1, fun _ => .inr (0, []))) rfl (by rw [e6]; exact hL) p e s m #[Value.ref b] below meth c s.heap [] 0 0 _ room_1 hX9 hY9 hl8 ⟨by decide, by decide, by decide, by decide⟩
  rw [e1] at hR
  intro T hT9 XX
  obtain ⟨t, a1, o, b1, b2, ⟨v, g', hv, ho, -⟩, Lx, ⟨h1, h2, h3⟩, hfree⟩ := hR T hT9 XX
  refine ⟨t, a1, o, b1, b2, ?_, h1, h2, ?_⟩
  · rw [ho, hv]
    rfl
  · obtain ⟨c1, c2, c3, c4, c5, c6⟩ := h3
    refine ⟨c1, c2, c3, c4, c5, fun a cc hcc => ?_⟩
    obtain ⟨c', d1, d2, d3, d4⟩ := c6 a cc hcc
    refine ⟨c', d1, d2, d3, fun i _ => d4 i (fun hm => ?_)⟩
    have h7 : mn_Z E < a := hfree _ hm
    have h8 : a < s.heap.size := (Array.getElem?_eq_some_iff.mp hcc).1
    rw [e5] at h7
    exact absurd h8 (Nat.not_lt.mpr (Nat.le_of_pred_lt h7))
-- ===== YOUR PART ENDS =====
set_option maxHeartbeats 4000000 in
theorem lw_walk (l : Launch) (b : Addr) (xs : List Int32) : MetFree l x (headSpec (Jvm.Cond.code x code maxLocals ret :: tables_1) room_1) (lw_P b xs) (fun _ _ _ _ _ => True) lw_Q := by
  refine MetFree.of_bodyS (code := code) (maxLocals := maxLocals) (ret := ret) (by decide) ?_ ?_
  · intro args s m h hn
    obtain ⟨meth, c, h1, h2, h3, h4, h5, h6, -, -⟩ := Cond.code_spec hn (atoms_spec (ws := Jvm.Cond.code x code maxLocals ret :: tables_1) h _ List.mem_cons_self)
    exact ⟨meth, c, h1, h2, h3, h4, h5, h6⟩
  · intro p e s m args below meth c s₁ B hml0 hP _
    obtain ⟨rfl, hx, hbd, hgv⟩ := hP
    obtain ⟨scr, harrAt, hlist, hof, hsmall⟩ := hx
    obtain ⟨hcb, hkn, -, -⟩ := State.arrayAt?_spec harrAt
    have hown : s.vm.findClass R_law = some m.cls := findClass_of_methodNamed B.named
    have hts0 : ∀ c ∈ (Jvm.Cond.code x code maxLocals ret :: tables_1), c.before #[Value.ref b] s = true := atoms_spec (ws := Jvm.Cond.code x code maxLocals ret :: tables_1) B.pre
    have hts : ∀ w ∈ lw_tbl, w.before #[Value.ref b] s = true := k2_hts_sels lw_privs (fun w hw => hts0 w (List.mem_cons_of_mem _ hw)) lw_privs_ok
    have hml : c.maxLocals = 4 := B.maxLocals_eq (hts0 _ List.mem_cons_self)
    have X₀ : Stand p l e room_1 s m #[Value.ref b] below meth c s₁ [] 0 0 := Stand.of_body B
    have hh0 : s₁.heap = s.heap := by rw [B.state]; rfl
    have hsz : scr.slots.size = xs.length := by rw [← Array.length_toList, hlist, List.length_map]
    have hval : ∀ j : Nat, j < xs.length → scr.slots[j]? = some (.int (xs.getD j 0)) := fun j hj => by
      rw [← Array.getElem?_toList, hlist]
      simp [hj]
    have hbl : b < s.heap.size := (Array.getElem?_eq_some_iff.mp hcb).1
    have hX : va_X b xs.length (fun j => xs.getD j 0) s s.heap := ⟨scr, hcb, hof, hkn, hsz, hval⟩
    have K : W p l e room_1 s m #[Value.ref b] below meth c s₁.heap [] 0 0 (lw_Z below #[Value.ref b] s) (entryFrame m ([Value.ref b] : List Value).toArray 4) := by
      rw [hh0]
      exact whole_start l hbd ⟨B.exec, B.bytes, B.returns, hml, hown, hts, hX, hbl, B.notSynchronized, hgv⟩
    obtain ⟨t, a1, o, b1, b2, b3⟩ := K s₁ rfl X₀
    exact ⟨t, o, a1, b1, b2, b3⟩
theorem lw_pre_spec {args : Array Value} {s : State} (h : (Jvm.Cond.and given_1 narrow_1).before args s = true) (hr : rest_1_c.before args s = true) : ∃ (b : Addr) (xs : List Int32), lw_P b xs args s := by
  have hs := flat_of_before _ h
  have hq := flat_of_before _ hr
  have hc : (Cond.count 1).before args s = true := hs _ (by decide +kernel)
  have harr : (Cond.arrayOf (.arg 0) .int).before args s = true := hs _ (by decide +kernel)
  have hle : (Cond.le (.length (.arg 0)) (.int 3072)).before args s = true := hs _ (by decide +kernel)
  have hlen : (Cond.isInt (.length (.arg 0))).before args s = true := hq _ (by decide +kernel)
  have hall : (Cond.all (.arg 0) (.isInt (.elem (.arg 0) (.index 0)))).before args s = true := hq _ (by decide +kernel)
  obtain ⟨b, xs, hb, hx⟩ := State.ints_of_pre rfl harr hlen hall
  have hsm : xs.length < 2 ^ 31 := hx.choose_spec.2.2.2
  have hev : (Term.length (.arg 0)).eval args s none [] s = some (.int xs.length.toInt32) := hx.length_eval hb
  have hv := Cond.le_ints hev (show (Term.int 3072).eval args s none [] s = some (.int 3072) from rfl)
  have hd : xs.length.toInt32 ≤ 3072 := by
    simpa [Cond.before, Cond.holds, hv] using hle
  have hN : xs.length ≤ 3072 := (Int32.ofNat_le_ofNat hsm (by decide)).mp (show Int32.ofNat xs.length ≤ Int32.ofNat 3072 from hd)
  exact ⟨b, xs, Cond.one_arg hc (show args[0]? = some (.ref b) from hb), hx, hN, h⟩
theorem lw_comes (l : Launch) : Comes l x (Jvm.Cond.code x code maxLocals ret :: tables_1) room_1 (fun tb e args s => Calls_1 tb e args s ∧ rest_1 tb e args s ∧ Pre_1 tb e args s)
    (fun _ _ args s o t => lw_Q args s o t) := by
  intro p e ha hc hk s m args below hf hfit hheap happ hpre
  obtain ⟨b, xs, hP⟩ := lw_pre_spec hpre.2.2 hpre.2.1
  obtain ⟨k, o, h1, h2, h3, hQ⟩ := lw_walk l b xs p e ha hc hk s m args below hf ((Spec.applies_iff_loose hf).mp happ).1 hP trivial
  exact ⟨k, o, h1, h2, h3, hQ⟩
theorem lw_frame {s t : State} {o : Outcome} {args : Array Value} (h : Framed s o t [] 600000 7302250) :
    Framed s o t (fieldLocs frame_1_writes args s ++ arrayLocs frame_1_arrays args s ++ staticLocs frame_1_statics s) 600000 7302250 := h
theorem lw_limb (L : Cond) (hL : ∀ (args : Array Value) (s t : State), L.after args s (.returned (some (.int 1))) t = true) :
    ArmFor flags0 classFile x code maxLocals ret World_1 tables_1 room_1 Calls_1 rest_1 Pre_1
      (fun tb e a s o t => postC L tb e a s o t ∧ Framed s o t (fieldLocs frame_1_writes a s ++ arrayLocs frame_1_arrays a s ++ staticLocs frame_1_statics s) 600000 7302250) := by
  intro l _ _ _ p e ha hc hk s m args below hf hfit hheap happ hpre
  obtain ⟨k, o, h1, h2, h3, rfl, hF⟩ := lw_comes l p e ha hc hk s m args below hf hfit hheap happ hpre
  exact ⟨k, _, h1, h2, h3, hL args s _, lw_frame hF⟩
theorem i_vc : Claimed_1_1 ∧ Claimed_1_2 := ⟨lw_limb limb_1_1 (fun args s t => by simp [limb_1_1, Cond.after, Cond.holds, Cond.value]), lw_limb limb_1_2 (fun args s t => Cond.after_iff.mpr (by
  first | (rw [show limb_1_2 = Cond.eq .result (.int 1) from rfl, Cond.eq_ints (x := 1) (y := 1) rfl rfl]; simp; done) | (simp [limb_1_2, Cond.value, Term.eval]; done)))⟩
