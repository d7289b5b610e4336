/-! rows of rows: 'new int[3][83]', the three rows one by one -/
theorem mz_new {E : CtlPost} {e : Env} {d : Bool} {acts : List Action} {U : State} {cA comp : ClassId} {kA : Class} {ty : FieldType} {len : Nat} {x : Value} {Q : Addr → Pre} (hk : U.vm.classes[cA]? = some kA) (hkind : kA.kind = .array comp ty) (hfit : fits ty x = true) (hdef : x.isDefault = true) (h1 : ¬ len > e.platform.arrayLengthLimit) (h2 : ¬ len * componentBytes ty > e.platform.maxHeapBytes) (h3 : U.heap.size < e.platform.maxCells) (h4 : U.slotsUsed + len ≤ e.platform.maxSlots) (hq : Q U.heap.size d acts (U.pushCell { cls := cA, slots := Array.replicate len x, vm := .none })) : wp (Jvm.newArray cA len x) Q E e d acts U := by
  have ha : allocActs (Array.replicate len x) U.heap.size acts = acts := by
    unfold allocActs
    rw [if_pos]
    rw [Array.all_replicate]
    split <;> simp [hdef]
  have hf : ∀ i v, (Array.replicate len x)[i]? = some v → U.fitsSlot cA .none i v = true := by
    intro i v hv
    rw [Array.getElem?_replicate] at hv
    by_cases hi : i < len
    · rw [if_pos hi] at hv
      cases hv
      simp [State.fitsSlot, State.slotType?, hk, hkind, hfit]
    · rw [if_neg hi] at hv
      cases hv
  simp only [Jvm.newArray, Jvm.arrayFits, wp_bind', W.ask, W.ite, h1, if_false, wp_pure', W.theClass, hk, hkind, h2, W.alloc, W.stop, Option.some.injEq, exists_eq_left', Array.size_replicate, ha]
  rw [if_neg (by omega)]
  exact ⟨h3, h4, hf, hq⟩
abbrev mz_r (comp : ClassId) : Cell := { cls := comp, slots := Array.replicate 83 (.int 0), vm := .none }
theorem mz_one {E : CtlPost} {e : Env} {d : Bool} {acts : List Action} {U : State} {comp cc : ClassId} {kC : Class} {Q : Addr → Pre} (hk : U.vm.classes[comp]? = some kC) (hkind : kC.kind = .array cc .int) (h1 : ¬ 83 > e.platform.arrayLengthLimit) (h2 : ¬ 83 * 4 > e.platform.maxHeapBytes) (h3 : U.heap.size < e.platform.maxCells) (h4 : U.slotsUsed + 83 ≤ e.platform.maxSlots) (hq : Q U.heap.size d acts (U.pushCell (mz_r comp))) : wp (multianewarray.make comp [83]) Q E e d acts U := by
  rw [multianewarray.make]
  simp only [wp_bind', W.ite, show ¬ ((83 : Int32) < 0) by decide, if_false, wp_pure', W.theClass, hk, hkind, Option.some.injEq, exists_eq_left']
  exact mz_new hk hkind rfl rfl h1 h2 h3 h4 hq
/-- the outer row with i of its rows in it -/
def mz_o (cA : ClassId) (h0 : Nat) : Nat → Cell
  | 0 => { cls := cA, slots := Array.replicate 3 .null, vm := .none }
  | i + 1 => (mz_o cA h0 i).setSlot i (.ref (h0 + (i + 1)))
theorem mz_o_f (cA : ClassId) (h0 : Nat) : ∀ i, (mz_o cA h0 i).cls = cA ∧ (mz_o cA h0 i).vm = .none ∧ (mz_o cA h0 i).slots.size = 3
  | 0 => ⟨rfl, rfl, rfl⟩
  | i + 1 => by
    obtain ⟨a, b, c⟩ := mz_o_f cA h0 i
    exact ⟨a, b, by simp [mz_o, Cell.setSlot, c]⟩
/-- the heap behind i rows -/
def mz_H (U : State) (cA comp : ClassId) : Nat → State
  | 0 => U.pushCell (mz_o cA U.heap.size 0)
  | i + 1 => ((mz_H U cA comp i).pushCell (mz_r comp)).setCell U.heap.size (mz_o cA U.heap.size (i + 1))
theorem mz_H_f (U : State) (cA comp : ClassId) : ∀ i, (mz_H U cA comp i).heap.size = U.heap.size + (i + 1) ∧ (mz_H U cA comp i).heap[U.heap.size]? = some (mz_o cA U.heap.size i) ∧ (mz_H U cA comp i).vm = U.vm ∧ (mz_H U cA comp i).slotsUsed = U.slotsUsed + 3 + 83 * i ∧ (∀ q, q < U.heap.size → (mz_H U cA comp i).heap[q]? = U.heap[q]?) ∧ ∀ j, j < i → (mz_H U cA comp i).heap[U.heap.size + (j + 1)]? = some (mz_r comp)
  | 0 => ⟨by simp [mz_H], State.heap_pushCell_size _ _, rfl, by simp [mz_H, mz_o], fun q hq => State.heap_pushCell_of_lt _ _ hq, fun j hj => absurd hj (Nat.not_lt_zero _)⟩
  | i + 1 => by
    obtain ⟨a1, a2, a3, a4, a5, a6⟩ := mz_H_f U cA comp i
    have hl : U.heap.size < (mz_H U cA comp i).heap.size := by omega
    have hc : ((mz_H U cA comp i).pushCell (mz_r comp)).heap[U.heap.size]? = some (mz_o cA U.heap.size i) := by rw [State.heap_pushCell_of_lt (h := hl)]; exact a2
    refine ⟨?_, State.heap_setCell_self hc, by simp [mz_H, a3], ?_, fun q hq => ?_, fun j hj => ?_⟩
    · simp [mz_H, State.setCell, a1]; omega
    · simp [mz_H, a4]; omega
    · show (((mz_H U cA comp i).pushCell (mz_r comp)).setCell U.heap.size _).heap[q]? = _
      rw [State.heap_setCell_other (Nat.ne_of_gt hq), State.heap_pushCell_of_lt (h := show q < (mz_H U cA comp i).heap.size by omega)]
      exact a5 q hq
    · show (((mz_H U cA comp i).pushCell (mz_r comp)).setCell U.heap.size _).heap[U.heap.size + (j + 1)]? = _
      rw [State.heap_setCell_other (show U.heap.size ≠ U.heap.size + (j + 1) by omega)]
      by_cases e : j = i
      · subst e
        rw [← a1]
        exact State.heap_pushCell_size _ _
      · rw [State.heap_pushCell_of_lt (h := show U.heap.size + (j + 1) < (mz_H U cA comp i).heap.size by omega)]
        exact a6 j (by omega)
theorem mz_top (U : State) (f : JFrame) (cA comp : ClassId) : ∀ i, mz_H (U.setTop f) cA comp i = (mz_H U cA comp i).setTop f
  | 0 => rfl
  | i + 1 => by simp only [mz_H, mz_top U f cA comp i, State.heap_setTop, State.pushCell_setTop, State.setCell_setTop]
theorem mz_three {E : CtlPost} {e : Env} {d : Bool} {acts : List Action} {U : State} {cA comp cc : ClassId} {kA kC : Class} {Q : Addr → Pre} (hA : U.vm.classes[cA]? = some kA) (hkA : kA.kind = .array comp (.array .int)) (hC : U.vm.classes[comp]? = some kC) (hkC : kC.kind = .array cc .int) (h1 : ¬ 83 > e.platform.arrayLengthLimit) (h2 : ¬ 83 * 4 > e.platform.maxHeapBytes) (h3 : U.heap.size + 4 ≤ e.platform.maxCells) (h4 : U.slotsUsed + 252 ≤ e.platform.maxSlots) (hq : ∀ d' acts', Q U.heap.size d' acts' (mz_H U cA comp 3)) : wp (multianewarray.make cA [3, 83]) Q E e d acts U := by
  rw [multianewarray.make]
  simp only [wp_bind', W.ite, show ¬ ((3 : Int32) < 0) by decide, if_false, wp_pure', W.theClass, hA, hkA, Option.some.injEq, exists_eq_left']
  refine mz_new hA hkA rfl rfl (show ¬ 3 > e.platform.arrayLengthLimit by omega) (show ¬ 3 * 4 > e.platform.maxHeapBytes by omega) (by omega) (show U.slotsUsed + 3 ≤ _ by omega) ?_
  have hfac : ∀ i, i < 3 → (mz_H U cA comp i).vm.classes[comp]? = some kC ∧ (mz_H U cA comp i).heap.size < e.platform.maxCells ∧ (mz_H U cA comp i).slotsUsed + 83 ≤ e.platform.maxSlots ∧ ((mz_H U cA comp i).pushCell (mz_r comp)).heap[U.heap.size]? = some (mz_o cA U.heap.size i) ∧ (mz_o cA U.heap.size i).vm ≠ .unknown ∧ i < (mz_o cA U.heap.size i).slots.size ∧ ((mz_H U cA comp i).pushCell (mz_r comp)).fitsSlot (mz_o cA U.heap.size i).cls (mz_o cA U.heap.size i).vm i (.ref (mz_H U cA comp i).heap.size) = true ∧ ((mz_H U cA comp i).pushCell (mz_r comp)).setCell U.heap.size ((mz_o cA U.heap.size i).setSlot i (.ref (mz_H U cA comp i).heap.size)) = mz_H U cA comp (i + 1) := by
    intro i hi
    obtain ⟨a1, a2, a3, a4, a5, a6⟩ := mz_H_f U cA comp i
    obtain ⟨b1, b2, b3⟩ := mz_o_f cA U.heap.size i
    have hl : U.heap.size < (mz_H U cA comp i).heap.size := by omega
    refine ⟨by rw [a3]; exact hC, by omega, by omega, by rw [State.heap_pushCell_of_lt (h := hl)]; exact a2, by rw [b2]; simp, by rw [b3]; exact hi, ?_, ?_⟩
    · rw [b1, b2]
      simp [State.fitsSlot, State.slotType?, a3, hA, hkA]
      rfl
    · rw [a1]
      rfl
  have e0 : mz_H U cA comp 0 = U.pushCell { cls := cA, slots := Array.replicate 3 .null, vm := .none } := rfl
  have hfi : (List.find? (fun x : Int32 => decide (x < 0)) [83]) = none := by decide
  simp only [hfi, show ((3 : Int32) == 0) = false by decide, show (3 : Int32).toNatClampNeg = 3 from rfl]
  rw [if_neg (by decide), wp_bind', Std.Legacy.Range.forIn_eq_forIn_range']
  show wp (forIn (List.range' 0 3 1) PUnit.unit _) _ E e d acts _
  rw [show List.range' 0 3 1 = [0, 1, 2] from rfl]
  simp only [List.forIn_cons, List.forIn_nil, wp_bind', wp_pure']
  rw [← e0]
  obtain ⟨c1, c2, c3, c4, c5, c6, c7, c8⟩ := hfac 0 (by decide)
  refine mz_one c1 hkC h1 h2 c2 c3 ?_
  simp only [wp_bind', W.writeLoc, wp_pure']
  refine ⟨_, c4, c5, c6, c7, ?_⟩
  rw [c8]
  obtain ⟨c1, c2, c3, c4, c5, c6, c7, c8⟩ := hfac 1 (by decide)
  refine mz_one c1 hkC h1 h2 c2 c3 ?_
  simp only [wp_bind', W.writeLoc, wp_pure']
  refine ⟨_, c4, c5, c6, c7, ?_⟩
  rw [c8]
  obtain ⟨c1, c2, c3, c4, c5, c6, c7, c8⟩ := hfac 2 (by decide)
  refine mz_one c1 hkC h1 h2 c2 c3 ?_
  simp only [wp_bind', W.writeLoc, wp_pure']
  refine ⟨_, c4, c5, c6, c7, ?_⟩
  rw [c8]
  exact hq _ _
section MZ
variable {p : Program} {l : Launch} {e : Env} {R : Room} {s : State} {m : MethodId} {args : Array Value} {below : List Frame} {meth : Method} {c : Code} {H : Heap} {locs : List Loc} {cells slots : Nat} {Q : State → Prop}
theorem mz_S {T : State} (X : Stand p l e R s m args below meth c T locs cells slots) (cA comp : ClassId) : ∀ i, ∃ J : List Loc, (∀ x ∈ J, x.base = T.heap.size) ∧ Stand p l e R s m args below meth c (mz_H T cA comp i) (locs ++ J) (cells + (i + 1)) (slots + 3 + 83 * i)
  | 0 => ⟨[], fun x hx => (by cases hx), by
    have h := X.pushed (mz_o cA T.heap.size 0)
    rw [List.append_nil]
    exact h⟩
  | i + 1 => by
    obtain ⟨J, hJ, Xi⟩ := mz_S X cA comp i
    obtain ⟨a1, a2, -, -, -, -⟩ := mz_H_f T cA comp i
    have hl : T.heap.size < (mz_H T cA comp i).heap.size := by omega
    have hc : ((mz_H T cA comp i).pushCell (mz_r comp)).heap[T.heap.size]? = some (mz_o cA T.heap.size i) := by rw [State.heap_pushCell_of_lt (h := hl)]; exact a2
    have h := (Xi.pushed (mz_r comp)).stored hc i (.ref (T.heap.size + (i + 1)))
    refine ⟨J ++ [⟨T.heap.size, i⟩], fun x hx => ?_, ?_⟩
    · rcases List.mem_append.mp hx with q | q
      · exact hJ x q
      · rw [List.mem_singleton.mp q]
    · rw [← List.append_assoc]
      have e3 : (mz_r comp).slots.size = 83 := Array.size_replicate
      rw [e3, show slots + 3 + 83 * i + 83 = slots + 3 + 83 * (i + 1) by omega] at h
      exact h
theorem mz_W {cc : ByteArray} {pc index : Nat} {ls : Array Slot} {rest : List Value} {own : String} (hexec : p.tables.exec = Jvm.exec) (hb : c.code = cc) (hown : s.vm.findClass own = some m.cls) (hclink : (Cond.classLink own index "[[I").before args s = true) (hover : (Cond.arrayOver (.array .int)).before #[] s = true) (harr : (Cond.arrayClass .int).before args s = true) (hcells : cells + 4 ≤ R.cells) (hslots : slots + 252 ≤ R.slots) (hdg : decode cc pc = .ok (.multianewarray index 2, 4))
    (kk : ∀ (cA comp : ClassId) (H1 : Heap), s.vm.findClass ("[" ++ (FieldType.array .int).toString) = some cA → s.vm.findClass ("[" ++ (FieldType.int).toString) = some comp → H1.size = H.size + 4 → (∀ q, q < H.size → H1[q]? = H[q]?) → H1[H.size]? = some (mz_o cA H.size 3) → (∀ j, j < 3 → H1[H.size + (j + 1)]? = some (mz_r comp)) → W p l e R s m args below meth c H1 locs (cells + 4) (slots + 252) Q (F0 m (pc + 4) ls (.ref H.size :: rest))) :
    W p l e R s m args below meth c H locs cells slots Q (F0 m pc ls (.int 83 :: .int 3 :: rest)) := by
  intro T hT X
  subst hT
  subst hb
  have hpl : e.platform.magicAccessors = ({} : Platform).magicAccessors := by rw [X.admits.platform]
  obtain ⟨comp, cA, kA, hcomp, -, hkA, hkindA, hnameA⟩ := arrayOverA_spec hover
  obtain ⟨comp', kC, cc, hcomp', hkC, hkindC⟩ := Cond.arrayClass_spec harr
  have ec : comp' = comp := Option.some.inj (hcomp'.symm.trans hcomp)
  subst ec
  obtain ⟨c0, hfc0, hcl⟩ := Cond.classLink_spec hown hclink e.platform hpl
  have e0 : cA = c0 := Option.some.inj (hnameA.symm.trans hfc0)
  subst e0
  obtain ⟨hg1, hw1, hr1⟩ := State.classEntry (e := e) X.warmed hcl
  generalize T.vm.noted m.cls index (.cls cA) = vm1 at hg1 hw1 hr1
  obtain ⟨kA1, hkA1, heA⟩ := hw1.alike.2.2 _ _ hkA
  obtain ⟨kC1, hkC1, heC⟩ := hw1.alike.2.2 _ _ hkC
  have X1 := X.noted hw1
  obtain ⟨J, hJ, X3⟩ := mz_S X1 cA comp' 3
  obtain ⟨a1, a2, -, -, a5, a6⟩ := mz_H_f (T.setVm vm1) cA comp' 3
  have X4 := X3.dropFresh (fun x hx => by rw [hJ x hx]; exact X.heapGrown)
  obtain ⟨t, b1, b2⟩ := kk cA comp' (mz_H (T.setVm vm1) cA comp' 3).heap hnameA hcomp' a1 a5 a2 a6 (mz_H (T.setVm vm1) cA comp' 3) rfl X4
  refine ⟨t, ?_, b2⟩
  obtain ⟨m1, m2⟩ := X.roomAbove hcells hslots
  have hl : ¬ 83 > e.platform.arrayLengthLimit := by rw [Launch.admits_arrayLengthLimit X.admits]; omega
  have hh : ¬ 83 * 4 > e.platform.maxHeapBytes := by rw [Launch.admits_maxHeapBytes X.admits]; omega
  jvm_step X.here [hexec, hdg]
  simp only [multianewarray.sem, wp_bind', W.resolveClassAt_links (State.method?_setTop (F0 m pc ls (.int 83 :: .int 3 :: rest)) X.here.top) hg1]
  rw [W.popN, if_neg (by decide)]
  refine ⟨F0 m pc ls (.int 83 :: .int 3 :: rest), State.topJava?_setTop' (s := T.setVm vm1) _ X.here.top, [.int 3, .int 83], rest, rfl, rfl, ?_⟩
  simp only [List.mapM_cons, List.mapM_nil, wp_bind', wp_pure']
  refine mz_three (kA := kA1) (kC := kC1) (comp := comp') (cc := cc) hkA1 (by rw [heA]; exact hkindA) hkC1 (by rw [heC]; exact hkindC) hl hh m1 m2 (fun d' acts' => ?_)
  have eS : ((T.setTop (F0 m pc ls (.int 83 :: .int 3 :: rest))).setVm vm1).setTop (F0 m pc ls rest) = (T.setVm vm1).setTop (F0 m pc ls rest) := by
    show ((T.setVm vm1).setTop _).setTop _ = _
    rw [State.setTop_setTop]
  rw [eS, mz_top]
  simp only [wp_bind', W.mark, W.pushRef, State.topJava?_setTop' _ X4.here.top, Option.some.injEq, exists_eq_left', State.setTop_setTop, State.heap_setTop]
  intro acts
  simp [jvm, X4.here.top]
  exact b1
end MZ
theorem mz_o3 (cA : ClassId) (h0 : Nat) : mz_o cA h0 3 = arrV cA 3 (fun j => va_rf (if j < 3 then some (h0 + (j + 1)) else none)) := by
  have key : ∀ i, mz_o cA h0 i = arrV cA 3 (fun j => va_rf (if j < i then some (h0 + (j + 1)) else none)) := by
    intro i
    induction i with
    | zero =>
      show ({ cls := cA, slots := Array.replicate 3 .null, vm := .none } : Cell) = _
      rw [arrV_new]
      refine congrArg (arrV cA 3) (funext fun j => ?_)
      rw [if_neg (Nat.not_lt_zero _)]
      rfl
    | succ i ih =>
      show (mz_o cA h0 i).setSlot i (.ref (h0 + (i + 1))) = _
      rw [ih, arrV_store]
      refine congrArg (arrV cA 3) (funext fun j => ?_)
      by_cases e : j = i
      · subst e
        simp [updV, va_rf]
      · by_cases h : j < i
        · simp [updV, e, h, Nat.lt_succ_of_lt h]
        · simp [updV, e, h, show ¬ j < i + 1 by omega]
  exact key 3
theorem mz_r0 (comp : ClassId) : mz_r comp = vp_cell comp (83, .inl (fun _ => 0)) := by
  show ({ cls := comp, slots := Array.replicate 83 (.int 0), vm := .none } : Cell) = _
  rw [arrV_new]
  rfl
