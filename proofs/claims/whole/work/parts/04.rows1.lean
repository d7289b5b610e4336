/-! MINE: the judgement over the small world, and a row an instruction -/
def mn_ty (E : mn_En) : List (ClassId × FieldType) := (List.range mn_T.length).map (fun t => (E.2.2.1 t, mn_T.getD t .int))
theorem mn_ty_get {E : mn_En} {t : Nat} {ty : FieldType} (h : mn_T[t]? = some ty) : (mn_ty E)[t]? = some (E.2.2.1 t, ty) := by
  have hlt : t < mn_T.length := (List.getElem?_eq_some_iff.mp h).1
  unfold mn_ty
  rw [List.getElem?_map, List.getElem?_range hlt, Option.map_some, List.getD_eq_getElem?_getD, h]
  rfl
def mn_K (E : mn_En) (U : State) : Prop := va_K E.2.1 vwCl (mn_ty E) U ∧ ∀ w ∈ mn_NW, va_Nw w U
theorem mn_K.warm {E : mn_En} {s U : State} (hW : s.WarmedH U.vm) (h : mn_K E s) : mn_K E U := ⟨va_K.moved hW.alike h.1, fun w hw => mn_nw_warm w hw hW (h.2 w hw)⟩
/-- what stays while a method runs: the machine, the method, the tables, the script -/
def mn_X (E : mn_En) (M : mn_M) (p : Program) (s : State) (m : MethodId) (args : Array Value) (meth : Method) (c : Code) : Prop :=
  p.tables.exec = Jvm.exec ∧ c.code = M.2.1 ∧ c.maxLocals = M.2.2.1 ∧ meth.sig.returnType = M.2.2.2 ∧ meth.locks = false ∧ s.vm.findClass M.1.cls = some m.cls ∧ (M.1.name = "<init>" → meth.name = M.1.name) ∧ (∀ w ∈ mn_W, w.before args s = true) ∧ mn_K E s ∧ va_X E.2.2.2.1 E.2.2.2.2.2.1 E.2.2.2.2.2.2 s s.heap ∧ E.2.2.2.1 ≤ mn_Z E ∧ mn_Z E < s.heap.size
theorem mn_X.own {E : mn_En} {M : mn_M} {p : Program} {s : State} {m : MethodId} {args : Array Value} {meth : Method} {c : Code} (h : mn_X E M p s m args meth c) : s.vm.findClass M.1.cls = some m.cls := h.2.2.2.2.2.1
theorem mn_X.name {E : mn_En} {M : mn_M} {p : Program} {s : State} {m : MethodId} {args : Array Value} {meth : Method} {c : Code} (h : mn_X E M p s m args meth c) : M.1.name = "<init>" → meth.name = M.1.name := h.2.2.2.2.2.2.1
theorem mn_X.hts {E : mn_En} {M : mn_M} {p : Program} {s : State} {m : MethodId} {args : Array Value} {meth : Method} {c : Code} (h : mn_X E M p s m args meth c) : ∀ w ∈ mn_W, w.before args s = true := h.2.2.2.2.2.2.2.1
theorem mn_X.K {E : mn_En} {M : mn_M} {p : Program} {s : State} {m : MethodId} {args : Array Value} {meth : Method} {c : Code} (h : mn_X E M p s m args meth c) : mn_K E s := h.2.2.2.2.2.2.2.2.1
theorem mn_X.scr {E : mn_En} {M : mn_M} {p : Program} {s : State} {m : MethodId} {args : Array Value} {meth : Method} {c : Code} (h : mn_X E M p s m args meth c) : va_X E.2.2.2.1 E.2.2.2.2.2.1 E.2.2.2.2.2.2 s s.heap ∧ E.2.2.2.1 ≤ mn_Z E ∧ mn_Z E < s.heap.size := h.2.2.2.2.2.2.2.2.2
/-- the world -/
def mn_Y (E : mn_En) (g : mn_H) (s : State) (H : Heap) (locs : List Loc) : Prop := va_P E.2.1 vwCl (mn_ws E g) H ∧ H.size = mn_Z E + g.1 ∧ 0 < g.1 ∧ va_S (mn_F E) s.heap H locs
def mn_Rm (R : Room) (d w nc ns cells slots : Nat) : Prop := d ≤ R.frames ∧ w ≤ R.locals ∧ cells + nc ≤ R.cells ∧ slots + ns ≤ R.slots
/-- a method's end -/
def mn_Q (E : mn_En) (Q : Option Value → mn_H → Prop) : Array Value → State → Outcome → State → Prop := fun _ st oc t => ∃ (v : Option Value) (g : mn_H), Q v g ∧ oc = .returned (v.map (mn_v E)) ∧ va_P E.2.1 vwCl (mn_ws E g) t.heap ∧ t.heap.size = mn_Z E + g.1 ∧ 0 < g.1 ∧ va_F (mn_F E) st t
abbrev mn_m (E : mn_En) (ls : List (Nat × Value)) : List (Nat × Value) := ls.map (fun q => (q.1, mn_v E q.2))
/-- THE JUDGEMENT: method M, at pc, with locals ls, stack st, cells g, room for d frames of w words, nc new cells of ns slots: it ends with Q -/
def mn_R (E : mn_En) (M : mn_M) (d w nc ns pc : Nat) (ls : List (Nat × Value)) (st : List Value) (g : mn_H) (Q : Option Value → mn_H → Prop) : Prop :=
  ∀ (p : Program) (e : Env) (s : State) (m : MethodId) (args : Array Value) (below : List Frame) (meth : Method) (c : Code) (H : Heap) (locs : List Loc) (cells slots : Nat) (lsr : Array Slot) (R : Room),
    mn_X E M p s m args meth c → mn_Y E g s H locs → lv_has lsr M.2.2.1 (mn_m E ls) → mn_Rm R d w nc ns cells slots →
    W p E.1 e R s m args below meth c H locs cells slots (MQ below (mn_Q E Q) args s R.cells R.slots (mn_F E)) (F0 m pc lsr (st.map (mn_v E)))
theorem mn_cat (E : mn_En) (v : Value) : (mn_v E v).category = v.category := by cases v <;> rfl
theorem mn_cats (E : mn_En) (st : List Value) : ((st.map (mn_v E)).map fun v => v.category).sum = (st.map fun v => v.category).sum := by
  rw [List.map_map]
  congr 1
  apply List.map_congr_left
  intro v _
  exact mn_cat E v
theorem mn_lv {E : mn_En} {lsr : Array Slot} {nL j i : Nat} {ls : List (Nat × Value)} {v : Value} (hl : lv_has lsr nL (mn_m E ls)) (hj : ls[j]? = some (i, v)) : lsr[i]? = some (.val (mn_v E v)) :=
  lv_at hl j (by rw [List.getElem?_map, hj]; rfl)
def mn_ins (i : Nat) (v : Value) : List (Nat × Value) → List (Nat × Value)
  | [] => [(i, v)]
  | q :: t => if q.1 < i then q :: mn_ins i v t else (i, v) :: q :: t
def mn_put (ls : List (Nat × Value)) (i : Nat) (v : Value) : List (Nat × Value) := mn_ins i v (ls.filter (fun q => !(q.1 == i) && !(q.1 + 1 == i && q.2.category == 2)))
theorem mn_ins_mem {i : Nat} {v : Value} {q : Nat × Value} : ∀ {l : List (Nat × Value)}, q ∈ mn_ins i v l → q = (i, v) ∨ q ∈ l
  | [], h => Or.inl (List.mem_singleton.mp h)
  | x :: t, h => by
    unfold mn_ins at h
    split at h
    · rcases List.mem_cons.mp h with h | h
      · exact Or.inr (by rw [h]; exact List.mem_cons_self)
      · rcases mn_ins_mem h with h | h
        · exact Or.inl h
        · exact Or.inr (List.mem_cons_of_mem _ h)
    · rcases List.mem_cons.mp h with h | h
      · exact Or.inl h
      · exact Or.inr h
theorem mn_put_has {E : mn_En} {lsr : Array Slot} {nL i : Nat} {ls : List (Nat × Value)} {v : Value} (h : lv_has lsr nL ((i, mn_v E v) :: (mn_m E ls).filter (fun q => !(q.1 == i) && !(q.1 + 1 == i && q.2.category == 2)))) : lv_has lsr nL (mn_m E (mn_put ls i v)) := by
  refine ⟨h.1, h.2.1, fun q hq => h.2.2 q ?_⟩
  obtain ⟨x, hx, rfl⟩ := List.mem_map.mp hq
  rcases mn_ins_mem hx with rfl | hx
  · exact List.mem_cons_self
  · obtain ⟨h1, h2⟩ := List.mem_filter.mp hx
    refine List.mem_cons_of_mem _ (List.mem_filter.mpr ⟨List.mem_map.mpr ⟨x, h1, rfl⟩, ?_⟩)
    show (!(x.1 == i) && !(x.1 + 1 == i && (mn_v E x.2).category == 2)) = true
    rw [mn_cat]
    exact h2
section MNROWS
variable {E : mn_En} {M : mn_M} {d w nc ns pc : Nat} {ls ls' : List (Nat × Value)} {st : List Value} {g : mn_H} {Q : Option Value → mn_H → Prop}
theorem mn_R.post {Q' : Option Value → mn_H → Prop} (h : mn_R E M d w nc ns pc ls st g Q') (hq : ∀ v g', Q' v g' → Q v g') : mn_R E M d w nc ns pc ls st g Q := by
  intro p e s m args below meth c H locs cells slots lsr R X Y hl hr T hT XX
  obtain ⟨t, a, o, b1, b2, ⟨v, g', q1, q2⟩, b4⟩ := h p e s m args below meth c H locs cells slots lsr R X Y hl hr T hT XX
  exact ⟨t, a, o, b1, b2, ⟨v, g', hq v g' q1, q2⟩, b4⟩
/-- fewer locals, less room -/
theorem mn_R.less {d' w' nc' ns' : Nat} (h : mn_R E M d' w' nc' ns' pc ls' st g Q) (hs : ∀ q ∈ ls', q ∈ ls) (hd : d' ≤ d) (hw : w' ≤ w) (hc : nc' ≤ nc) (hn : ns' ≤ ns) : mn_R E M d w nc ns pc ls st g Q :=
  fun p e s m args below meth c H locs cells slots lsr R X Y hl hr => h p e s m args below meth c H locs cells slots lsr R X Y ⟨hl.1, hl.2.1, fun q hq => by
    obtain ⟨x, hx, rfl⟩ := List.mem_map.mp hq
    exact hl.2.2 _ (List.mem_map.mpr ⟨x, hs x hx, rfl⟩)⟩ ⟨Nat.le_trans hd hr.1, Nat.le_trans hw hr.2.1, Nat.le_trans (Nat.add_le_add_left hc _) hr.2.2.1, Nat.le_trans (Nat.add_le_add_left hn _) hr.2.2.2⟩

theorem mn_iconst {n : Int} {v : Int32} (hdg : decode M.2.1 pc = .ok (.iconst n, 1)) (hv : Int32.ofInt n = v) (k : mn_R E M d w nc ns (pc + 1) ls (.int v :: st) g Q) : mn_R E M d w nc ns pc ls (st) g Q :=
  fun p e s m args below meth c H locs cells slots lsr R X Y hl hr => lv_iconst X.1 X.2.1 hdg hv (k p e s m args below meth c H locs cells slots lsr R X Y hl hr)
theorem mn_bipush {n : Int} {v : Int32} (hdg : decode M.2.1 pc = .ok (.bipush n, 2)) (hv : (Int8.ofInt n).toInt32 = v) (k : mn_R E M d w nc ns (pc + 2) ls (.int v :: st) g Q) : mn_R E M d w nc ns pc ls (st) g Q :=
  fun p e s m args below meth c H locs cells slots lsr R X Y hl hr => lv_bipush X.1 X.2.1 hdg hv (k p e s m args below meth c H locs cells slots lsr R X Y hl hr)
theorem mn_sipush {n : Int} {v : Int32} (hdg : decode M.2.1 pc = .ok (.sipush n, 3)) (hv : (Int16.ofInt n).toInt32 = v) (k : mn_R E M d w nc ns (pc + 3) ls (.int v :: st) g Q) : mn_R E M d w nc ns pc ls (st) g Q :=
  fun p e s m args below meth c H locs cells slots lsr R X Y hl hr => lv_sipush X.1 X.2.1 hdg hv (k p e s m args below meth c H locs cells slots lsr R X Y hl hr)
theorem mn_null  (hdg : decode M.2.1 pc = .ok (.aconst_null, 1))  (k : mn_R E M d w nc ns (pc + 1) ls (.null :: st) g Q) : mn_R E M d w nc ns pc ls (st) g Q :=
  fun p e s m args below meth c H locs cells slots lsr R X Y hl hr => lv_null X.1 X.2.1 hdg  (k p e s m args below meth c H locs cells slots lsr R X Y hl hr)
theorem mn_iload_n {k0 : Fin 4} {i : Nat} {x : Int32} (j : Nat) (hdg : decode M.2.1 pc = .ok (.iload_n k0, 1)) (hi : (k0 : Nat) = i) (hj : ls[j]? = some (i, .int x)) (k : mn_R E M d w nc ns (pc + 1) ls (.int x :: st) g Q) : mn_R E M d w nc ns pc ls (st) g Q :=
  fun p e s m args below meth c H locs cells slots lsr R X Y hl hr => lv_iload_n X.1 X.2.1 hdg hi (mn_lv hl hj) (k p e s m args below meth c H locs cells slots lsr R X Y hl hr)
theorem mn_iload {i : Nat} {x : Int32} (j : Nat) (hdg : decode M.2.1 pc = .ok (.iload i, 2)) (hj : ls[j]? = some (i, .int x)) (k : mn_R E M d w nc ns (pc + 2) ls (.int x :: st) g Q) : mn_R E M d w nc ns pc ls (st) g Q :=
  fun p e s m args below meth c H locs cells slots lsr R X Y hl hr => lv_iload X.1 X.2.1 hdg (mn_lv hl hj) (k p e s m args below meth c H locs cells slots lsr R X Y hl hr)
theorem mn_aload_n {k0 : Fin 4} {i : Nat} {x : Nat} (j : Nat) (hdg : decode M.2.1 pc = .ok (.aload_n k0, 1)) (hi : (k0 : Nat) = i) (hj : ls[j]? = some (i, .ref x)) (k : mn_R E M d w nc ns (pc + 1) ls (.ref x :: st) g Q) : mn_R E M d w nc ns pc ls (st) g Q :=
  fun p e s m args below meth c H locs cells slots lsr R X Y hl hr => lv_aload_n X.1 X.2.1 hdg hi (mn_lv hl hj) (k p e s m args below meth c H locs cells slots lsr R X Y hl hr)
theorem mn_aload {i : Nat} {x : Nat} (j : Nat) (hdg : decode M.2.1 pc = .ok (.aload i, 2)) (hj : ls[j]? = some (i, .ref x)) (k : mn_R E M d w nc ns (pc + 2) ls (.ref x :: st) g Q) : mn_R E M d w nc ns pc ls (st) g Q :=
  fun p e s m args below meth c H locs cells slots lsr R X Y hl hr => lv_aload X.1 X.2.1 hdg (mn_lv hl hj) (k p e s m args below meth c H locs cells slots lsr R X Y hl hr)
theorem mn_iadd {x y z : Int32} (hdg : decode M.2.1 pc = .ok (.iadd, 1))  (hv : x + y = z) (k : mn_R E M d w nc ns (pc + 1) ls (.int z :: st) g Q) : mn_R E M d w nc ns pc ls (.int y :: .int x :: st) g Q := by
  subst hv
  exact fun p e s m args below meth c H locs cells slots lsr R X Y hl hr => lv_iadd X.1 X.2.1 hdg  (k p e s m args below meth c H locs cells slots lsr R X Y hl hr)
theorem mn_isub {x y z : Int32} (hdg : decode M.2.1 pc = .ok (.isub, 1))  (hv : x - y = z) (k : mn_R E M d w nc ns (pc + 1) ls (.int z :: st) g Q) : mn_R E M d w nc ns pc ls (.int y :: .int x :: st) g Q := by
  subst hv
  exact fun p e s m args below meth c H locs cells slots lsr R X Y hl hr => lv_isub X.1 X.2.1 hdg  (k p e s m args below meth c H locs cells slots lsr R X Y hl hr)
theorem mn_imul {x y z : Int32} (hdg : decode M.2.1 pc = .ok (.imul, 1))  (hv : x * y = z) (k : mn_R E M d w nc ns (pc + 1) ls (.int z :: st) g Q) : mn_R E M d w nc ns pc ls (.int y :: .int x :: st) g Q := by
  subst hv
  exact fun p e s m args below meth c H locs cells slots lsr R X Y hl hr => lv_imul X.1 X.2.1 hdg  (k p e s m args below meth c H locs cells slots lsr R X Y hl hr)
theorem mn_iand {x y z : Int32} (hdg : decode M.2.1 pc = .ok (.iand, 1))  (hv : x &&& y = z) (k : mn_R E M d w nc ns (pc + 1) ls (.int z :: st) g Q) : mn_R E M d w nc ns pc ls (.int y :: .int x :: st) g Q := by
  subst hv
  exact fun p e s m args below meth c H locs cells slots lsr R X Y hl hr => lv_iand X.1 X.2.1 hdg  (k p e s m args below meth c H locs cells slots lsr R X Y hl hr)
theorem mn_ior {x y z : Int32} (hdg : decode M.2.1 pc = .ok (.ior, 1))  (hv : x ||| y = z) (k : mn_R E M d w nc ns (pc + 1) ls (.int z :: st) g Q) : mn_R E M d w nc ns pc ls (.int y :: .int x :: st) g Q := by
  subst hv
  exact fun p e s m args below meth c H locs cells slots lsr R X Y hl hr => lv_ior X.1 X.2.1 hdg  (k p e s m args below meth c H locs cells slots lsr R X Y hl hr)
theorem mn_ixor {x y z : Int32} (hdg : decode M.2.1 pc = .ok (.ixor, 1))  (hv : x ^^^ y = z) (k : mn_R E M d w nc ns (pc + 1) ls (.int z :: st) g Q) : mn_R E M d w nc ns pc ls (.int y :: .int x :: st) g Q := by
  subst hv
  exact fun p e s m args below meth c H locs cells slots lsr R X Y hl hr => lv_ixor X.1 X.2.1 hdg  (k p e s m args below meth c H locs cells slots lsr R X Y hl hr)
theorem mn_ishl {x y z : Int32} (hdg : decode M.2.1 pc = .ok (.ishl, 1))  (hv : x <<< (y &&& 31) = z) (k : mn_R E M d w nc ns (pc + 1) ls (.int z :: st) g Q) : mn_R E M d w nc ns pc ls (.int y :: .int x :: st) g Q := by
  subst hv
  exact fun p e s m args below meth c H locs cells slots lsr R X Y hl hr => lv_ishl X.1 X.2.1 hdg  (k p e s m args below meth c H locs cells slots lsr R X Y hl hr)
theorem mn_ishr {x y z : Int32} (hdg : decode M.2.1 pc = .ok (.ishr, 1))  (hv : x >>> (y &&& 31) = z) (k : mn_R E M d w nc ns (pc + 1) ls (.int z :: st) g Q) : mn_R E M d w nc ns pc ls (.int y :: .int x :: st) g Q := by
  subst hv
  exact fun p e s m args below meth c H locs cells slots lsr R X Y hl hr => lv_ishr X.1 X.2.1 hdg  (k p e s m args below meth c H locs cells slots lsr R X Y hl hr)
theorem mn_iushr {x y z : Int32} (hdg : decode M.2.1 pc = .ok (.iushr, 1))  (hv : (x.toUInt32 >>> (y.toUInt32 &&& Int32.toUInt32 31)).toInt32 = z) (k : mn_R E M d w nc ns (pc + 1) ls (.int z :: st) g Q) : mn_R E M d w nc ns pc ls (.int y :: .int x :: st) g Q := by
  subst hv
  exact fun p e s m args below meth c H locs cells slots lsr R X Y hl hr => lv_iushr X.1 X.2.1 hdg rfl (k p e s m args below meth c H locs cells slots lsr R X Y hl hr)
theorem mn_idiv {x y z : Int32} (hdg : decode M.2.1 pc = .ok (.idiv, 1)) (hne : ¬ y = 0) (hv : x / y = z) (k : mn_R E M d w nc ns (pc + 1) ls (.int z :: st) g Q) : mn_R E M d w nc ns pc ls (.int y :: .int x :: st) g Q := by
  subst hv
  exact fun p e s m args below meth c H locs cells slots lsr R X Y hl hr => lv_idiv X.1 X.2.1 hdg hne (k p e s m args below meth c H locs cells slots lsr R X Y hl hr)
theorem mn_irem {x y z : Int32} (hdg : decode M.2.1 pc = .ok (.irem, 1)) (hne : ¬ y = 0) (hv : x - x / y * y = z) (k : mn_R E M d w nc ns (pc + 1) ls (.int z :: st) g Q) : mn_R E M d w nc ns pc ls (.int y :: .int x :: st) g Q := by
  subst hv
  exact fun p e s m args below meth c H locs cells slots lsr R X Y hl hr => lv_irem X.1 X.2.1 hdg hne (k p e s m args below meth c H locs cells slots lsr R X Y hl hr)
theorem mn_ineg {x z : Int32} (hdg : decode M.2.1 pc = .ok (.ineg, 1))  (hv : -x = z) (k : mn_R E M d w nc ns (pc + 1) ls (.int z :: st) g Q) : mn_R E M d w nc ns pc ls (.int x :: st) g Q := by
  subst hv
  exact fun p e s m args below meth c H locs cells slots lsr R X Y hl hr => lv_ineg X.1 X.2.1 hdg  (k p e s m args below meth c H locs cells slots lsr R X Y hl hr)
theorem mn_dup {v : Value} (hdg : decode M.2.1 pc = .ok (.dup, 1)) (hc : v.category = 1) (k : mn_R E M d w nc ns (pc + 1) ls (v :: v :: st) g Q) : mn_R E M d w nc ns pc ls (v :: st) g Q :=
  fun p e s m args below meth c H locs cells slots lsr R X Y hl hr => lv_dup X.1 X.2.1 hdg ((mn_cat E v).trans hc) (k p e s m args below meth c H locs cells slots lsr R X Y hl hr)
theorem mn_pop {v : Value} (hdg : decode M.2.1 pc = .ok (.pop, 1)) (hc : v.category = 1) (k : mn_R E M d w nc ns (pc + 1) ls (st) g Q) : mn_R E M d w nc ns pc ls (v :: st) g Q :=
  fun p e s m args below meth c H locs cells slots lsr R X Y hl hr => lv_pop X.1 X.2.1 hdg ((mn_cat E v).trans hc) (k p e s m args below meth c H locs cells slots lsr R X Y hl hr)
theorem mn_istore_n {k0 : Fin 4} {i : Nat} {x : Int32} (hdg : decode M.2.1 pc = .ok (.istore_n k0, 1)) (hi : (k0 : Nat) = i) (hn : i < M.2.2.1) (hl' : mn_put ls i (.int x) = ls') (k : mn_R E M d w nc ns (pc + 1) ls' st g Q) : mn_R E M d w nc ns pc ls (.int x :: st) g Q :=
  fun p e s m args below meth c H locs cells slots lsr R X Y hl hr => lv_istore_n X.1 X.2.1 hdg hi hl hn rfl (fun lsr2 hl2 => k p e s m args below meth c H locs cells slots lsr2 R X Y (hl' ▸ mn_put_has (v := .int x) hl2) hr)
theorem mn_istore {i : Nat} {x : Int32} (hdg : decode M.2.1 pc = .ok (.istore i, 2)) (hn : i < M.2.2.1) (hl' : mn_put ls i (.int x) = ls') (k : mn_R E M d w nc ns (pc + 2) ls' st g Q) : mn_R E M d w nc ns pc ls (.int x :: st) g Q :=
  fun p e s m args below meth c H locs cells slots lsr R X Y hl hr => lv_istore X.1 X.2.1 hdg hl hn rfl (fun lsr2 hl2 => k p e s m args below meth c H locs cells slots lsr2 R X Y (hl' ▸ mn_put_has (v := .int x) hl2) hr)
theorem mn_astore_n {k0 : Fin 4} {i : Nat} {x : Nat} (hdg : decode M.2.1 pc = .ok (.astore_n k0, 1)) (hi : (k0 : Nat) = i) (hn : i < M.2.2.1) (hl' : mn_put ls i (.ref x) = ls') (k : mn_R E M d w nc ns (pc + 1) ls' st g Q) : mn_R E M d w nc ns pc ls (.ref x :: st) g Q :=
  fun p e s m args below meth c H locs cells slots lsr R X Y hl hr => lv_astore_n X.1 X.2.1 hdg hi hl hn rfl (fun lsr2 hl2 => k p e s m args below meth c H locs cells slots lsr2 R X Y (hl' ▸ mn_put_has (v := .ref x) hl2) hr)
theorem mn_astore {i : Nat} {x : Nat} (hdg : decode M.2.1 pc = .ok (.astore i, 2)) (hn : i < M.2.2.1) (hl' : mn_put ls i (.ref x) = ls') (k : mn_R E M d w nc ns (pc + 2) ls' st g Q) : mn_R E M d w nc ns pc ls (.ref x :: st) g Q :=
  fun p e s m args below meth c H locs cells slots lsr R X Y hl hr => lv_astore X.1 X.2.1 hdg hl hn rfl (fun lsr2 hl2 => k p e s m args below meth c H locs cells slots lsr2 R X Y (hl' ▸ mn_put_has (v := .ref x) hl2) hr)
theorem mn_iinc {i : Nat} {n : Int} {x v : Int32} (j : Nat) (hdg : decode M.2.1 pc = .ok (.iinc i n, 3)) (hj : ls[j]? = some (i, .int x)) (hv : x + Int32.ofInt n = v) (hn : i < M.2.2.1) (hl' : mn_put ls i (.int v) = ls') (k : mn_R E M d w nc ns (pc + 3) ls' st g Q) : mn_R E M d w nc ns pc ls st g Q :=
  fun p e s m args below meth c H locs cells slots lsr R X Y hl hr => lv_iinc (k := j) X.1 X.2.1 hdg hl (by rw [List.getElem?_map, hj]; rfl) hv hn rfl (fun lsr2 hl2 => k p e s m args below meth c H locs cells slots lsr2 R X Y (hl' ▸ mn_put_has (v := .int v) hl2) hr)
theorem mn_if_eq {x : Int32} {off : Int} (tgt : Nat) (hdg : decode M.2.1 pc = .ok (.ifCond .eq off, 3)) (ht : (pc : Int) + off = (tgt : Int)) (kt : x = 0 → mn_R E M d w nc ns tgt ls st g Q) (kf : ¬ x = 0 → mn_R E M d w nc ns (pc + 3) ls st g Q) : mn_R E M d w nc ns pc ls (.int x :: st) g Q :=
  fun p e s m args below meth c H locs cells slots lsr R X Y hl hr => lv_if_eq X.1 X.2.1 hdg ht (fun h => kt h p e s m args below meth c H locs cells slots lsr R X Y hl hr) (fun h => kf h p e s m args below meth c H locs cells slots lsr R X Y hl hr)
theorem mn_icmp_eq {x y : Int32} {off : Int} (tgt : Nat) (hdg : decode M.2.1 pc = .ok (.if_icmp .eq off, 3)) (ht : (pc : Int) + off = (tgt : Int)) (kt : x = y → mn_R E M d w nc ns tgt ls st g Q) (kf : ¬ x = y → mn_R E M d w nc ns (pc + 3) ls st g Q) : mn_R E M d w nc ns pc ls (.int y :: .int x :: st) g Q :=
  fun p e s m args below meth c H locs cells slots lsr R X Y hl hr => lv_icmp_eq X.1 X.2.1 hdg ht (fun h => kt h p e s m args below meth c H locs cells slots lsr R X Y hl hr) (fun h => kf h p e s m args below meth c H locs cells slots lsr R X Y hl hr)
theorem mn_if_ne {x : Int32} {off : Int} (tgt : Nat) (hdg : decode M.2.1 pc = .ok (.ifCond .ne off, 3)) (ht : (pc : Int) + off = (tgt : Int)) (kt : ¬ x = 0 → mn_R E M d w nc ns tgt ls st g Q) (kf : x = 0 → mn_R E M d w nc ns (pc + 3) ls st g Q) : mn_R E M d w nc ns pc ls (.int x :: st) g Q :=
  fun p e s m args below meth c H locs cells slots lsr R X Y hl hr => lv_if_ne X.1 X.2.1 hdg ht (fun h => kt h p e s m args below meth c H locs cells slots lsr R X Y hl hr) (fun h => kf h p e s m args below meth c H locs cells slots lsr R X Y hl hr)
theorem mn_icmp_ne {x y : Int32} {off : Int} (tgt : Nat) (hdg : decode M.2.1 pc = .ok (.if_icmp .ne off, 3)) (ht : (pc : Int) + off = (tgt : Int)) (kt : ¬ x = y → mn_R E M d w nc ns tgt ls st g Q) (kf : x = y → mn_R E M d w nc ns (pc + 3) ls st g Q) : mn_R E M d w nc ns pc ls (.int y :: .int x :: st) g Q :=
  fun p e s m args below meth c H locs cells slots lsr R X Y hl hr => lv_icmp_ne X.1 X.2.1 hdg ht (fun h => kt h p e s m args below meth c H locs cells slots lsr R X Y hl hr) (fun h => kf h p e s m args below meth c H locs cells slots lsr R X Y hl hr)
theorem mn_if_lt {x : Int32} {off : Int} (tgt : Nat) (hdg : decode M.2.1 pc = .ok (.ifCond .lt off, 3)) (ht : (pc : Int) + off = (tgt : Int)) (kt : x < 0 → mn_R E M d w nc ns tgt ls st g Q) (kf : ¬ x < 0 → mn_R E M d w nc ns (pc + 3) ls st g Q) : mn_R E M d w nc ns pc ls (.int x :: st) g Q :=
  fun p e s m args below meth c H locs cells slots lsr R X Y hl hr => lv_if_lt X.1 X.2.1 hdg ht (fun h => kt h p e s m args below meth c H locs cells slots lsr R X Y hl hr) (fun h => kf h p e s m args below meth c H locs cells slots lsr R X Y hl hr)
theorem mn_icmp_lt {x y : Int32} {off : Int} (tgt : Nat) (hdg : decode M.2.1 pc = .ok (.if_icmp .lt off, 3)) (ht : (pc : Int) + off = (tgt : Int)) (kt : x < y → mn_R E M d w nc ns tgt ls st g Q) (kf : ¬ x < y → mn_R E M d w nc ns (pc + 3) ls st g Q) : mn_R E M d w nc ns pc ls (.int y :: .int x :: st) g Q :=
  fun p e s m args below meth c H locs cells slots lsr R X Y hl hr => lv_icmp_lt X.1 X.2.1 hdg ht (fun h => kt h p e s m args below meth c H locs cells slots lsr R X Y hl hr) (fun h => kf h p e s m args below meth c H locs cells slots lsr R X Y hl hr)
theorem mn_if_ge {x : Int32} {off : Int} (tgt : Nat) (hdg : decode M.2.1 pc = .ok (.ifCond .ge off, 3)) (ht : (pc : Int) + off = (tgt : Int)) (kt : 0 ≤ x → mn_R E M d w nc ns tgt ls st g Q) (kf : ¬ 0 ≤ x → mn_R E M d w nc ns (pc + 3) ls st g Q) : mn_R E M d w nc ns pc ls (.int x :: st) g Q :=
  fun p e s m args below meth c H locs cells slots lsr R X Y hl hr => lv_if_ge X.1 X.2.1 hdg ht (fun h => kt h p e s m args below meth c H locs cells slots lsr R X Y hl hr) (fun h => kf h p e s m args below meth c H locs cells slots lsr R X Y hl hr)
theorem mn_icmp_ge {x y : Int32} {off : Int} (tgt : Nat) (hdg : decode M.2.1 pc = .ok (.if_icmp .ge off, 3)) (ht : (pc : Int) + off = (tgt : Int)) (kt : y ≤ x → mn_R E M d w nc ns tgt ls st g Q) (kf : ¬ y ≤ x → mn_R E M d w nc ns (pc + 3) ls st g Q) : mn_R E M d w nc ns pc ls (.int y :: .int x :: st) g Q :=
  fun p e s m args below meth c H locs cells slots lsr R X Y hl hr => lv_icmp_ge X.1 X.2.1 hdg ht (fun h => kt h p e s m args below meth c H locs cells slots lsr R X Y hl hr) (fun h => kf h p e s m args below meth c H locs cells slots lsr R X Y hl hr)
theorem mn_if_gt {x : Int32} {off : Int} (tgt : Nat) (hdg : decode M.2.1 pc = .ok (.ifCond .gt off, 3)) (ht : (pc : Int) + off = (tgt : Int)) (kt : 0 < x → mn_R E M d w nc ns tgt ls st g Q) (kf : ¬ 0 < x → mn_R E M d w nc ns (pc + 3) ls st g Q) : mn_R E M d w nc ns pc ls (.int x :: st) g Q :=
  fun p e s m args below meth c H locs cells slots lsr R X Y hl hr => lv_if_gt X.1 X.2.1 hdg ht (fun h => kt h p e s m args below meth c H locs cells slots lsr R X Y hl hr) (fun h => kf h p e s m args below meth c H locs cells slots lsr R X Y hl hr)
theorem mn_icmp_gt {x y : Int32} {off : Int} (tgt : Nat) (hdg : decode M.2.1 pc = .ok (.if_icmp .gt off, 3)) (ht : (pc : Int) + off = (tgt : Int)) (kt : y < x → mn_R E M d w nc ns tgt ls st g Q) (kf : ¬ y < x → mn_R E M d w nc ns (pc + 3) ls st g Q) : mn_R E M d w nc ns pc ls (.int y :: .int x :: st) g Q :=
  fun p e s m args below meth c H locs cells slots lsr R X Y hl hr => lv_icmp_gt X.1 X.2.1 hdg ht (fun h => kt h p e s m args below meth c H locs cells slots lsr R X Y hl hr) (fun h => kf h p e s m args below meth c H locs cells slots lsr R X Y hl hr)
theorem mn_if_le {x : Int32} {off : Int} (tgt : Nat) (hdg : decode M.2.1 pc = .ok (.ifCond .le off, 3)) (ht : (pc : Int) + off = (tgt : Int)) (kt : x ≤ 0 → mn_R E M d w nc ns tgt ls st g Q) (kf : ¬ x ≤ 0 → mn_R E M d w nc ns (pc + 3) ls st g Q) : mn_R E M d w nc ns pc ls (.int x :: st) g Q :=
  fun p e s m args below meth c H locs cells slots lsr R X Y hl hr => lv_if_le X.1 X.2.1 hdg ht (fun h => kt h p e s m args below meth c H locs cells slots lsr R X Y hl hr) (fun h => kf h p e s m args below meth c H locs cells slots lsr R X Y hl hr)
theorem mn_icmp_le {x y : Int32} {off : Int} (tgt : Nat) (hdg : decode M.2.1 pc = .ok (.if_icmp .le off, 3)) (ht : (pc : Int) + off = (tgt : Int)) (kt : x ≤ y → mn_R E M d w nc ns tgt ls st g Q) (kf : ¬ x ≤ y → mn_R E M d w nc ns (pc + 3) ls st g Q) : mn_R E M d w nc ns pc ls (.int y :: .int x :: st) g Q :=
  fun p e s m args below meth c H locs cells slots lsr R X Y hl hr => lv_icmp_le X.1 X.2.1 hdg ht (fun h => kt h p e s m args below meth c H locs cells slots lsr R X Y hl hr) (fun h => kf h p e s m args below meth c H locs cells slots lsr R X Y hl hr)
theorem mn_goto {off : Int} (tgt : Nat) (hdg : decode M.2.1 pc = .ok (.goto off, 3)) (ht : (pc : Int) + off = (tgt : Int)) (k : mn_R E M d w nc ns tgt ls st g Q) : mn_R E M d w nc ns pc ls st g Q :=
  fun p e s m args below meth c H locs cells slots lsr R X Y hl hr => lv_goto X.1 X.2.1 hdg ht (k p e s m args below meth c H locs cells slots lsr R X Y hl hr)
theorem mn_ifnonnull {a : Nat} {off : Int} (tgt : Nat) (hdg : decode M.2.1 pc = .ok (.ifnonnull off, 3)) (ht : (pc : Int) + off = (tgt : Int)) (k : mn_R E M d w nc ns tgt ls st g Q) : mn_R E M d w nc ns pc ls (.ref a :: st) g Q :=
  fun p e s m args below meth c H locs cells slots lsr R X Y hl hr => lv_ifnonnull X.1 X.2.1 hdg ht (k p e s m args below meth c H locs cells slots lsr R X Y hl hr)
theorem mn_ifnull {a : Nat} {off : Int} (hdg : decode M.2.1 pc = .ok (.ifnull off, 3)) (k : mn_R E M d w nc ns (pc + 3) ls st g Q) : mn_R E M d w nc ns pc ls (.ref a :: st) g Q :=
  fun p e s m args below meth c H locs cells slots lsr R X Y hl hr => lv_ifnull X.1 X.2.1 hdg (k p e s m args below meth c H locs cells slots lsr R X Y hl hr)
theorem mn_ifnullN {off : Int} (tgt : Nat) (hdg : decode M.2.1 pc = .ok (.ifnull off, 3)) (ht : (pc : Int) + off = (tgt : Int)) (k : mn_R E M d w nc ns tgt ls st g Q) : mn_R E M d w nc ns pc ls (.null :: st) g Q :=
  fun p e s m args below meth c H locs cells slots lsr R X Y hl hr => lv_ifnullN X.1 X.2.1 hdg ht (k p e s m args below meth c H locs cells slots lsr R X Y hl hr)
theorem mn_ifnonnullN {off : Int} (hdg : decode M.2.1 pc = .ok (.ifnonnull off, 3)) (k : mn_R E M d w nc ns (pc + 3) ls st g Q) : mn_R E M d w nc ns pc ls (.null :: st) g Q :=
  fun p e s m args below meth c H locs cells slots lsr R X Y hl hr => lv_ifnonnullN X.1 X.2.1 hdg (k p e s m args below meth c H locs cells slots lsr R X Y hl hr)
theorem mn_tableOut {dflt lo hi : Int} {offs : Array Int} {len : Nat} {x : Int32} (tgt : Nat) (hdg : decode M.2.1 pc = .ok (.tableswitch dflt lo hi offs, len)) (h : x.toInt < lo ∨ hi < x.toInt) (ht : (pc : Int) + dflt = (tgt : Int)) (k : mn_R E M d w nc ns tgt ls st g Q) : mn_R E M d w nc ns pc ls (.int x :: st) g Q :=
  fun p e s m args below meth c H locs cells slots lsr R X Y hl hr => lv_tableOut X.1 X.2.1 hdg h ht (k p e s m args below meth c H locs cells slots lsr R X Y hl hr)
theorem mn_tableIn {dflt lo hi : Int} {offs : Array Int} {len : Nat} {x : Int32} {off : Int} (tgt : Nat) (hdg : decode M.2.1 pc = .ok (.tableswitch dflt lo hi offs, len)) (h1 : ¬ x.toInt < lo) (h2 : ¬ hi < x.toInt) (ho : offs[(x.toInt - lo).toNat]? = some off) (ht : (pc : Int) + off = (tgt : Int)) (k : mn_R E M d w nc ns tgt ls st g Q) : mn_R E M d w nc ns pc ls (.int x :: st) g Q :=
  fun p e s m args below meth c H locs cells slots lsr R X Y hl hr => lv_tableIn X.1 X.2.1 hdg h1 h2 ho ht (k p e s m args below meth c H locs cells slots lsr R X Y hl hr)
theorem mn_dup_x1 {v u : Value} (hdg : decode M.2.1 pc = .ok (.dup_x1, 1)) (hc : v.category = 1) (hc2 : u.category = 1) (k : mn_R E M d w nc ns (pc + 1) ls (v :: u :: v :: st) g Q) : mn_R E M d w nc ns pc ls (v :: u :: st) g Q :=
  fun p e s m args below meth c H locs cells slots lsr R X Y hl hr => lv_dup_x1 X.1 X.2.1 hdg ((mn_cat E v).trans hc) ((mn_cat E u).trans hc2) (k p e s m args below meth c H locs cells slots lsr R X Y hl hr)
theorem mn_dup2 {v u : Value} (hdg : decode M.2.1 pc = .ok (.dup2, 1)) (hc : v.category = 1) (hc2 : u.category = 1) (k : mn_R E M d w nc ns (pc + 1) ls (v :: u :: v :: u :: st) g Q) : mn_R E M d w nc ns pc ls (v :: u :: st) g Q :=
  fun p e s m args below meth c H locs cells slots lsr R X Y hl hr => lv_dup2_11 X.1 X.2.1 hdg ((mn_cat E v).trans hc) ((mn_cat E u).trans hc2) (k p e s m args below meth c H locs cells slots lsr R X Y hl hr)
theorem mn_aload_nN {k0 : Fin 4} {i : Nat} (j : Nat) (hdg : decode M.2.1 pc = .ok (.aload_n k0, 1)) (hi : (k0 : Nat) = i) (hj : ls[j]? = some (i, .null)) (k : mn_R E M d w nc ns (pc + 1) ls (.null :: st) g Q) : mn_R E M d w nc ns pc ls (st) g Q :=
  fun p e s m args below meth c H locs cells slots lsr R X Y hl hr => lv_aload_nN X.1 X.2.1 hdg hi (mn_lv hl hj) (k p e s m args below meth c H locs cells slots lsr R X Y hl hr)
theorem mn_aloadN {i : Nat} (j : Nat) (hdg : decode M.2.1 pc = .ok (.aload i, 2)) (hj : ls[j]? = some (i, .null)) (k : mn_R E M d w nc ns (pc + 2) ls (.null :: st) g Q) : mn_R E M d w nc ns pc ls (st) g Q :=
  fun p e s m args below meth c H locs cells slots lsr R X Y hl hr => lv_aloadN X.1 X.2.1 hdg (mn_lv hl hj) (k p e s m args below meth c H locs cells slots lsr R X Y hl hr)
theorem mn_astore_nN {k0 : Fin 4} {i : Nat} (hdg : decode M.2.1 pc = .ok (.astore_n k0, 1)) (hi : (k0 : Nat) = i) (hn : i < M.2.2.1) (hl' : mn_put ls i .null = ls') (k : mn_R E M d w nc ns (pc + 1) ls' st g Q) : mn_R E M d w nc ns pc ls (.null :: st) g Q :=
  fun p e s m args below meth c H locs cells slots lsr R X Y hl hr => lv_astore_nN X.1 X.2.1 hdg hi hl hn rfl (fun lsr2 hl2 => k p e s m args below meth c H locs cells slots lsr2 R X Y (hl' ▸ mn_put_has (v := .null) hl2) hr)
theorem mn_astoreN {i : Nat} (hdg : decode M.2.1 pc = .ok (.astore i, 2)) (hn : i < M.2.2.1) (hl' : mn_put ls i .null = ls') (k : mn_R E M d w nc ns (pc + 2) ls' st g Q) : mn_R E M d w nc ns pc ls (.null :: st) g Q :=
  fun p e s m args below meth c H locs cells slots lsr R X Y hl hr => lv_astoreN X.1 X.2.1 hdg hl hn rfl (fun lsr2 hl2 => k p e s m args below meth c H locs cells slots lsr2 R X Y (hl' ▸ mn_put_has (v := .null) hl2) hr)
theorem mn_ldc {i : Nat} {v : Int32} (hdg : decode M.2.1 pc = .ok (.ldc i, 2)) (hw : Cond.constant M.1.cls i v ∈ mn_W) (k : mn_R E M d w nc ns (pc + 2) ls (.int v :: st) g Q) : mn_R E M d w nc ns pc ls st g Q :=
  fun p e s m args below meth c H locs cells slots lsr R X Y hl hr => lv_ldc X.1 X.2.1 X.own (X.hts _ hw) hdg (k p e s m args below meth c H locs cells slots lsr R X Y hl hr)
theorem mn_iret {x : Int32} (hr0 : M.2.2.2 = some .int) (hdg : decode M.2.1 pc = .ok (.ireturn, 1)) (hQ : Q (some (.int x)) g) : mn_R E M d w nc ns pc ls [.int x] g Q := by
  intro p e s m args below meth c H locs cells slots lsr R X Y hl hr
  refine W.widen (k := R.cells) (n := R.slots) (Nat.le_trans (Nat.le_add_right _ _) hr.2.2.1) (Nat.le_trans (Nat.le_add_right _ _) hr.2.2.2) ?_
  exact W.iret X.1 X.2.1 (X.2.2.2.1.trans hr0) (fun t ht hW => ⟨_, g, hQ, rfl, by rw [ht]; exact Y.1, by rw [ht]; exact Y.2.1, Y.2.2.1, Y.2.2.2.F ht⟩) Y.2.2.2.2.2 hdg X.2.2.2.2.1
theorem mn_zret {x : Int32} {ty : FieldType} (hr0 : M.2.2.2 = some ty) (hn0 : narrow ty (.int x) = .int x) (hdg : decode M.2.1 pc = .ok (.ireturn, 1)) (hQ : Q (some (.int x)) g) : mn_R E M d w nc ns pc ls [.int x] g Q := by
  intro p e s m args below meth c H locs cells slots lsr R X Y hl hr
  refine W.widen (k := R.cells) (n := R.slots) (Nat.le_trans (Nat.le_add_right _ _) hr.2.2.1) (Nat.le_trans (Nat.le_add_right _ _) hr.2.2.2) ?_
  exact W.zret X.1 X.2.1 (X.2.2.2.1.trans hr0) hn0 (fun t ht hW => ⟨_, g, hQ, rfl, by rw [ht]; exact Y.1, by rw [ht]; exact Y.2.1, Y.2.2.1, Y.2.2.2.F ht⟩) Y.2.2.2.2.2 hdg X.2.2.2.2.1
theorem mn_vret (hr0 : M.2.2.2 = none) (hdg : decode M.2.1 pc = .ok (.return_, 1)) (hQ : Q (none) g) : mn_R E M d w nc ns pc ls [] g Q := by
  intro p e s m args below meth c H locs cells slots lsr R X Y hl hr
  refine W.widen (k := R.cells) (n := R.slots) (Nat.le_trans (Nat.le_add_right _ _) hr.2.2.1) (Nat.le_trans (Nat.le_add_right _ _) hr.2.2.2) ?_
  exact W.vret X.1 X.2.1 (X.2.2.2.1.trans hr0) (fun t ht hW => ⟨_, g, hQ, rfl, by rw [ht]; exact Y.1, by rw [ht]; exact Y.2.1, Y.2.2.1, Y.2.2.2.F ht⟩) Y.2.2.2.2.2 hdg X.2.2.2.2.1
theorem mn_aret {x : Nat} {rt : FieldType} (hr0 : M.2.2.2 = some rt) (hrt : (∃ n, rt = .object n) ∨ ∃ t, rt = .array t) (hdg : decode M.2.1 pc = .ok (.areturn, 1)) (hQ : Q (some (.ref x)) g) : mn_R E M d w nc ns pc ls [.ref x] g Q := by
  intro p e s m args below meth c H locs cells slots lsr R X Y hl hr
  refine W.widen (k := R.cells) (n := R.slots) (Nat.le_trans (Nat.le_add_right _ _) hr.2.2.1) (Nat.le_trans (Nat.le_add_right _ _) hr.2.2.2) ?_
  exact W.aret (v := .ref (mn_ad E x)) X.1 X.2.1 (X.2.2.2.1.trans hr0) hrt (Or.inr ⟨_, rfl⟩) (fun t ht hW => ⟨_, g, hQ, rfl, by rw [ht]; exact Y.1, by rw [ht]; exact Y.2.1, Y.2.2.1, Y.2.2.2.F ht⟩) Y.2.2.2.2.2 hdg X.2.2.2.2.1
theorem mn_nret {rt : FieldType} (hr0 : M.2.2.2 = some rt) (hrt : (∃ n, rt = .object n) ∨ ∃ t, rt = .array t) (hdg : decode M.2.1 pc = .ok (.areturn, 1)) (hQ : Q (some .null) g) : mn_R E M d w nc ns pc ls [.null] g Q := by
  intro p e s m args below meth c H locs cells slots lsr R X Y hl hr
  refine W.widen (k := R.cells) (n := R.slots) (Nat.le_trans (Nat.le_add_right _ _) hr.2.2.1) (Nat.le_trans (Nat.le_add_right _ _) hr.2.2.2) ?_
  exact W.aret (v := .null) X.1 X.2.1 (X.2.2.2.1.trans hr0) hrt (Or.inl rfl) (fun t ht hW => ⟨_, g, hQ, rfl, by rw [ht]; exact Y.1, by rw [ht]; exact Y.2.1, Y.2.2.1, Y.2.2.2.F ht⟩) Y.2.2.2.2.2 hdg X.2.2.2.2.1
end MNROWS
