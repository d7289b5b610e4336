/-! the words that a call keeps; those of the nest and of arrays beside -/
def mn_keep (w : Cond) : Bool := (w.onTables && w.keeps) || (match w with | .arrayClass _ => true | _ => false)
def mn_W : List Cond := lw_tbl.filter mn_keep
theorem mn_good : ∀ w ∈ mn_W, (w.onTables && w.keeps) = true ∨ ∃ ty, w = .arrayClass ty := by
  intro w hw
  have h := (List.mem_filter.mp hw).2
  unfold mn_keep at h
  rw [Bool.or_eq_true] at h
  rcases h with h | h
  · exact Or.inl h
  · right
    cases w <;> first | exact ⟨_, rfl⟩ | cases h
def mn_kn (w : Cond) : Bool := match w with
  | .methodLinkNest .. => true
  | .arrayOver _ => true
  | _ => false
def mn_NW : List Cond := lw_tbl.filter mn_kn
theorem mn_over_moved {t : FieldType} {u U : State} (hvm : u.vm.Alike U.vm) (h : va_Nw (.arrayOver t) u) : va_Nw (.arrayOver t) U := by
  cases t with
  | object C => exact va_AO.moved hvm h
  | array ty =>
    unfold va_Nw Cond.before Cond.holds at h ⊢
    simp only [Cond.value] at h ⊢
    cases hc : u.vm.findClass (FieldType.array ty).toString with
    | none => rw [hc] at h; simp at h
    | some comp =>
      have hc' : U.vm.findClass (FieldType.array ty).toString = some comp := by rw [hvm.findClass]; exact hc
      rw [hc, Option.bind_some] at h
      rw [hc', Option.bind_some]
      have hi : (U.vm.classes.findIdx? fun (x : Class) => match x.kind with | .array component _ => component == comp | _ => false) = (u.vm.classes.findIdx? fun (x : Class) => match x.kind with | .array component _ => component == comp | _ => false) := by
        have h1 := va_idx_bare U.vm comp
        have h2 := va_idx_bare u.vm comp
        rw [hvm.bare_eq] at h1
        exact h1.symm.trans h2
      cases hx : (u.vm.classes.findIdx? fun (x : Class) => match x.kind with | .array component _ => component == comp | _ => false) with
      | none =>
        exfalso
        have h' := (congrArg (fun o : Option Nat => (o.bind (fun c => (u.vm.classes[c]?).map fun (k : Class) => match k.kind with | .array _ ty' => decide (ty' = FieldType.array ty) && decide (u.vm.findClass ("[" ++ (FieldType.array ty).toString) = some c) | _ => false) == some true)) hx).symm.trans h
        simp at h'
      | some c =>
        have h' := (congrArg (fun o : Option Nat => (o.bind (fun c => (u.vm.classes[c]?).map fun (k : Class) => match k.kind with | .array _ ty' => decide (ty' = FieldType.array ty) && decide (u.vm.findClass ("[" ++ (FieldType.array ty).toString) = some c) | _ => false) == some true)) hx).symm.trans h
        refine (congrArg (fun o : Option Nat => (o.bind (fun c => (U.vm.classes[c]?).map fun (k : Class) => match k.kind with | .array _ ty' => decide (ty' = FieldType.array ty) && decide (U.vm.findClass ("[" ++ (FieldType.array ty).toString) = some c) | _ => false) == some true)) (hi.trans hx)).trans ?_
        simp only [Option.bind_some] at h' ⊢
        cases hk : u.vm.classes[c]? with
        | none => rw [hk] at h'; simp at h'
        | some k =>
          obtain ⟨k', hk', he⟩ := hvm.2.2 _ _ hk
          have hkind : k'.kind = k.kind := by rw [he]
          rw [hk] at h'
          rw [hk']
          simp only [Option.map_some, hkind, hvm.findClass] at h' ⊢
          exact h'
  | _ =>
    unfold va_Nw Cond.before Cond.holds at h
    simp [Cond.value] at h
theorem mn_nw_warm (w : Cond) (hw : w ∈ mn_NW) {s U : State} (hW : s.WarmedH U.vm) (h : va_Nw w s) : va_Nw w U := by
  have h2 := (List.mem_filter.mp hw).2
  cases w <;> first | exact va_Nw.warmM hW h | exact mn_over_moved hW.alike h | cases h2
theorem mn_inW {w : Cond} (i : Nat) (h : lw_tbl[i]? = some w) (hk : mn_keep w = true) : w ∈ mn_W := List.mem_filter.mpr ⟨List.mem_of_getElem? h, hk⟩
theorem mn_inN {w : Cond} (i : Nat) (h : lw_tbl[i]? = some w) (hk : mn_kn w = true) : w ∈ mn_NW := List.mem_filter.mpr ⟨List.mem_of_getElem? h, hk⟩
theorem mn_uws (l : List Cond) (h : ∀ w ∈ l, w ∈ lw_tbl ∧ mn_keep w = true) : ∀ w ∈ l, w ∈ mn_W := fun w hw => List.mem_filter.mpr (h w hw)
/-- a class of ours: its number, name, fields, how many, their types -/
def mn_okC (ci : Nat) (C : String) (T : u_T) (N : Nat) (ty : Nat → FieldType) : Prop := vwCl[ci]? = some (C, T, N) ∧ (∀ w ∈ u_ws C T N, w ∈ mn_W) ∧ (∀ k, k < N → parseFieldDescriptor (T k).2.2.1 = some (ty k)) ∧ (∀ a, a < N → ∀ b, b < N → a ≠ b → (T a).2.1 ≠ (T b).2.1)
/-- a method of ours with n parameters -/
def mn_okM (M : mn_M) (n : Nat) : Prop := plainName M.1.cls = true ∧ Cond.code M.1 M.2.1 M.2.2.1 M.2.2.2 ∈ mn_W ∧ Cond.initialized M.1.cls ∈ mn_W ∧ (M.1.cls ≠ "java/lang/invoke/MethodHandle" ∧ M.1.cls ≠ "java/lang/invoke/VarHandle") ∧ (parseMethodDescriptor M.1.desc).map (fun d => d.parameters.length) = some n
def mn_okV (M : mn_M) (n : Nat) : Prop := mn_okM M n ∧ Cond.instanceMethod M.1 ∈ mn_W ∧ Cond.selects M.1.cls M.1 M.1 ∈ mn_W
def mn_okS (M : mn_M) (n : Nat) : Prop := mn_okM M n ∧ Cond.static M.1 ∈ mn_W
def mn_okI (M : mn_M) (n : Nat) : Prop := mn_okM M n ∧ M.1.name = "<init>" ∧ Cond.instanceMethod M.1 ∈ mn_W ∧ M.2.2.2 = none
