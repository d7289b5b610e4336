/-! MINE: a small world. Cells at small numbers (0: the script; 1 and on: those that are made, in the order of their making), read and written by plain functions; the machine's own world is its picture. -/
abbrev mn_C : Type := (Nat × vp_A) ⊕ (Nat × List Value)
abbrev mn_H : Type := Nat × (Nat → mn_C)
/-- launch; numbers and slots of the classes; classes of the arrays; the script's cell; the last cell ahead of ours; the script's length; its ints -/
abbrev mn_En : Type := Launch × va_G × (Nat → ClassId) × Nat × Nat × Nat × (Nat → Int32)
/-- a method: its name, its bytes, its locals, its answer -/
abbrev mn_M : Type := MethodName × ByteArray × Nat × Option FieldType
abbrev mn_Z (E : mn_En) : Nat := E.2.2.2.2.1
abbrev mn_F (E : mn_En) : Nat → Prop := fun q => mn_Z E < q
def mn_ad (E : mn_En) (k : Nat) : Nat := if k = 0 then E.2.2.2.1 else mn_Z E + k
def mn_v (E : mn_En) (v : Value) : Value := match v with
  | .ref k => .ref (mn_ad E k)
  | w => w
def mn_A (E : mn_En) (x : vp_A) : vp_A := (x.1, match x.2 with
  | .inr (.inr (.inr (.inr f))) => .inr (.inr (.inr (.inr (fun i => (f i).map (mn_ad E)))))
  | y => y)
def mn_E (E : mn_En) (c : mn_C) : va_E := match c with
  | .inl q => .inl (E.2.2.1 q.1, mn_A E q.2)
  | .inr q => .inr (q.1, q.2.map (mn_v E))
def mn_ws (E : mn_En) (g : mn_H) : va_W := (List.range (g.1 - 1)).map (fun k => (mn_Z E + (k + 1), mn_E E (g.2 (k + 1))))
def mn_at (g : mn_H) (a : Nat) (c : mn_C) : Prop := 0 < a ∧ a < g.1 ∧ g.2 a = c
def mn_set (g : mn_H) (a : Nat) (c : mn_C) : mn_H := (g.1, fun q => if q = a then c else g.2 q)
def mn_push (g : mn_H) (c : mn_C) : mn_H := (g.1 + 1, fun q => if q = g.1 then c else g.2 q)
theorem mn_at.same {g : mn_H} {a : Nat} {c c' : mn_C} (h : mn_at g a c) : mn_at (mn_set g a c') a c' := ⟨h.1, h.2.1, if_pos rfl⟩
theorem mn_at.off {g : mn_H} {a b : Nat} {c c' : mn_C} (h : mn_at g b c) (hne : b ≠ a) : mn_at (mn_set g a c') b c := ⟨h.1, h.2.1, by show (if b = a then c' else g.2 b) = c; rw [if_neg hne]; exact h.2.2⟩
theorem mn_at.ne {g : mn_H} {a b : Nat} {c c' : mn_C} (h : mn_at g a c) (h' : mn_at g b c') (hc : c ≠ c') : a ≠ b := fun e => hc (by rw [← h.2.2, ← h'.2.2, e])
theorem mn_at.push {g : mn_H} {a : Nat} {c c' : mn_C} (h : mn_at g a c) : mn_at (mn_push g c') a c := ⟨h.1, Nat.lt_succ_of_lt h.2.1, by show (if a = g.1 then c' else g.2 a) = c; rw [if_neg (Nat.ne_of_lt h.2.1)]; exact h.2.2⟩
theorem mn_at_new {g : mn_H} {c : mn_C} (h : 0 < g.1) : mn_at (mn_push g c) g.1 c := ⟨h, Nat.lt_succ_self _, if_pos rfl⟩
theorem mn_at.inj {g : mn_H} {a : Nat} {c c' : mn_C} (h : mn_at g a c) (h' : mn_at g a c') : c = c' := h.2.2.symm.trans h'.2.2
theorem mn_set_set {g : mn_H} {a : Nat} {c c' : mn_C} : mn_set (mn_set g a c) a c' = mn_set g a c' := by
  unfold mn_set
  refine Prod.ext rfl ?_
  funext q
  by_cases h : q = a
  · simp [h]
  · simp [h]
theorem mn_set_id {g : mn_H} {a : Nat} {c : mn_C} (h : mn_at g a c) : mn_set g a c = g := by
  unfold mn_set
  refine Prod.ext rfl ?_
  funext q
  by_cases hq : q = a
  · subst hq; simp [h.2.2]
  · simp [hq]
theorem mn_set_comm {g : mn_H} {a b : Nat} {c c' : mn_C} (h : a ≠ b) : mn_set (mn_set g a c) b c' = mn_set (mn_set g b c') a c := by
  unfold mn_set
  refine Prod.ext rfl ?_
  funext q
  by_cases h1 : q = b
  · subst h1; simp [Ne.symm h]
  · by_cases h2 : q = a
    · subst h2; simp [h]
    · simp [h1, h2]
theorem mn_ad_pos {E : mn_En} {a : Nat} (h : 0 < a) : mn_ad E a = mn_Z E + a := by unfold mn_ad; rw [if_neg (by omega)]
theorem mn_ws_len {E : mn_En} {g : mn_H} : (mn_ws E g).length = g.1 - 1 := by simp [mn_ws]
theorem mn_ws_i {E : mn_En} {g : mn_H} {k : Nat} (h : k + 1 < g.1) : (mn_ws E g)[k]? = some (mn_Z E + (k + 1), mn_E E (g.2 (k + 1))) := by
  unfold mn_ws
  rw [List.getElem?_map, List.getElem?_range (by omega)]
  rfl
theorem mn_ws_n {E : mn_En} {g : mn_H} {k : Nat} (h : ¬ k + 1 < g.1) : (mn_ws E g)[k]? = none := by
  rw [List.getElem?_eq_none_iff, mn_ws_len]; omega
theorem mn_ws_get {E : mn_En} {g : mn_H} {a : Nat} {c : mn_C} (h : mn_at g a c) : (mn_ws E g)[a - 1]? = some (mn_ad E a, mn_E E c) := by
  obtain ⟨h0, h1, h2⟩ := h
  have e : a - 1 + 1 = a := by omega
  rw [mn_ws_i (by omega), e, h2, mn_ad_pos h0]
theorem mn_ws_inv {E : mn_En} {g : mn_H} {k : Nat} {q : Nat × va_E} (h : (mn_ws E g)[k]? = some q) : k + 1 < g.1 ∧ q = (mn_Z E + (k + 1), mn_E E (g.2 (k + 1))) := by
  by_cases hk : k + 1 < g.1
  · rw [mn_ws_i hk] at h
    exact ⟨hk, (Option.some.inj h).symm⟩
  · rw [mn_ws_n hk] at h
    cases h
theorem mn_ws_set {E : mn_En} {g : mn_H} {a : Nat} {c0 c : mn_C} (h : mn_at g a c0) : (mn_ws E g).set (a - 1) (mn_ad E a, mn_E E c) = mn_ws E (mn_set g a c) := by
  obtain ⟨h0, h1, -⟩ := h
  apply List.ext_getElem?
  intro i
  rw [List.getElem?_set]
  by_cases hi : i + 1 < g.1
  · by_cases ha : a - 1 = i
    · have e : i + 1 = a := by omega
      rw [if_pos ha, if_pos (by rw [mn_ws_len]; omega), mn_ws_i (g := mn_set g a c) hi, e, mn_ad_pos h0]
      show _ = some (mn_Z E + a, mn_E E (if a = a then c else g.2 a))
      rw [if_pos rfl]
    · rw [if_neg ha, mn_ws_i hi, mn_ws_i (g := mn_set g a c) hi]
      show _ = some (mn_Z E + (i + 1), mn_E E (if i + 1 = a then c else g.2 (i + 1)))
      rw [if_neg (by omega)]
  · rw [mn_ws_n (g := mn_set g a c) hi, if_neg (by omega), mn_ws_n hi]
theorem mn_ws_push {E : mn_En} {g : mn_H} {c : mn_C} (h : 0 < g.1) : mn_ws E (mn_push g c) = mn_ws E g ++ [(mn_Z E + g.1, mn_E E c)] := by
  apply List.ext_getElem?
  intro i
  by_cases hi : i + 1 < g.1
  · rw [List.getElem?_append_left (by rw [mn_ws_len]; omega), mn_ws_i hi, mn_ws_i (g := mn_push g c) (Nat.lt_succ_of_lt hi)]
    show some (_, mn_E E (if i + 1 = g.1 then c else g.2 (i + 1))) = _
    rw [if_neg (by omega)]
  · rw [List.getElem?_append_right (by rw [mn_ws_len]; omega), mn_ws_len]
    by_cases he : i + 1 = g.1
    · rw [mn_ws_i (g := mn_push g c) (by show i + 1 < g.1 + 1; omega), show i - (g.1 - 1) = 0 by omega]
      show some (mn_Z E + (i + 1), mn_E E (if i + 1 = g.1 then c else g.2 (i + 1))) = _
      rw [if_pos he, he]
      rfl
    · rw [mn_ws_n (g := mn_push g c) (by show ¬ i + 1 < g.1 + 1; omega), List.getElem?_eq_none (by simp; omega)]
theorem mn_ws_D {E : mn_En} {g : mn_H} : va_D (mn_F E) (mn_ws E g) := by
  refine ⟨fun i j p q hi hj hpq => ?_, fun k q hk => ?_⟩
  · have e1 := (mn_ws_inv hi).2
    have e2 := (mn_ws_inv hj).2
    rw [e1, e2] at hpq
    simp only at hpq
    omega
  · rw [(mn_ws_inv hk).2]
    show mn_Z E < mn_Z E + (k + 1)
    omega
