/-! the reference's grid -/
theorem smW_up (W : Nat → Nat) (k x : Nat) : smW (va_up W k x) (k + 1) = smW W k + x := by
  rw [smW, va_up_s, smW_ext k (fun j hj => va_up_n W x (show j ≠ k by omega))]
def GrQ (gr : Nat → Nat) (R : Nat → Nat → Nat) : Prop := ∀ i c, i < 3 → c < 4 → gr (4 * i + c) = R i c
theorem GrQ_up {gr : Nat → Nat} {R R' : Nat → Nat → Nat} {a b v : Nat} (h : GrQ gr R) (hb : b < 4) (h1 : R' a b = v) (h2 : ∀ i c, i < 3 → c < 4 → ¬ (i = a ∧ c = b) → R' i c = R i c) : GrQ (va_up gr (4 * a + b) v) R' := by
  intro i c hi hc
  by_cases e : i = a ∧ c = b
  · obtain ⟨rfl, rfl⟩ := e
    rw [va_up_s, h1]
  · rw [va_up_n _ _ (by omega), h2 i c hi hc e]
    exact h i c hi hc
/-- b columns of row a are scaled -/
def scB (R : Nat → Nat → Nat) (a f b : Nat) : Nat → Nat → Nat := fun i c => if i = a ∧ c < b then pdN (R i c) f else R i c
theorem scB_0 (R : Nat → Nat → Nat) (a f : Nat) : scB R a f 0 = R := by
  funext i c
  unfold scB
  rw [if_neg (by omega)]
theorem scB_4 {gr : Nat → Nat} {R : Nat → Nat → Nat} {a f : Nat} (h : GrQ gr (scB R a f 4)) : GrQ gr (scA R a f) := by
  intro i c hi hc
  rw [h i c hi hc]
  unfold scB scA
  by_cases e : i = a
  · subst e
    rw [va_up_s, if_pos ⟨rfl, hc⟩]
    unfold scL
    rw [if_pos (by omega)]
  · rw [va_up_n _ _ e, if_neg (fun q => e q.1)]
theorem scB_s {gr : Nat → Nat} {R : Nat → Nat → Nat} {a f b v : Nat} (h : GrQ gr (scB R a f b)) (hb : b < 4) (hv : v = pdN (R a b) f) : GrQ (va_up gr (4 * a + b) v) (scB R a f (b + 1)) := by
  refine GrQ_up h hb ?_ (fun i c hi hc e => ?_)
  · unfold scB; rw [if_pos ⟨rfl, by omega⟩, hv]
  · unfold scB
    by_cases q : i = a ∧ c < b
    · rw [if_pos q, if_pos ⟨q.1, by omega⟩]
    · rw [if_neg q, if_neg (by omega)]
theorem scB_at {gr : Nat → Nat} {R : Nat → Nat → Nat} {a f b : Nat} (h : GrQ gr (scB R a f b)) (ha : a < 3) (hb : b < 4) : gr (4 * a + b) = R a b := by
  rw [h a b ha hb]
  unfold scB
  rw [if_neg (by omega)]
def adB (R : Nat → Nat → Nat) (o q f b : Nat) : Nat → Nat → Nat := fun i c => if i = o ∧ c < b then R i c ^^^ pdN (R q c) f else R i c
theorem adB_0 (R : Nat → Nat → Nat) (o q f : Nat) : adB R o q f 0 = R := by
  funext i c
  unfold adB
  rw [if_neg (by omega)]
theorem adB_4 {gr : Nat → Nat} {R : Nat → Nat → Nat} {o q f : Nat} (h : GrQ gr (adB R o q f 4)) : GrQ gr (adA R o q f) := by
  intro i c hi hc
  rw [h i c hi hc]
  unfold adB adA
  by_cases e : i = o
  · subst e
    rw [va_up_s, if_pos ⟨rfl, hc⟩]
    unfold adL
    rw [if_pos (by omega)]
  · rw [va_up_n _ _ e, if_neg (fun q => e q.1)]
theorem adB_s {gr : Nat → Nat} {R : Nat → Nat → Nat} {o q f b v : Nat} (h : GrQ gr (adB R o q f b)) (hb : b < 4) (hv : v = R o b ^^^ pdN (R q b) f) : GrQ (va_up gr (4 * o + b) v) (adB R o q f (b + 1)) := by
  refine GrQ_up h hb ?_ (fun i c hi hc e => ?_)
  · unfold adB; rw [if_pos ⟨rfl, by omega⟩, hv]
  · unfold adB
    by_cases q : i = o ∧ c < b
    · rw [if_pos q, if_pos ⟨q.1, by omega⟩]
    · rw [if_neg q, if_neg (by omega)]
theorem adB_o {gr : Nat → Nat} {R : Nat → Nat → Nat} {o q f b : Nat} (h : GrQ gr (adB R o q f b)) (ho : o < 3) (hb : b < 4) : gr (4 * o + b) = R o b := by
  rw [h o b ho hb]
  unfold adB
  rw [if_neg (by omega)]
theorem adB_q {gr : Nat → Nat} {R : Nat → Nat → Nat} {o q f b : Nat} (h : GrQ gr (adB R o q f b)) (hq : q < 3) (hb : b < 4) : gr (4 * q + b) = R q b := by
  rw [h q b hq hb]
  unfold adB
  rw [if_neg (by omega)]
/-- a rows of the grid are filled -/
def GrF (gr : Nat → Nat) (R : Nat → Nat → Nat) (k a : Nat) : Prop := ∀ i c, i < a → c < k ∨ c = 3 → gr (4 * i + c) = R i c
theorem GrF_up {gr : Nat → Nat} {R : Nat → Nat → Nat} {k a b v : Nat} (h : GrF gr R k a) (hk : k ≤ 3) : GrF (va_up gr (4 * a + b) v) R k a := by
  intro i c hi hc
  rw [va_up_n _ _ (by omega)]
  exact h i c hi hc
theorem GrF_in {gr : Nat → Nat} {R : Nat → Nat → Nat} {k a : Nat} (h : GrF gr R k a) (hk : k ≤ 3) (h2 : ∀ c, c < k → gr (4 * a + c) = R a c) (v : Nat) (h3 : R a 3 = v) : GrF (va_up gr (4 * a + 3) v) R k (a + 1) := by
  intro i c hi hc
  by_cases e : i = a
  · subst e
    rcases hc with q | q
    · rw [va_up_n _ _ (by omega)]; exact h2 c q
    · subst q; rw [va_up_s, h3]
  · rw [va_up_n _ _ (by omega)]
    exact h i c (by omega) hc
theorem GrF_R {gr : Nat → Nat} {R : Nat → Nat → Nat} {k : Nat} (h : GrF gr R k k) : elR k 3 3 (fun i c => gr (4 * i + c)) R := fun i hi => ⟨fun b hb => h i b hi (Or.inl hb), h i 3 hi (Or.inr rfl)⟩
