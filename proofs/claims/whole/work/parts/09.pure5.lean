abbrev sl_a (z : Nat) (pi : Nat → Nat) (k : Nat) : Nat := z + 2 + 2 * pi k
def sl_q (z : Nat) (pi : Nat → Nat) : Nat → Option Nat := fun k => if k < 60 then some (z + 2 + 2 * pi k) else none
/-- the slots: at z the object, at z + 1 the row; slot k is the volume pi k of those that lie behind -/
def SlP (g : mn_H) (z : Nat) (pi ss : Nat → Nat) (sb : Nat → Nat → Nat) : Prop :=
  mn_at g z (.inr (5, [.ref (z + 1)])) ∧ mn_at g (z + 1) (.inl (1, 60, .inr (.inr (.inr (.inr (sl_q z pi)))))) ∧
  (∀ k, k < 60 → mn_at g (z + 2 + 2 * pi k) (.inr (8, [.ref (z + 2 + 2 * pi k + 1), .int (nI (ss k))])) ∧ mn_at g (z + 2 + 2 * pi k + 1) (.inl (0, 80, .inl (fun j => nI (sb k j))))) ∧
  (∀ k, k < 60 → pi k < 60) ∧ (∀ a b, a < 60 → b < 60 → pi a = pi b → a = b) ∧ (∀ k, ss k ≤ 80) ∧ ∀ k j, sb k j < 256
noncomputable def cnt (P : Nat → Prop) : Nat → Nat
  | 0 => 0
  | k + 1 => cnt P k + @ite _ (P k) (Classical.propDecidable _) 1 0
theorem cnt_y {P : Nat → Prop} {k : Nat} (h : P k) : cnt P (k + 1) = cnt P k + 1 := by
  show cnt P k + @ite _ (P k) (Classical.propDecidable _) 1 0 = cnt P k + 1
  rw [if_pos h]
theorem cnt_n {P : Nat → Prop} {k : Nat} (h : ¬ P k) : cnt P (k + 1) = cnt P k := by
  show cnt P k + @ite _ (P k) (Classical.propDecidable _) 1 0 = cnt P k
  rw [if_neg h]
  rfl
theorem cnt_le (P : Nat → Prop) : ∀ k, cnt P k ≤ k
  | 0 => Nat.le_refl _
  | k + 1 => by
    have := cnt_le P k
    by_cases h : P k
    · rw [cnt_y h]; omega
    · rw [cnt_n h]; omega
/-- of the last k of n the first with P -/
noncomputable def fst' (P : Nat → Prop) (n : Nat) : Nat → Option Nat
  | 0 => none
  | k + 1 => @ite _ (P (n - (k + 1))) (Classical.propDecidable _) (some (n - (k + 1))) (fst' P n k)
theorem fst_y {P : Nat → Prop} {n i : Nat} (hi : i < n) (h : P i) : fst' P n (n - i) = some i := by
  rw [show n - i = (n - (i + 1)) + 1 by omega]
  unfold fst'
  rw [show n - (n - (i + 1) + 1) = i by omega, if_pos h]
theorem fst_n {P : Nat → Prop} {n i : Nat} (hi : i < n) (h : ¬ P i) : fst' P n (n - i) = fst' P n (n - (i + 1)) := by
  rw [show n - i = (n - (i + 1)) + 1 by omega]
  rw [fst', show n - (n - (i + 1) + 1) = i by omega, if_neg h]
theorem fst_some {P : Nat → Prop} {n : Nat} : ∀ {k i : Nat}, k ≤ n → fst' P n k = some i → n - k ≤ i ∧ i < n ∧ P i ∧ ∀ j, n - k ≤ j → j < i → ¬ P j
  | 0, i, _, h => by cases h
  | k + 1, i, hk, h => by
    unfold fst' at h
    by_cases c : P (n - (k + 1))
    · rw [if_pos c] at h
      cases h
      exact ⟨by omega, by omega, c, fun j h1 h2 => absurd h2 (by omega)⟩
    · rw [if_neg c] at h
      have := fst_some (by omega) h
      exact ⟨by omega, this.2.1, this.2.2.1, fun j h1 h2 => by
        by_cases hj : j = n - (k + 1)
        · rw [hj]; exact c
        · exact this.2.2.2 j (by omega) h2⟩
theorem fst_none {P : Nat → Prop} {n : Nat} : ∀ {k : Nat}, k ≤ n → fst' P n k = none → ∀ j, n - k ≤ j → j < n → ¬ P j
  | 0, _, _, j, h1, h2 => absurd h2 (by omega)
  | k + 1, hk, h, j, h1, h2 => by
    unfold fst' at h
    by_cases c : P (n - (k + 1))
    · rw [if_pos c] at h
      cases h
    · rw [if_neg c] at h
      by_cases hj : j = n - (k + 1)
      · rw [hj]; exact c
      · exact fst_none (by omega) h j (by omega) h2
/-- two rows of bytes are the same -/
abbrev smN (s t : Nat) (b c : Nat → Nat) : Prop := s = t ∧ ∀ i, i < s → b i = c i
theorem same_nI {s t : Nat} {b c : Nat → Nat} (hb : ∀ j, b j < 256) (hc : ∀ j, c j < 256) : (sameB s t (fun j => nI (b j)) (fun j => nI (c j)) = 0 ↔ ¬ smN s t b c) := by
  unfold sameB
  have key : (s = t ∧ ∀ i, i < s → nI (b i) = nI (c i)) ↔ smN s t b c := by
    constructor
    · rintro ⟨h1, h2⟩
      exact ⟨h1, fun i hi => (nI_eq (by have := hb i; omega) (by have := hc i; omega)).mp (h2 i hi)⟩
    · rintro ⟨h1, h2⟩
      exact ⟨h1, fun i hi => by rw [h2 i hi]⟩
  by_cases h : smN s t b c
  · rw [if_pos (key.mpr h)]
    exact ⟨fun q => absurd q (by decide), fun q => absurd h q⟩
  · rw [if_neg (fun q => h (key.mp q))]
    exact ⟨fun _ => h, fun _ => rfl⟩
def cpN (c b : Nat → Nat) : Nat → Nat := fun j => if j < 80 then c j else b j
theorem cpy_nI (c b : Nat → Nat) : va_cpy (fun j => nI (c j)) (fun j => nI (b j)) 0 0 80 = fun j => nI (cpN c b j) := by
  funext j
  by_cases h : j < 80
  · rw [pk_cpy_in (by omega) (by omega)]
    unfold cpN
    rw [if_pos h]
    simp
  · rw [pk_cpy_out (by omega)]
    unfold cpN
    rw [if_neg h]
theorem gd_nI {b : Nat → Nat} (hb : ∀ j, b j < 256) (s : Nat) {x : Nat} (hx : x < 256) : gdV (fun j => nI (b j)) s (nI x) = 0 ↔ ¬ (b 2 = x ∧ stN b s = 1) := by
  have h2 := hb 2
  have hst : stN b s < 4 := by unfold stN; split; decide; split; split; decide; decide; decide
  unfold gdV
  rw [stV_nI hb]
  have key : (nI (b 2) = nI x ∧ nI (stN b s) = 1) ↔ (b 2 = x ∧ stN b s = 1) := by
    constructor
    · rintro ⟨q1, q2⟩
      exact ⟨(nI_eq (by omega) (by omega)).mp q1, (nI_eq (b := 1) (by omega) (by omega)).mp q2⟩
    · rintro ⟨q1, q2⟩
      rw [q1, q2]; exact ⟨rfl, rfl⟩
  by_cases h : b 2 = x ∧ stN b s = 1
  · rw [if_pos (key.mpr h)]
    exact ⟨fun q => absurd q (by decide), fun q => absurd h q⟩
  · rw [if_neg (fun q => h (key.mp q))]
    exact ⟨fun _ => h, fun _ => rfl⟩
theorem stN_lt (b : Nat → Nat) (s : Nat) : stN b s < 4 := by unfold stN; split; decide; split; split; decide; decide; decide
