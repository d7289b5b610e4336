/-! writing: counts of what is missing and of what is empty -/
theorem vl_3 (c pb ln sn : Nat → Nat) (w m n st rp sz : Nat) : vlN c pb ln sn w m n st rp sz 3 = n := by
  unfold vlN sealN psN mkL hd6 va_up
  simp
theorem cnt_pos {P : Nat → Prop} : ∀ {n : Nat}, 0 < cnt P n → ∃ k, k < n ∧ P k
  | 0, h => absurd h (Nat.lt_irrefl _)
  | n + 1, h => by
    by_cases hp : P n
    · exact ⟨n, Nat.lt_succ_self _, hp⟩
    · rw [cnt_n hp] at h
      obtain ⟨k, h1, h2⟩ := cnt_pos h
      exact ⟨k, Nat.lt_succ_of_lt h1, h2⟩
theorem fst_ex {P : Nat → Prop} {n k : Nat} (hk : k < n) (h : P k) : ∃ i, fst' P n n = some i := by
  cases hf : fst' P n n with
  | none => exact absurd h (fst_none (Nat.le_refl _) hf k (by omega) hk)
  | some i => exact ⟨i, rfl⟩
theorem cnt_set {P Q : Nat → Prop} {k : Nat} (hk : P k) (hq : ¬ Q k) (ho : ∀ i, i ≠ k → (P i ↔ Q i)) : ∀ {n : Nat}, k < n → cnt P n = cnt Q n + 1
  | 0, h => absurd h (Nat.not_lt_zero _)
  | n + 1, h => by
    by_cases e : k = n
    · subst e
      rw [cnt_y hk, cnt_n hq, cnt_ext (fun i hi => ho i (by omega))]
    · have ih := cnt_set hk hq ho (n := n) (by omega)
      by_cases hp : P n
      · rw [cnt_y hp, cnt_y ((ho n (by omega)).mp hp), ih]
      · rw [cnt_n hp, cnt_n (fun q => hp ((ho n (by omega)).mpr q)), ih]
/-- a volume that is laid changes nothing of the others -/
theorem hld_put {ss : Nat → Nat} {sb : Nat → Nat → Nat} {sz k : Nat} {b c : Nat → Nat} (hk : ss k = 0) (hsz : 0 < sz) (hd : ∃ j, j < sz ∧ b j ≠ c j) : hld (va_up ss k sz) (va_up sb k (fun j => if j < sz then b j else 0)) sz c ↔ hld ss sb sz c := by
  constructor
  · rintro ⟨i, hi, h1, h2⟩
    by_cases e : i = k
    · subst e
      obtain ⟨j, hj, hne⟩ := hd
      have h3 := h2 j (by rw [va_up_s]; exact hj)
      rw [va_up_s, if_pos hj] at h3
      exact absurd h3 hne
    · rw [va_up_n _ _ e] at h1 h2
      rw [va_up_n _ _ e] at h2
      exact ⟨i, hi, h1, h2⟩
  · rintro ⟨i, hi, h1, h2⟩
    have e : i ≠ k := fun q => by subst q; omega
    exact ⟨i, hi, by rw [va_up_n _ _ e]; exact h1, fun j hj => by rw [va_up_n _ _ e] at hj ⊢; exact h2 j hj⟩
/-- how many of volumes n .. N - 1 are missing -/
noncomputable def rem (V : Nat → Nat → Nat) (sz N : Nat) (ss : Nat → Nat) (sb : Nat → Nat → Nat) (n : Nat) : Nat := cnt (fun v => n ≤ v ∧ ¬ hld ss sb sz (V v)) N
theorem rem_y {V : Nat → Nat → Nat} {sz N : Nat} {ss : Nat → Nat} {sb : Nat → Nat → Nat} {n : Nat} (hn : n < N) (h : ¬ hld ss sb sz (V n)) : rem V sz N ss sb n = rem V sz N ss sb (n + 1) + 1 :=
  cnt_set (k := n) ⟨Nat.le_refl _, h⟩ (fun q => absurd q.1 (by omega)) (fun i hi => ⟨fun q => ⟨by have := q.1; omega, q.2⟩, fun q => ⟨by have := q.1; omega, q.2⟩⟩) hn
theorem rem_n {V : Nat → Nat → Nat} {sz N : Nat} {ss : Nat → Nat} {sb : Nat → Nat → Nat} {n : Nat} (h : hld ss sb sz (V n)) : rem V sz N ss sb n = rem V sz N ss sb (n + 1) :=
  cnt_ext (fun i hi => ⟨fun q => ⟨by by_cases e : i = n; subst e; exact absurd h q.2; have := q.1; omega, q.2⟩, fun q => ⟨by have := q.1; omega, q.2⟩⟩)
theorem rem_put {V : Nat → Nat → Nat} {sz N : Nat} {ss : Nat → Nat} {sb : Nat → Nat → Nat} {n k : Nat} (hk : ss k = 0) (h4 : 3 < sz) (hV : ∀ v, V v 3 = v) : rem V sz N (va_up ss k sz) (va_up sb k (fun j => if j < sz then V n j else 0)) (n + 1) = rem V sz N ss sb (n + 1) :=
  cnt_ext (fun i hi => by
    constructor
    · rintro ⟨q1, q2⟩
      exact ⟨q1, fun q => q2 ((hld_put hk (by omega) ⟨3, h4, by rw [hV, hV]; omega⟩).mpr q)⟩
    · rintro ⟨q1, q2⟩
      exact ⟨q1, fun q => q2 ((hld_put hk (by omega) ⟨3, h4, by rw [hV, hV]; omega⟩).mp q)⟩)
theorem rem_0 (V : Nat → Nat → Nat) (sz N : Nat) (ss : Nat → Nat) (sb : Nat → Nat → Nat) : rem V sz N ss sb 0 = cnt (fun v => ¬ hld ss sb sz (V v)) N := cnt_ext (fun i _ => ⟨fun q => q.2, fun q => ⟨Nat.zero_le _, q⟩⟩)
/-- more power than what is missing needs is as good as just that -/
theorem wrK_pw {V : Nat → Nat → Nat} {sz N p1 p2 : Nat} (h4 : 3 < sz) (hV : ∀ v, V v 3 = v) : ∀ (r : Nat) (ss : Nat → Nat) (sb : Nat → Nat → Nat) (p : Nat), r ≤ N → p + rem V sz N ss sb (N - r) ≤ p1 → p + rem V sz N ss sb (N - r) ≤ p2 → wrK V sz N p1 r (ss, sb, p) = wrK V sz N p2 r (ss, sb, p)
  | 0, ss, sb, p, _, _, _ => rfl
  | r + 1, ss, sb, p, hr, h1, h2 => by
    have e : N - (N - (r + 1)) = r + 1 := by omega
    have e2 : N - (N - (r + 1) + 1) = r := by omega
    by_cases hh : hld ss sb sz (V (N - (r + 1)))
    · have a1 := wrK_h (pw := p1) (x := (ss, sb, p)) (show N - (r + 1) < N by omega) hh
      have a2 := wrK_h (pw := p2) (x := (ss, sb, p)) (show N - (r + 1) < N by omega) hh
      rw [e, e2] at a1 a2
      rw [a1, a2]
      have hq := rem_n (N := N) hh
      rw [show N - (r + 1) + 1 = N - r by omega] at hq
      exact wrK_pw h4 hV r ss sb p (by omega) (by omega) (by omega)
    · have hq := rem_y (show N - (r + 1) < N by omega) hh
      have a1 := wrK_w (pw := p1) (x := (ss, sb, p)) (show N - (r + 1) < N by omega) hh (show ¬ p = p1 by omega)
      have a2 := wrK_w (pw := p2) (x := (ss, sb, p)) (show N - (r + 1) < N by omega) hh (show ¬ p = p2 by omega)
      rw [e, e2] at a1 a2
      rw [a1, a2]
      rw [show N - (r + 1) + 1 = N - r by omega] at hq
      have hrem : rem V sz N (putA ss sb sz (V (N - (r + 1)))).1 (putA ss sb sz (V (N - (r + 1)))).2 (N - r) = rem V sz N ss sb (N - r) := by
        cases hf : fst' (fun k => ss k = 0) 60 60 with
        | none => rw [putA_none hf]
        | some k =>
          rw [putA_some hf]
          have hz := (fst_some (Nat.le_refl _) hf).2.2.1
          have h9 := rem_put (V := V) (N := N) (sb := sb) (n := N - (r + 1)) hz h4 hV
          rw [show N - (r + 1) + 1 = N - r by omega] at h9
          exact h9
      exact wrK_pw h4 hV r _ _ (p + 1) (by omega) (by rw [hrem]; omega) (by rw [hrem]; omega)
