/-! reading, the reference's loops -/
theorem onI_neg {o : Option Nat} (h : ∀ q, o = some q → q < 1000) : onI o < 0 ↔ o = none := by
  cases o with
  | none => exact ⟨fun _ => rfl, fun _ => by show (-2 : Int32) < 0; decide⟩
  | some q =>
    have hq := h q rfl
    exact ⟨fun e => absurd (show nI q < 0 from e) (nI_pos (by omega)), fun e => by cases e⟩
def nnP (pm : Nat → Option Nat) (n : Nat) : Nat → Option Nat := fun j => if j < n then none else pm j
theorem nnP_0 (pm : Nat → Option Nat) : nnP pm 0 = pm := by funext j; unfold nnP; rw [if_neg (by omega)]
theorem nnP_s (pm : Nat → Option Nat) (n : Nat) : va_up (nnP pm n) n none = nnP pm (n + 1) := by
  funext j
  unfold va_up nnP
  by_cases e : j = n
  · rw [if_pos e, if_pos (by omega)]
  · rw [if_neg e]
    by_cases q : j < n
    · rw [if_pos q, if_pos (by omega)]
    · rw [if_neg q, if_neg (by omega)]
theorem plD_ok {ss : Nat → Nat} {sb : Nat → Nat → Nat} {x f : Nat} {p0 : Nat → Option Nat} (h0 : ∀ j q, p0 j = some q → q < 1000) : ∀ t j q, t ≤ 60 → plD ss sb x f p0 t j = some q → q < 1000
  | 0, j, q, _, h => h0 j q h
  | t + 1, j, q, ht, h => by
    have hs : t + 1 = 60 - (60 - (t + 1)) := by omega
    have ht2 : t = 60 - ((60 - (t + 1)) + 1) := by omega
    generalize hg : 60 - (t + 1) = s at *
    rw [hs] at h
    by_cases c : tkC ss sb x f s
    · rw [plD_y (by omega) c, ← ht2] at h
      unfold va_up at h
      split at h
      · cases h; omega
      · exact plD_ok h0 t j q (by omega) h
    · rw [plD_n (by omega) c, ← ht2] at h
      exact plD_ok h0 t j q (by omega) h
/-- what is copied of the volumes that were found: n of them -/
def Cpd (pl : Nat → Option Nat) (sl : Nat → Nat) (w n : Nat) (ml mt mg : Nat → Nat) : Prop := ∀ v k, v < n → pl v = some k → ml v = sl (80 * k + 6) ∧ mt v = sl (80 * k + 7) ∧ ∀ i, i < w → mg (v * w + i) = sl (80 * k + 12 + i)
theorem Cpd_n {pl : Nat → Option Nat} {sl : Nat → Nat} {w n : Nat} {ml mt mg : Nat → Nat} (h : Cpd pl sl w n ml mt mg) (hn : pl n = none) : Cpd pl sl w (n + 1) ml mt mg := by
  intro v k hv hk
  by_cases e : v = n
  · rw [e, hn] at hk; cases hk
  · exact h v k (by omega) hk
theorem Cpd_s {pl : Nat → Option Nat} {sl : Nat → Nat} {w n k : Nat} {ml mt mg mg9 : Nat → Nat} (h : Cpd pl sl w n ml mt mg) (hn : pl n = some k) (h1 : ∀ i, i < w → mg9 (n * w + i) = sl (80 * k + 12 + i)) (h2 : ∀ p, ¬ (n * w ≤ p ∧ p < n * w + w) → mg9 p = mg p) : Cpd pl sl w (n + 1) (va_up ml n (sl (80 * k + 6))) (va_up mt n (sl (80 * k + 7))) mg9 := by
  intro v k' hv hk
  by_cases e : v = n
  · subst e
    rw [hn] at hk
    cases hk
    exact ⟨va_up_s _ _ _, va_up_s _ _ _, h1⟩
  · obtain ⟨a1, a2, a3⟩ := h v k' (by omega) hk
    refine ⟨by rw [va_up_n _ _ e]; exact a1, by rw [va_up_n _ _ e]; exact a2, fun i hi => ?_⟩
    rw [h2 _ (mul_far e (by omega) (by omega))]
    exact a3 i hi
