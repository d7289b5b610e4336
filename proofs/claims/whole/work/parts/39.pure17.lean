theorem tuP_ok {pl : Nat → Option Nat} {nu : Nat → Nat} (h : ∀ j q, pl j = some q → q < 1000) : ∀ k j q, tuP pl nu k j = some q → q < 1000
  | 0, j, q, e => h j q e
  | k + 1, j, q, e => by
    rw [tuP] at e
    unfold va_up at e
    split at e
    · cases e; decide
    · exact tuP_ok h k j q e
theorem nnP_ok {pm : Nat → Option Nat} (h : ∀ j q, pm j = some q → q < 1000) (n : Nat) : ∀ j q, nnP pm n j = some q → q < 1000 := by
  intro j q e
  unfold nnP at e
  split at e
  · cases e
  · exact h j q e
theorem fst_uni {P : Nat → Prop} {a b : Nat} (ha : P a) (h1 : ∀ s, s < a → ¬ P s) (hb : P b) (h2 : ∀ s, s < b → ¬ P s) : a = b := by
  rcases Nat.lt_trichotomy a b with q | q | q
  · exact absurd ha (h2 a q)
  · exact q
  · exact absurd hb (h1 b q)
