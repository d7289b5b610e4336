abbrev sl_a (z : Nat) (pi : Nat → Nat) (k : Nat) : Nat := z + 2 + 2 * pi k
def sl_q (z : Nat) (pi : Nat → Nat) : Nat → Option Nat := fun k => if k < 60 then some (z + 2 + 2 * pi k) else none
/-- the slots: at z the object, at z + 1 the row; slot k is the volume pi k of those that lie behind -/
def SlP (g : mn_H) (z : Nat) (pi ss : Nat → Nat) (sb : Nat → Nat → Nat) : Prop :=
  mn_at g z (.inr (5, [.ref (z + 1)])) ∧ mn_at g (z + 1) (.inl (1, 60, .inr (.inr (.inr (.inr (sl_q z pi)))))) ∧
  (∀ k, k < 60 → mn_at g (z + 2 + 2 * pi k) (.inr (8, [.ref (z + 2 + 2 * pi k + 1), .int (nI (ss k))])) ∧ mn_at g (z + 2 + 2 * pi k + 1) (.inl (0, 80, .inl (fun j => nI (sb k j))))) ∧
  (∀ k, k < 60 → pi k < 60) ∧ (∀ a b, a < 60 → b < 60 → pi a = pi b → a = b) ∧ (∀ k, ss k ≤ 80) ∧ ∀ k j, sb k j < 256
noncomputable def cnt (P : Nat → Prop) : Nat → Nat
  | 0 => 0
  | k + 1 => cnt P k + @ite _ (P k) (Classical.propDecidable _) 1 0
theorem cnt_y {P : Nat → Prop} {k : Nat} (h : P k) : cnt P (k + 1) = cnt P k + 1 := by
  show cnt P k + @ite _ (P k) (Classical.propDecidable _) 1 0 = cnt P k + 1
  rw [if_pos h]
theorem cnt_n {P : Nat → Prop} {k : Nat} (h : ¬ P k) : cnt P (k + 1) = cnt P k := by
  show cnt P k + @ite _ (P k) (Classical.propDecidable _) 1 0 = cnt P k
  rw [if_neg h]
  rfl
theorem cnt_le (P : Nat → Prop) : ∀ k, cnt P k ≤ k
  | 0 => Nat.le_refl _
  | k + 1 => by
    have := cnt_le P k
    by_cases h : P k
    · rw [cnt_y h]; omega
    · rw [cnt_n h]; omega
/-- of the last k of n the first with P -/
noncomputable def fst' (P : Nat → Prop) (n : Nat) : Nat → Option Nat
  | 0 => none
  | k + 1 => @ite _ (P (n - (k + 1))) (Classical.propDecidable _) (some (n - (k + 1))) (fst' P n k)
theorem fst_y {P : Nat → Prop} {n i : Nat} (hi : i < n) (h : P i) : fst' P n (n - i) = some i := by
  rw [show n - i = (n - (i + 1)) + 1 by omega]
  unfold fst'
  rw [show n - (n - (i + 1) + 1) = i by omega, if_pos h]
theorem fst_n {P : Nat → Prop} {n i : Nat} (hi : i < n) (h : ¬ P i) : fst' P n (n - i) = fst' P n (n - (i + 1)) := by
  rw [show n - i = (n - (i + 1)) + 1 by omega]
  rw [fst', show n - (n - (i + 1) + 1) = i by omega, if_neg h]
theorem fst_some {P : Nat → Prop} {n : Nat} : ∀ {k i : Nat}, k ≤ n → fst' P n k = some i → n - k ≤ i ∧ i < n ∧ P i ∧ ∀ j, n - k ≤ j → j < i → ¬ P j
  | 0, i, _, h => by cases h
  | k + 1, i, hk, h => by
    unfold fst' at h
    by_cases c : P (n - (k + 1))
    · rw [if_pos c] at h
      cases h
      exact ⟨by omega, by omega, c, fun j h1 h2 => absurd h2 (by omega)⟩
    · rw [if_neg c] at h
      have := fst_some (by omega) h
      exact ⟨by omega, this.2.1, this.2.2.1, fun j h1 h2 => by
        by_cases hj : j = n - (k + 1)
        · rw [hj]; exact c
        · exact this.2.2.2 j (by omega) h2⟩
theorem fst_none {P : Nat → Prop} {n : Nat} : ∀ {k : Nat}, k ≤ n → fst' P n k = none → ∀ j, n - k ≤ j → j < n → ¬ P j
  | 0, _, _, j, h1, h2 => absurd h2 (by omega)
  | k + 1, hk, h, j, h1, h2 => by
    unfold fst' at h
    by_cases c : P (n - (k + 1))
    · rw [if_pos c] at h
      cases h
    · rw [if_neg c] at h
      by_cases hj : j = n - (k + 1)
      · rw [hj]; exact c
      · exact fst_none (by omega) h j (by omega) h2
/-- two rows of bytes are the same -/
abbrev smN (s t : Nat) (b c : Nat → Nat) : Prop := s = t ∧ ∀ i, i < s → b i = c i
theorem same_nI {s t : Nat} {b c : Nat → Nat} (hb : ∀ j, b j < 256) (hc : ∀ j, c j < 256) : (sameB s t (fun j => nI (b j)) (fun j => nI (c j)) = 0 ↔ ¬ smN s t b c) := by
  unfold sameB
  have key : (s = t ∧ ∀ i, i < s → nI (b i) = nI (c i)) ↔ smN s t b c := by
    constructor
    · rintro ⟨h1, h2⟩
      exact ⟨h1, fun i hi => (nI_eq (by have := hb i; omega) (by have := hc i; omega)).mp (h2 i hi)⟩
    · rintro ⟨h1, h2⟩
      exact ⟨h1, fun i hi => by rw [h2 i hi]⟩
  by_cases h : smN s t b c
  · rw [if_pos (key.mpr h)]
    exact ⟨fun q => absurd q (by decide), fun q => absurd h q⟩
  · rw [if_neg (fun q => h (key.mp q))]
    exact ⟨fun _ => h, fun _ => rfl⟩
def cpN (c b : Nat → Nat) : Nat → Nat := fun j => if j < 80 then c j else b j
theorem cpy_nI (c b : Nat → Nat) : va_cpy (fun j => nI (c j)) (fun j => nI (b j)) 0 0 80 = fun j => nI (cpN c b j) := by
  funext j
  by_cases h : j < 80
  · rw [pk_cpy_in (by omega) (by omega)]
    unfold cpN
    rw [if_pos h]
    simp
  · rw [pk_cpy_out (by omega)]
    unfold cpN
    rw [if_neg h]
theorem gd_nI {b : Nat → Nat} (hb : ∀ j, b j < 256) (s : Nat) {x : Nat} (hx : x < 256) : gdV (fun j => nI (b j)) s (nI x) = 0 ↔ ¬ (b 2 = x ∧ stN b s = 1) := by
  have h2 := hb 2
  have hst : stN b s < 4 := by unfold stN; split; decide; split; split; decide; decide; decide
  unfold gdV
  rw [stV_nI hb]
  have key : (nI (b 2) = nI x ∧ nI (stN b s) = 1) ↔ (b 2 = x ∧ stN b s = 1) := by
    constructor
    · rintro ⟨q1, q2⟩
      exact ⟨(nI_eq (by omega) (by omega)).mp q1, (nI_eq (b := 1) (by omega) (by omega)).mp q2⟩
    · rintro ⟨q1, q2⟩
      rw [q1, q2]; exact ⟨rfl, rfl⟩
  by_cases h : b 2 = x ∧ stN b s = 1
  · rw [if_pos (key.mpr h)]
    exact ⟨fun q => absurd q (by decide), fun q => absurd h q⟩
  · rw [if_neg (fun q => h (key.mp q))]
    exact ⟨fun _ => h, fun _ => rfl⟩
theorem stN_lt (b : Nat → Nat) (s : Nat) : stN b s < 4 := by unfold stN; split; decide; split; split; decide; decide; decide
theorem mn_aastN {E : mn_En} {M : mn_M} {d w nc ns pc a ci : Nat} {ls : List (Nat × Value)} {st : List Value} {g : mn_H} {Q : Option Value → mn_H → Prop} {t n y j : Nat} {r : vw_C} {f : Nat → Option Nat} {vs : List Value} (hat : mn_at g a (.inl (t, n, .inr (.inr (.inr (.inr f)))))) (hc : vwCl[ci]? = some r) (ht : mn_T[t]? = some (.object r.1)) (hav : mn_at g y (.inr (ci, vs))) (hj : j < n) (hn : n < 2 ^ 31) (hdg : decode M.2.1 pc = .ok (.aastore, 1)) (k : mn_R E M d w nc ns (pc + 1) ls st (mn_set g a (.inl (t, n, .inr (.inr (.inr (.inr (va_up f j (some y)))))))) Q) : mn_R E M d w nc ns pc ls (.ref y :: .int (nI j) :: .ref a :: st) g Q :=
  mn_aast hat hc ht hav (vp_in_nI hj hn) hdg (by rw [nI_clamp (by omega)]; exact k)
def swp {α : Type} (f : Nat → α) (a b : Nat) : Nat → α := fun k => if k = b then f a else if k = a then f b else f k
theorem sl_swp {z a b : Nat} {pi : Nat → Nat} (ha : a < 60) (hb : b < 60) : va_up (va_up (sl_q z pi) a (some (z + 2 + 2 * pi b))) b (some (z + 2 + 2 * pi a)) = sl_q z (swp pi a b) := by
  funext k
  unfold va_up sl_q swp
  by_cases h1 : k = b
  · rw [if_pos h1, if_pos (by omega), if_pos h1]
  · rw [if_neg h1, if_neg h1]
    by_cases h2 : k = a
    · rw [if_pos h2, if_pos (by omega), if_pos h2]
    · rw [if_neg h2, if_neg h2]
theorem SlP_swp {g g' : mn_H} {z a b : Nat} {pi ss : Nat → Nat} {sb : Nat → Nat → Nat} (h : SlP g z pi ss sb) (ha : a < 60) (hb : b < 60) (hf : mn_fr (fun q => q = z + 1) g g') (hr : mn_at g' (z + 1) (.inl (1, 60, .inr (.inr (.inr (.inr (va_up (va_up (sl_q z pi) a (some (z + 2 + 2 * pi b))) b (some (z + 2 + 2 * pi a))))))))) : SlP g' z (swp pi a b) (swp ss a b) (swp sb a b) := by
  obtain ⟨hz, hzr, hv, hpi, hpj, hss, hsb⟩ := h
  rw [sl_swp ha hb] at hr
  have hv' : ∀ k, k < 60 → mn_at g' (z + 2 + 2 * pi k) (.inr (8, [.ref (z + 2 + 2 * pi k + 1), .int (nI (ss k))])) ∧ mn_at g' (z + 2 + 2 * pi k + 1) (.inl (0, 80, .inl (fun j => nI (sb k j)))) := fun k hk =>
    ⟨(hv k hk).1.fr hf (fun h => by have h9 : z + 2 + 2 * pi k = z + 1 := h; omega), (hv k hk).2.fr hf (fun h => by have h9 : z + 2 + 2 * pi k + 1 = z + 1 := h; omega)⟩
  refine ⟨hz.fr hf (fun h => by have h9 : z = z + 1 := h; omega), hr, fun k hk => ?_, fun k hk => ?_, fun x y hx hy hxy => ?_, fun k => ?_, fun k j => ?_⟩
  · unfold swp
    by_cases h1 : k = b
    · rw [if_pos h1, if_pos h1, if_pos h1]; exact hv' a ha
    · rw [if_neg h1, if_neg h1, if_neg h1]
      by_cases h2 : k = a
      · rw [if_pos h2, if_pos h2, if_pos h2]; exact hv' b hb
      · rw [if_neg h2, if_neg h2, if_neg h2]; exact hv' k hk
  · unfold swp
    split
    · exact hpi a ha
    · split
      · exact hpi b hb
      · exact hpi k hk
  · unfold swp at hxy
    have key : ∀ u v, u < 60 → v < 60 → pi u = pi v → u = v := hpj
    by_cases x1 : x = b
    · rw [if_pos x1] at hxy
      by_cases y1 : y = b
      · omega
      · rw [if_neg y1] at hxy
        by_cases y2 : y = a
        · rw [if_pos y2] at hxy
          have := key a b ha hb hxy
          omega
        · rw [if_neg y2] at hxy
          have := key a y ha hy hxy
          omega
    · rw [if_neg x1] at hxy
      by_cases x2 : x = a
      · rw [if_pos x2] at hxy
        by_cases y1 : y = b
        · rw [if_pos y1] at hxy
          have := key b a hb ha hxy
          omega
        · rw [if_neg y1] at hxy
          by_cases y2 : y = a
          · omega
          · rw [if_neg y2] at hxy
            have := key b y hb hy hxy
            omega
      · rw [if_neg x2] at hxy
        by_cases y1 : y = b
        · rw [if_pos y1] at hxy
          have := key x a hx ha hxy
          omega
        · rw [if_neg y1] at hxy
          by_cases y2 : y = a
          · rw [if_pos y2] at hxy
            have := key x b hx hb hxy
            omega
          · rw [if_neg y2] at hxy
            exact key x y hx hy hxy
  · unfold swp
    split
    · exact hss a
    · split
      · exact hss b
      · exact hss k
  · unfold swp
    split
    · exact hsb a j
    · split
      · exact hsb b j
      · exact hsb k j
theorem cpN_lt {c b : Nat → Nat} (hc : ∀ j, c j < 256) (hb : ∀ j, b j < 256) : ∀ j, cpN c b j < 256 := by
  intro j
  unfold cpN
  split
  · exact hc j
  · exact hb j
/-- slot k changes -/
theorem SlP_put {g g' : mn_H} {z k t : Nat} {pi ss : Nat → Nat} {sb : Nat → Nat → Nat} {c : Nat → Nat} (h : SlP g z pi ss sb) (hk : k < 60) (ht : t ≤ 80) (hc : ∀ j, c j < 256) (hf : mn_fr (fun q => q = z + 2 + 2 * pi k ∨ q = z + 2 + 2 * pi k + 1) g g') (h1 : mn_at g' (z + 2 + 2 * pi k) (.inr (8, [.ref (z + 2 + 2 * pi k + 1), .int (nI t)]))) (h2 : mn_at g' (z + 2 + 2 * pi k + 1) (.inl (0, 80, .inl (fun j => nI (c j))))) : SlP g' z pi (va_up ss k t) (va_up sb k c) := by
  obtain ⟨hz, hzr, hv, hpi, hpj, hss, hsb⟩ := h
  refine ⟨hz.fr hf (fun h => by have h9 : z = z + 2 + 2 * pi k ∨ z = z + 2 + 2 * pi k + 1 := h; omega), hzr.fr hf (fun h => by have h9 : z + 1 = z + 2 + 2 * pi k ∨ z + 1 = z + 2 + 2 * pi k + 1 := h; omega), fun i hi => ?_, hpi, hpj, fun i => ?_, fun i j => ?_⟩
  · by_cases hik : i = k
    · subst hik
      rw [va_up_s, va_up_s]
      exact ⟨h1, h2⟩
    · rw [va_up_n _ _ hik, va_up_n _ _ hik]
      have hne : pi i ≠ pi k := fun q => hik (hpj i k hi hk q)
      exact ⟨(hv i hi).1.fr hf (fun h => by have h9 : z + 2 + 2 * pi i = z + 2 + 2 * pi k ∨ z + 2 + 2 * pi i = z + 2 + 2 * pi k + 1 := h; omega), (hv i hi).2.fr hf (fun h => by have h9 : z + 2 + 2 * pi i + 1 = z + 2 + 2 * pi k ∨ z + 2 + 2 * pi i + 1 = z + 2 + 2 * pi k + 1 := h; omega)⟩
  · by_cases hik : i = k
    · subst hik; rw [va_up_s]; exact ht
    · rw [va_up_n _ _ hik]; exact hss i
  · by_cases hik : i = k
    · subst hik; rw [va_up_s]; exact hc j
    · rw [va_up_n _ _ hik]; exact hsb i j
/-- the slots stay where nothing of them changes -/
theorem SlP.fr {g g' : mn_H} {z : Nat} {pi ss : Nat → Nat} {sb : Nat → Nat → Nat} {S : Nat → Prop} (h : SlP g z pi ss sb) (hf : mn_fr S g g') (hs : ∀ q, z ≤ q → q < z + 122 → ¬ S q) : SlP g' z pi ss sb := by
  obtain ⟨hz, hzr, hv, hpi, hpj, hss, hsb⟩ := h
  refine ⟨hz.fr hf (hs _ (by omega) (by omega)), hzr.fr hf (hs _ (by omega) (by omega)), fun k hk => ?_, hpi, hpj, hss, hsb⟩
  have := hpi k hk
  exact ⟨(hv k hk).1.fr hf (hs _ (by omega) (by omega)), (hv k hk).2.fr hf (hs _ (by omega) (by omega))⟩
