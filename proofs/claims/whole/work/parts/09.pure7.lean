/-! products over naturals, and the equations -/
def pdK (a b : Nat) : Nat → Nat
  | 0 => 0
  | k + 1 => if b.testBit k then pdK a b k ^^^ twsN a k else pdK a b k
def pdN (a b : Nat) : Nat := pdK a b 8
theorem pdK_nI {a b : Nat} (ha : a < 256) (hb : b < 256) : ∀ k, k ≤ 8 → pds (nI a) (nI b) k = nI (pdK a b k) ∧ pdK a b k < 256
  | 0, _ => ⟨rfl, by show 0 < 256; decide⟩
  | k + 1, hk => by
    obtain ⟨h1, h2⟩ := pdK_nI ha hb k (by omega)
    obtain ⟨g1, g2⟩ := tws_nI ha k
    have hbit := nx_bit (k := b) (j := k) (by omega) (by omega)
    show (if vb_t (nI b) k = 0 then pds (nI a) (nI b) k else pds (nI a) (nI b) k ^^^ tws (nI a) k) = nI (if b.testBit k then pdK a b k ^^^ twsN a k else pdK a b k) ∧ (if b.testBit k then pdK a b k ^^^ twsN a k else pdK a b k) < 256
    cases ht : b.testBit k with
    | false =>
      rw [if_pos (show vb_t (nI b) k = 0 from hbit.mpr ht), h1]
      exact ⟨rfl, h2⟩
    | true =>
      rw [if_neg (fun q : vb_t (nI b) k = 0 => by have := hbit.mp q; rw [ht] at this; cases this), h1, g1, nx_xor]
      exact ⟨rfl, xor_lt8 h2 g2⟩
theorem pdN_nI {a b : Nat} (ha : a < 256) (hb : b < 256) : pds (nI a) (nI b) 8 = nI (pdN a b) ∧ pdN a b < 256 := pdK_nI ha hb 8 (Nat.le_refl _)
noncomputable def ivN (a : Nat) : Nat := match fst' (fun b => pdN a b = 1) 256 255 with
  | none => 0
  | some b => b
theorem ivN_lt (a : Nat) : ivN a < 256 := by
  unfold ivN
  split
  · decide
  · rename_i b h
    exact (fst_some (by decide) h).2.1
def eq_q (ee : Nat) : Nat → Option Nat := fun i => if i < 3 then some (ee + 2 + i) else none
def EqP (g : mn_H) (ee : Nat) (rw : Nat → Nat → Nat) (nu : Nat → Nat) (un gv : Nat) : Prop :=
  mn_at g ee (.inr (0, [.ref (ee + 1), .ref (ee + 5), .int (nI un), .int (nI gv)])) ∧ mn_at g (ee + 1) (.inl (2, 3, .inr (.inr (.inr (.inr (eq_q ee)))))) ∧ (∀ i, i < 3 → mn_at g (ee + 2 + i) (.inl (0, 83, .inl (fun j => nI (rw i j))))) ∧ mn_at g (ee + 5) (.inl (0, 3, .inl (fun j => nI (nu j)))) ∧
  (∀ i j, rw i j < 256) ∧ un ≤ 3 ∧ gv ≤ 3 ∧ ∀ j, nu j < 60
theorem EqP.fr {g g' : mn_H} {ee : Nat} {rw : Nat → Nat → Nat} {nu : Nat → Nat} {un gv : Nat} {S : Nat → Prop} (h : EqP g ee rw nu un gv) (hf : mn_fr S g g') (hs : ∀ q, ee ≤ q → q < ee + 6 → ¬ S q) : EqP g' ee rw nu un gv := by
  obtain ⟨h1, h2, h3, h4, h5⟩ := h
  exact ⟨h1.fr hf (hs _ (by omega) (by omega)), h2.fr hf (hs _ (by omega) (by omega)), fun i hi => (h3 i hi).fr hf (hs _ (by omega) (by omega)), h4.fr hf (hs _ (by omega) (by omega)), h5⟩
theorem EqP_row {g g' : mn_H} {ee k : Nat} {rw : Nat → Nat → Nat} {nu : Nat → Nat} {un gv : Nat} {r : Nat → Nat} (h : EqP g ee rw nu un gv) (hk : k < 3) (hr : ∀ j, r j < 256) (hf : mn_fr (fun q => q = ee + 2 + k) g g') (h1 : mn_at g' (ee + 2 + k) (.inl (0, 83, .inl (fun j => nI (r j))))) : EqP g' ee (va_up rw k r) nu un gv := by
  obtain ⟨a1, a2, a3, a4, a5, a6⟩ := h
  refine ⟨a1.fr hf (fun q => by have h9 : ee = ee + 2 + k := q; omega), a2.fr hf (fun q => by have h9 : ee + 1 = ee + 2 + k := q; omega), fun i hi => ?_, a4.fr hf (fun q => by have h9 : ee + 5 = ee + 2 + k := q; omega), fun i j => ?_, a6⟩
  · by_cases hik : i = k
    · subst hik; rw [va_up_s]; exact h1
    · rw [va_up_n _ _ hik]; exact (a3 i hi).fr hf (fun q => by have h9 : ee + 2 + i = ee + 2 + k := q; omega)
  · by_cases hik : i = k
    · subst hik; rw [va_up_s]; exact hr j
    · rw [va_up_n _ _ hik]; exact a5 i j
def scL (r : Nat → Nat) (f i : Nat) : Nat → Nat := fun c => if c < i then pdN (r c) f else r c
theorem scL_0 (r : Nat → Nat) (f : Nat) : scL r f 0 = r := by funext c; unfold scL; rw [if_neg (by omega)]
theorem scL_s (r : Nat → Nat) (f i : Nat) : va_up (scL r f i) i (pdN (scL r f i i) f) = scL r f (i + 1) := by
  funext c
  unfold va_up
  by_cases h : c = i
  · subst h
    unfold scL
    rw [if_pos rfl, if_neg (by omega), if_pos (by omega)]
  · rw [if_neg h]
    unfold scL
    by_cases h2 : c < i
    · rw [if_pos h2, if_pos (by omega)]
    · rw [if_neg h2, if_neg (by omega)]
theorem scL_lt {r : Nat → Nat} (hr : ∀ j, r j < 256) {f : Nat} (hf : f < 256) (i : Nat) : ∀ j, scL r f i j < 256 := by
  intro j
  unfold scL
  split
  · exact (pdN_nI (hr j) hf).2
  · exact hr j
def adL (r s : Nat → Nat) (f i : Nat) : Nat → Nat := fun c => if c < i then r c ^^^ pdN (s c) f else r c
theorem adL_0 (r s : Nat → Nat) (f : Nat) : adL r s f 0 = r := by funext c; unfold adL; rw [if_neg (by omega)]
theorem adL_s (r s : Nat → Nat) (f i : Nat) : va_up (adL r s f i) i (adL r s f i i ^^^ pdN (s i) f) = adL r s f (i + 1) := by
  funext c
  unfold va_up
  by_cases h : c = i
  · subst h
    unfold adL
    rw [if_pos rfl, if_neg (by omega), if_pos (by omega)]
  · rw [if_neg h]
    unfold adL
    by_cases h2 : c < i
    · rw [if_pos h2, if_pos (by omega)]
    · rw [if_neg h2, if_neg (by omega)]
theorem adL_lt {r s : Nat → Nat} (hr : ∀ j, r j < 256) (hs : ∀ j, s j < 256) {f : Nat} (hf : f < 256) (i : Nat) : ∀ j, adL r s f i j < 256 := by
  intro j
  unfold adL
  split
  · exact xor_lt8 (hr j) (pdN_nI (hs j) hf).2
  · exact hr j
def scA (rw : Nat → Nat → Nat) (q f : Nat) : Nat → Nat → Nat := va_up rw q (scL (rw q) f 83)
def adA (rw : Nat → Nat → Nat) (o q f : Nat) : Nat → Nat → Nat := va_up rw o (adL (rw o) (rw q) f 83)
/-- row q is taken out of the others; o of un are done -/
def elI (rw : Nat → Nat → Nat) (q : Nat) : Nat → Nat → Nat → Nat
  | 0 => rw
  | o + 1 => if o = q then elI rw q o else adA (elI rw q o) o q (elI rw q o o q)
/-- q of the rows are through -/
noncomputable def elO (rw : Nat → Nat → Nat) (un : Nat) : Nat → Nat → Nat → Nat
  | 0 => rw
  | q + 1 => elI (scA (elO rw un q) q (ivN (elO rw un q q q))) q un
def ar1 (r nu : Nat → Nat) (j i : Nat) : Nat → Nat := fun c => if c < i then twsN 1 (j * nu c) else r c
theorem ar1_0 (r nu : Nat → Nat) (j : Nat) : ar1 r nu j 0 = r := by funext c; unfold ar1; rw [if_neg (by omega)]
theorem ar1_s (r nu : Nat → Nat) (j i : Nat) : va_up (ar1 r nu j i) i (twsN 1 (j * nu i)) = ar1 r nu j (i + 1) := by
  funext c
  unfold va_up ar1
  by_cases h : c = i
  · rw [if_pos h, if_pos (by omega), h]
  · rw [if_neg h]
    by_cases h2 : c < i
    · rw [if_pos h2, if_pos (by omega)]
    · rw [if_neg h2, if_neg (by omega)]
theorem ar1_lt {r : Nat → Nat} (hr : ∀ j, r j < 256) (nu : Nat → Nat) (j i : Nat) : ∀ c, ar1 r nu j i c < 256 := by
  intro c
  unfold ar1
  split
  · exact (tws_nI (by decide) _).2
  · exact hr c
def ar2 (r X : Nat → Nat) (i : Nat) : Nat → Nat := fun c => if 9 ≤ c ∧ c < 3 + i then X (c - 3) else r c
theorem ar2_0 (r X : Nat → Nat) : ar2 r X 6 = r := by funext c; unfold ar2; rw [if_neg (by omega)]
theorem ar2_s (r X : Nat → Nat) {i : Nat} (hi : 6 ≤ i) : va_up (ar2 r X i) (3 + i) (X i) = ar2 r X (i + 1) := by
  funext c
  unfold va_up ar2
  by_cases h : c = 3 + i
  · rw [if_pos h, if_pos (by omega), h, show 3 + i - 3 = i by omega]
  · rw [if_neg h]
    by_cases h2 : 9 ≤ c ∧ c < 3 + i
    · rw [if_pos h2, if_pos (by omega)]
    · rw [if_neg h2, if_neg (by omega)]
theorem ar2_lt {r X : Nat → Nat} (hr : ∀ j, r j < 256) (hX : ∀ j, X j < 256) (i : Nat) : ∀ c, ar2 r X i c < 256 := by
  intro c
  unfold ar2
  split
  · exact hX _
  · exact hr c
/-- what a repair tells beside what is known: byte i -/
def rsN (c pb ln sn : Nat → Nat) (w m j i : Nat) : Nat := c i ^^^ horN (fun n => ptN pb ln sn w n i) j m m
theorem rsN_lt {c pb ln sn : Nat → Nat} (hc : ∀ j, c j < 256) (hp : ∀ j, pb j < 256) (hl : ∀ j, ln j < 256) (hs : ∀ j, sn j < 256) (w m j i : Nat) : rsN c pb ln sn w m j i < 256 := xor_lt8 (hc i) (hor_nI (fun n => ptN_lt hp hl hs w n i) j m m).2
theorem EqP_set {g g' : mn_H} {ee un gv un' gv' : Nat} {rw : Nat → Nat → Nat} {nu : Nat → Nat} (h : EqP g ee rw nu un gv) (hf : mn_fr (fun q => q = ee) g g') (h1 : mn_at g' ee (.inr (0, [.ref (ee + 1), .ref (ee + 5), .int (nI un'), .int (nI gv')]))) (hu : un' ≤ 3) (hg : gv' ≤ 3) : EqP g' ee rw nu un' gv' := by
  obtain ⟨a1, a2, a3, a4, a5, a6, a7, a8⟩ := h
  exact ⟨h1, a2.fr hf (fun q => by have h9 : ee + 1 = ee := q; omega), fun i hi => (a3 i hi).fr hf (fun q => by have h9 : ee + 2 + i = ee := q; omega), a4.fr hf (fun q => by have h9 : ee + 5 = ee := q; omega), a5, hu, hg, a8⟩
theorem adA_lt {rw : Nat → Nat → Nat} (h : ∀ i j, rw i j < 256) {o q f : Nat} (hf : f < 256) : ∀ i j, adA rw o q f i j < 256 := by
  intro i j
  unfold adA va_up
  split
  · exact adL_lt (h o) (h q) hf 83 j
  · exact h i j
theorem elI_lt {rw : Nat → Nat → Nat} (h : ∀ i j, rw i j < 256) (q : Nat) : ∀ o i j, elI rw q o i j < 256
  | 0 => h
  | o + 1 => by
    unfold elI
    split
    · exact elI_lt h q o
    · exact adA_lt (elI_lt h q o) (elI_lt h q o o q)
