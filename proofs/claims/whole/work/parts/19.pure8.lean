/-! reading: places, what is taken, what is made again -/
theorem onI_e {o : Option Nat} (h : ∀ q, o = some q → q < 1000) : onI o = -2 ↔ o = none := by
  cases o with
  | none => exact ⟨fun _ => rfl, fun _ => rfl⟩
  | some q =>
    have hq := h q rfl
    refine ⟨fun e => ?_, fun e => by cases e⟩
    have e' : nI q = -2 := e
    have h0 : ¬ nI q < 0 := nI_pos (by omega)
    rw [e'] at h0
    exact absurd (by decide) h0
theorem upd_onI (pl : Nat → Option Nat) (k : Nat) (x : Option Nat) : upd (fun j => onI (pl j)) k (onI x) = fun j => onI (va_up pl k x j) := by
  funext j
  unfold upd va_up
  split <;> rfl
def pl0 : Nat → Option Nat := fun j => if j < 63 then none else some 0
theorem fl_pl0 {pl : Nat → Option Nat} (h : ∀ j, 63 ≤ j → pl j = some 0) : flN (fun j => onI (pl j)) (-2) 63 = fun j => onI (pl0 j) := by
  funext j
  unfold flN pl0
  split
  · rfl
  · show onI (pl j) = onI (some 0)
    rw [h j (by omega)]
theorem blN_z {pb : Nat → Nat} {n : Nat} (h : ∀ j, n ≤ j → pb j = 0) : blN pb n = fun _ => 0 := by
  funext j
  unfold blN
  split
  · rfl
  · exact h j (by omega)
/-- the bytes of volume n come in, i of them -/
def tkL (ln : Nat → Nat) (n i : Nat) (b : Nat → Nat) : Nat → Nat := if 6 < i then va_up ln n (b 6) else ln
def tkS (sn : Nat → Nat) (n i : Nat) (b : Nat → Nat) : Nat → Nat := if 7 < i then va_up sn n (b 7) else sn
def tkB (pb : Nat → Nat) (n w i : Nat) (b : Nat → Nat) : Nat → Nat := fun p => if n * w ≤ p ∧ p + 12 < n * w + i then b (12 + (p - n * w)) else pb p
theorem tkL_0 (ln : Nat → Nat) (n : Nat) (b : Nat → Nat) : tkL ln n 6 b = ln := if_neg (by omega)
theorem tkS_0 (sn : Nat → Nat) (n : Nat) (b : Nat → Nat) : tkS sn n 6 b = sn := if_neg (by omega)
theorem tkB_0 (pb : Nat → Nat) (n w : Nat) (b : Nat → Nat) : tkB pb n w 6 b = pb := by funext p; unfold tkB; rw [if_neg (by omega)]
theorem tkL_s (ln : Nat → Nat) (n : Nat) {i : Nat} (b : Nat → Nat) (hi : 6 ≤ i) : ppLN n i (b i) (tkL ln n i b) = tkL ln n (i + 1) b := by
  unfold ppLN tkL
  by_cases h : i = 6
  · rw [if_pos h, if_neg (by omega), if_pos (by omega), h]
  · rw [if_neg h, if_pos (by omega), if_pos (by omega)]
theorem tkS_s (sn : Nat → Nat) (n : Nat) {i : Nat} (b : Nat → Nat) (hi : 6 ≤ i) : ppSN n i (b i) (tkS sn n i b) = tkS sn n (i + 1) b := by
  unfold ppSN tkS
  by_cases h : i = 7
  · rw [if_pos h, if_neg (by omega), if_pos (by omega), h]
  · rw [if_neg h]
    by_cases h2 : 7 < i
    · rw [if_pos h2, if_pos (by omega)]
    · rw [if_neg h2, if_neg (by omega)]
theorem tkB_s (pb : Nat → Nat) (n w : Nat) {i : Nat} (b : Nat → Nat) (hi : 6 ≤ i) : ppBN w n i (b i) (tkB pb n w i b) = tkB pb n w (i + 1) b := by
  unfold ppBN
  by_cases h : 12 ≤ i
  · rw [if_pos h]
    funext p
    unfold va_up tkB
    by_cases hp : p = n * w + i - 12
    · rw [if_pos hp, if_pos (by omega), show 12 + (p - n * w) = i by omega]
    · rw [if_neg hp]
      by_cases h2 : n * w ≤ p ∧ p + 12 < n * w + i
      · rw [if_pos h2, if_pos (by omega)]
      · rw [if_neg h2, if_neg (by omega)]
  · rw [if_neg h]
    funext p
    unfold tkB
    rw [if_neg (by omega), if_neg (by omega)]
theorem tkL_lt {ln : Nat → Nat} (h : ∀ j, ln j < 256) (n i : Nat) {b : Nat → Nat} (hb : ∀ j, b j < 256) : ∀ j, tkL ln n i b j < 256 := by
  unfold tkL
  split
  · exact va_up_lt h (hb 6)
  · exact h
theorem tkS_lt {ln : Nat → Nat} (h : ∀ j, ln j < 256) (n i : Nat) {b : Nat → Nat} (hb : ∀ j, b j < 256) : ∀ j, tkS ln n i b j < 256 := by
  unfold tkS
  split
  · exact va_up_lt h (hb 7)
  · exact h
theorem tkB_lt {pb : Nat → Nat} (h : ∀ j, pb j < 256) (n w i : Nat) {b : Nat → Nat} (hb : ∀ j, b j < 256) : ∀ j, tkB pb n w i b j < 256 := by
  intro j
  unfold tkB
  split
  · exact hb _
  · exact h j
/-- what the places tell of the stream -/
def gL (m : Nat) (pl : Nat → Option Nat) (sb : Nat → Nat → Nat) : Nat → Nat := fun n => if n < m then (match pl n with | none => 0 | some k => sb k 6) else 0
def gS (m : Nat) (pl : Nat → Option Nat) (sb : Nat → Nat → Nat) : Nat → Nat := fun n => if n < m then (match pl n with | none => 0 | some k => sb k 7) else 0
def gB (m w : Nat) (pl : Nat → Option Nat) (sb : Nat → Nat → Nat) : Nat → Nat := fun p => if p < m * w then (match pl (p / w) with | none => 0 | some k => sb k (12 + (p - p / w * w))) else 0
theorem gL_lt {m : Nat} {pl : Nat → Option Nat} {sb : Nat → Nat → Nat} (h : ∀ k j, sb k j < 256) : ∀ n, gL m pl sb n < 256 := by
  intro n
  unfold gL
  split
  · cases pl n
    · show 0 < 256; decide
    · exact h _ _
  · decide
theorem gS_lt {m : Nat} {pl : Nat → Option Nat} {sb : Nat → Nat → Nat} (h : ∀ k j, sb k j < 256) : ∀ n, gS m pl sb n < 256 := by
  intro n
  unfold gS
  split
  · cases pl n
    · show 0 < 256; decide
    · exact h _ _
  · decide
theorem gB_lt {m w : Nat} {pl : Nat → Option Nat} {sb : Nat → Nat → Nat} (h : ∀ k j, sb k j < 256) : ∀ n, gB m w pl sb n < 256 := by
  intro n
  unfold gB
  split
  · cases pl (n / w)
    · show 0 < 256; decide
    · exact h _ _
  · decide
theorem gL_0 (m : Nat) (hm : m ≤ 60) (sb : Nat → Nat → Nat) : gL m pl0 sb = fun _ => 0 := by
  funext n
  unfold gL pl0
  split
  · rw [if_pos (by omega)]
  · rfl
theorem gS_0 (m : Nat) (hm : m ≤ 60) (sb : Nat → Nat → Nat) : gS m pl0 sb = fun _ => 0 := by
  funext n
  unfold gS pl0
  split
  · rw [if_pos (by omega)]
  · rfl
theorem gB_0 (m w : Nat) (hw : 0 < w) (hm : m ≤ 60) (sb : Nat → Nat → Nat) : gB m w pl0 sb = fun _ => 0 := by
  funext p
  unfold gB pl0
  split
  · rename_i h
    have : p / w < m := by rw [Nat.div_lt_iff_lt_mul hw]; exact h
    rw [if_pos (by omega)]
  · rfl
theorem gL_in {m n i : Nat} (pl : Nat → Option Nat) (sb : Nat → Nat → Nat) (hn : n < m) (i6 : Nat) (h6 : 6 < i6) : tkL (gL m pl sb) n i6 (sb i) = gL m (va_up pl n (some i)) sb := by
  unfold tkL
  rw [if_pos h6]
  funext j
  by_cases h : j = n
  · subst h
    unfold gL
    rw [va_up_s, va_up_s, if_pos hn]
  · rw [va_up_n _ _ h]
    unfold gL
    rw [va_up_n _ _ h]
theorem gS_in {m n i : Nat} (pl : Nat → Option Nat) (sb : Nat → Nat → Nat) (hn : n < m) (i6 : Nat) (h6 : 7 < i6) : tkS (gS m pl sb) n i6 (sb i) = gS m (va_up pl n (some i)) sb := by
  unfold tkS
  rw [if_pos h6]
  funext j
  by_cases h : j = n
  · subst h
    unfold gS
    rw [va_up_s, va_up_s, if_pos hn]
  · rw [va_up_n _ _ h]
    unfold gS
    rw [va_up_n _ _ h]
theorem div_of {p n w : Nat} (h1 : n * w ≤ p) (h2 : p < n * w + w) : p / w = n := by
  have h3 : p < (n + 1) * w := by rw [Nat.succ_mul]; exact h2
  have a1 : n ≤ p / w := by rw [Nat.le_div_iff_mul_le (by omega)]; exact h1
  have a2 : p / w < n + 1 := by rw [Nat.div_lt_iff_lt_mul (by omega)]; exact h3
  omega
theorem in_of {p n w : Nat} (hw : 0 < w) (h : p / w = n) : n * w ≤ p ∧ p < n * w + w := by
  have h1 := Nat.div_mul_le_self p w
  have h2 := Nat.lt_div_mul_add (a := p) hw
  rw [h] at h1 h2
  exact ⟨h1, h2⟩
theorem gB_in {m w n i : Nat} (pl : Nat → Option Nat) (sb : Nat → Nat → Nat) (hw : 0 < w) (hn : n < m) : tkB (gB m w pl sb) n w (w + 12) (sb i) = gB m w (va_up pl n (some i)) sb := by
  have hm := Nat.mul_le_mul_right w (show n + 1 ≤ m by omega)
  rw [Nat.succ_mul] at hm
  funext p
  unfold tkB
  by_cases h : n * w ≤ p ∧ p + 12 < n * w + (w + 12)
  · rw [if_pos h]
    have e := div_of h.1 (by omega)
    unfold gB
    rw [if_pos (by omega), e, va_up_s]
  · rw [if_neg h]
    unfold gB
    by_cases h2 : p < m * w
    · rw [if_pos h2, if_pos h2, va_up_n _ _ (fun e => h (by have := in_of hw e; omega))]
    · rw [if_neg h2, if_neg h2]
theorem gL_out {m n : Nat} {x : Option Nat} (pl : Nat → Option Nat) (sb : Nat → Nat → Nat) (hn : m ≤ n) : gL m (va_up pl n x) sb = gL m pl sb := by
  funext j
  unfold gL
  by_cases h : j < m
  · rw [if_pos h, if_pos h, va_up_n _ _ (by omega)]
  · rw [if_neg h, if_neg h]
theorem gS_out {m n : Nat} {x : Option Nat} (pl : Nat → Option Nat) (sb : Nat → Nat → Nat) (hn : m ≤ n) : gS m (va_up pl n x) sb = gS m pl sb := by
  funext j
  unfold gS
  by_cases h : j < m
  · rw [if_pos h, if_pos h, va_up_n _ _ (by omega)]
  · rw [if_neg h, if_neg h]
theorem gB_out {m w n : Nat} {x : Option Nat} (pl : Nat → Option Nat) (sb : Nat → Nat → Nat) (hw : 0 < w) (hn : m ≤ n) : gB m w (va_up pl n x) sb = gB m w pl sb := by
  funext p
  unfold gB
  by_cases h : p < m * w
  · have : p / w < m := by rw [Nat.div_lt_iff_lt_mul hw]; exact h
    rw [if_pos h, if_pos h, va_up_n _ _ (by omega)]
  · rw [if_neg h, if_neg h]
theorem cnt_ext {P Q : Nat → Prop} : ∀ {k : Nat}, (∀ i, i < k → (P i ↔ Q i)) → cnt P k = cnt Q k
  | 0, _ => rfl
  | k + 1, h => by
    have ih := cnt_ext (P := P) (Q := Q) (k := k) (fun i hi => h i (by omega))
    by_cases hp : P k
    · rw [cnt_y hp, cnt_y ((h k (by omega)).mp hp), ih]
    · rw [cnt_n hp, cnt_n (fun q => hp ((h k (by omega)).mpr q)), ih]
theorem cnt_in {pl : Nat → Option Nat} {n x : Nat} (h : pl n = none) : ∀ {m : Nat}, n < m → cnt (fun j => va_up pl n (some x) j ≠ none) m = cnt (fun j => pl j ≠ none) m + 1
  | 0, hm => absurd hm (by omega)
  | m + 1, hm => by
    by_cases e : n = m
    · subst e
      rw [cnt_y (P := fun j => va_up pl n (some x) j ≠ none) (k := n) (by show va_up pl n (some x) n ≠ none; rw [va_up_s]; exact fun q => by cases q), cnt_n (P := fun j => pl j ≠ none) (k := n) (fun q => q h)]
      rw [cnt_ext (P := fun j => va_up pl n (some x) j ≠ none) (Q := fun j => pl j ≠ none) (fun i hi => by show va_up pl n (some x) i ≠ none ↔ _; rw [va_up_n _ _ (by omega)])]
    · have ih := cnt_in (x := x) h (m := m) (by omega)
      by_cases hp : pl m ≠ none
      · rw [cnt_y (P := fun j => va_up pl n (some x) j ≠ none) (k := m) (by show va_up pl n (some x) m ≠ none; rw [va_up_n _ _ (fun q => e q.symm)]; exact hp), cnt_y (P := fun j => pl j ≠ none) (k := m) hp, ih]
      · rw [cnt_n (P := fun j => va_up pl n (some x) j ≠ none) (k := m) (by show ¬ va_up pl n (some x) m ≠ none; rw [va_up_n _ _ (fun q => e q.symm)]; exact hp), cnt_n (P := fun j => pl j ≠ none) (k := m) hp, ih]
theorem cnt_out {pl : Nat → Option Nat} {n m : Nat} {x : Option Nat} (h : m ≤ n) : cnt (fun j => va_up pl n x j ≠ none) m = cnt (fun j => pl j ≠ none) m := cnt_ext (fun i hi => by show va_up pl n x i ≠ none ↔ _; rw [va_up_n _ _ (by omega)])
theorem cnt_z {P : Nat → Prop} : ∀ {k : Nat}, (∀ i, i < k → ¬ P i) → cnt P k = 0
  | 0, _ => rfl
  | k + 1, h => by rw [cnt_n (h k (by omega)), cnt_z (fun i hi => h i (by omega))]
theorem cnt_neg (P : Nat → Prop) : ∀ k, cnt P k + cnt (fun i => ¬ P i) k = k
  | 0 => rfl
  | k + 1 => by
    have ih := cnt_neg P k
    by_cases h : P k
    · rw [cnt_y h, cnt_n (P := fun i => ¬ P i) (fun q => q h)]; omega
    · rw [cnt_n h, cnt_y (P := fun i => ¬ P i) h]; omega
theorem cnt_mono (P : Nat → Prop) {a b : Nat} (h : a ≤ b) : cnt P a ≤ cnt P b := by
  induction b with
  | zero => rw [show a = 0 by omega]; exact Nat.le_refl _
  | succ b ih =>
    by_cases e : a = b + 1
    · subst e; exact Nat.le_refl _
    · have := ih (by omega)
      by_cases hp : P b
      · rw [cnt_y hp]; omega
      · rw [cnt_n hp]; exact this
/-- slot k belongs to what is read: set x, as wide and many as slot f -/
def tkC (ss : Nat → Nat) (sb : Nat → Nat → Nat) (x f k : Nat) : Prop := (sb k 2 = x ∧ stN (sb k) (ss k) = 1) ∧ ss k = ss f ∧ sb k 4 = sb f 4 ∧ sb k 5 = sb f 5
/-- the places behind i slots -/
noncomputable def plK (ss : Nat → Nat) (sb : Nat → Nat → Nat) (x f : Nat) : Nat → Nat → Option Nat
  | 0 => pl0
  | i + 1 => @ite _ (tkC ss sb x f i ∧ plK ss sb x f i (sb i 3) = none) (Classical.propDecidable _) (va_up (plK ss sb x f i) (sb i 3) (some i)) (plK ss sb x f i)
theorem plK_y {ss : Nat → Nat} {sb : Nat → Nat → Nat} {x f i : Nat} (h : tkC ss sb x f i) (h2 : plK ss sb x f i (sb i 3) = none) : plK ss sb x f (i + 1) = va_up (plK ss sb x f i) (sb i 3) (some i) := by rw [plK]; exact if_pos ⟨h, h2⟩
theorem plK_n {ss : Nat → Nat} {sb : Nat → Nat → Nat} {x f i : Nat} (h : ¬ (tkC ss sb x f i ∧ plK ss sb x f i (sb i 3) = none)) : plK ss sb x f (i + 1) = plK ss sb x f i := by rw [plK]; exact if_neg h
theorem stN_hd {b : Nat → Nat} {s : Nat} (h : stN b s = 1) : hdN b s := by
  unfold stN at h
  split at h
  · cases h
  · split at h
    · assumption
    · cases h
theorem plK_lt {ss : Nat → Nat} {sb : Nat → Nat → Nat} {x f : Nat} : ∀ {i n k : Nat}, n < 63 → plK ss sb x f i n = some k → k < i ∧ tkC ss sb x f k ∧ sb k 3 = n
  | 0, n, k, hn, h => by
    have h' : pl0 n = some k := h
    unfold pl0 at h'
    rw [if_pos hn] at h'
    cases h'
  | i + 1, n, k, hn, h => by
    by_cases c : tkC ss sb x f i ∧ plK ss sb x f i (sb i 3) = none
    · rw [plK_y c.1 c.2] at h
      by_cases e : n = sb i 3
      · rw [e, va_up_s] at h
        cases h
        exact ⟨by omega, c.1, e.symm⟩
      · rw [va_up_n _ _ e] at h
        have := plK_lt hn h
        exact ⟨by omega, this.2⟩
    · rw [plK_n c] at h
      have := plK_lt hn h
      exact ⟨by omega, this.2⟩
theorem plK_hi {ss : Nat → Nat} {sb : Nat → Nat → Nat} {x f : Nat} : ∀ {i n : Nat}, 63 ≤ n → plK ss sb x f i n = some 0
  | 0, n, hn => by show pl0 n = some 0; unfold pl0; rw [if_neg (by omega)]
  | i + 1, n, hn => by
    by_cases c : tkC ss sb x f i ∧ plK ss sb x f i (sb i 3) = none
    · rw [plK_y c.1 c.2]
      have hh := stN_hd c.1.1.2
      have h3 : sb i 3 < 63 := by have a1 := hh.2.2.2.2.2.1; have a2 := hh.2.2.2.2.2.2.1; have a3 := hh.2.2.2.2.2.2.2; omega
      rw [va_up_n _ _ (by omega)]
      exact plK_hi hn
    · rw [plK_n c]; exact plK_hi hn
/-- unknowns -/
noncomputable def unK (nu : Nat → Nat) (pl : Nat → Option Nat) : Nat → Nat → Nat
  | 0 => nu
  | n + 1 => @ite _ (pl n = none) (Classical.propDecidable _) (va_up (unK nu pl n) (cnt (fun j => pl j = none) n) n) (unK nu pl n)
theorem unK_y {nu : Nat → Nat} {pl : Nat → Option Nat} {n : Nat} (h : pl n = none) : unK nu pl (n + 1) = va_up (unK nu pl n) (cnt (fun j => pl j = none) n) n := by rw [unK]; exact if_pos h
theorem unK_n {nu : Nat → Nat} {pl : Nat → Option Nat} {n : Nat} (h : ¬ pl n = none) : unK nu pl (n + 1) = unK nu pl n := by rw [unK]; exact if_neg h
/-- the repairs, j of them -/
def rkS (pl : Nat → Option Nat) (sb : Nat → Nat → Nat) (nu : Nat → Nat) (un ms : Nat) (pb ln sn : Nat → Nat) (w m t : Nat) (rw0 : Nat → Nat → Nat) : Nat → (Nat → Nat → Nat) × Nat
  | 0 => (rw0, 0)
  | j + 1 => if (rkS pl sb nu un ms pb ln sn w m t rw0 j).2 < ms then (match pl (m + j) with
      | none => rkS pl sb nu un ms pb ln sn w m t rw0 j
      | some k => (va_up (rkS pl sb nu un ms pb ln sn w m t rw0 j).1 (rkS pl sb nu un ms pb ln sn w m t rw0 j).2 (ar2 (ar1 ((rkS pl sb nu un ms pb ln sn w m t rw0 j).1 (rkS pl sb nu un ms pb ln sn w m t rw0 j).2) nu j un) (rsN (sb k) pb ln sn w m j) t), (rkS pl sb nu un ms pb ln sn w m t rw0 j).2 + 1))
    else rkS pl sb nu un ms pb ln sn w m t rw0 j
theorem rkS_full {pl : Nat → Option Nat} {sb : Nat → Nat → Nat} {nu : Nat → Nat} {un ms : Nat} {pb ln sn : Nat → Nat} {w m t : Nat} {rw0 : Nat → Nat → Nat} {j : Nat} (h : ¬ (rkS pl sb nu un ms pb ln sn w m t rw0 j).2 < ms) : ∀ i, rkS pl sb nu un ms pb ln sn w m t rw0 (j + i) = rkS pl sb nu un ms pb ln sn w m t rw0 j
  | 0 => rfl
  | i + 1 => by
    show rkS pl sb nu un ms pb ln sn w m t rw0 ((j + i) + 1) = _
    rw [rkS, rkS_full h i, if_neg h]
theorem rkS_no {pl : Nat → Option Nat} {sb : Nat → Nat → Nat} {nu : Nat → Nat} {un ms : Nat} {pb ln sn : Nat → Nat} {w m t : Nat} {rw0 : Nat → Nat → Nat} {j : Nat} (h : pl (m + j) = none) : rkS pl sb nu un ms pb ln sn w m t rw0 (j + 1) = rkS pl sb nu un ms pb ln sn w m t rw0 j := by
  rw [rkS, h]
  split <;> rfl
theorem rkS_yes {pl : Nat → Option Nat} {sb : Nat → Nat → Nat} {nu : Nat → Nat} {un ms : Nat} {pb ln sn : Nat → Nat} {w m t : Nat} {rw0 : Nat → Nat → Nat} {j k : Nat} {x : (Nat → Nat → Nat) × Nat} (hx : rkS pl sb nu un ms pb ln sn w m t rw0 j = x) (hg : x.2 < ms) (h : pl (m + j) = some k) : rkS pl sb nu un ms pb ln sn w m t rw0 (j + 1) = (va_up x.1 x.2 (ar2 (ar1 (x.1 x.2) nu j un) (rsN (sb k) pb ln sn w m j) t), x.2 + 1) := by
  rw [rkS, hx, if_pos hg, h]
theorem rkS_le (pl : Nat → Option Nat) (sb : Nat → Nat → Nat) (nu : Nat → Nat) (un ms : Nat) (pb ln sn : Nat → Nat) (w m t : Nat) (rw0 : Nat → Nat → Nat) : ∀ j, (rkS pl sb nu un ms pb ln sn w m t rw0 j).2 ≤ ms
  | 0 => Nat.zero_le _
  | j + 1 => by
    have ih := rkS_le pl sb nu un ms pb ln sn w m t rw0 j
    by_cases hg : (rkS pl sb nu un ms pb ln sn w m t rw0 j).2 < ms
    · cases h : pl (m + j) with
      | none => rw [rkS_no h]; exact ih
      | some k => rw [rkS_yes rfl hg h]; exact hg
    · have := rkS_full hg 1
      rw [this]; exact ih
/-- the unknowns come in -/
def tuP (pl : Nat → Option Nat) (nu : Nat → Nat) : Nat → Nat → Option Nat
  | 0 => pl
  | q + 1 => va_up (tuP pl nu q) (nu q) (some 100)
def tuA (ln : Nat → Nat) (nu X : Nat → Nat) : Nat → Nat → Nat
  | 0 => ln
  | q + 1 => va_up (tuA ln nu X q) (nu q) (X q)
def tuB (pb : Nat → Nat) (nu : Nat → Nat) (w : Nat) (X : Nat → Nat → Nat) : Nat → Nat → Nat
  | 0 => pb
  | q + 1 => tkB (tuB pb nu w X q) (nu q) w (w + 12) (X q)
