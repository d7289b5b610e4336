/-! what the reference's volumes are -/
def zb (sm : Nat → Nat) (len : Nat) : Nat → Nat := fun j => if j < len then sm j else 0
theorem zb_lt {sm : Nat → Nat} (h : ∀ j, sm j < 256) (len : Nat) : ∀ j, zb sm len j < 256 := by
  intro j
  unfold zb
  split
  · exact h j
  · decide
def LnS (len w : Nat) : Nat → Nat := fun n => min w (len - n * w)
def SnS (bg : Nat → Nat) (e w : Nat) : Nat → Nat := fun n => siK bg e (n * w) w e
theorem LnS_lt {len w : Nat} (hw : w ≤ 68) : ∀ n, LnS len w n < 256 := by
  intro n
  unfold LnS
  rw [Nat.min_def]
  split <;> omega
theorem SnS_lt {bg : Nat → Nat} {e w : Nat} (hw : w ≤ 68) : ∀ n, SnS bg e w n < 256 := fun n => siK_lt hw e
theorem pt_in {sm L S : Nat → Nat} {len w n i : Nat} (h : n * w + i < len) : ptN (zb sm len) L S w n (12 + i) = sm (n * w + i) := by
  unfold ptN zb
  rw [if_neg (by omega), if_neg (by omega), if_neg (by omega), show n * w + (12 + i) - 12 = n * w + i by omega, if_pos h]
theorem pt_out {sm L S : Nat → Nat} {len w n i : Nat} (h : ¬ n * w + i < len) : ptN (zb sm len) L S w n (12 + i) = 0 := by
  unfold ptN zb
  rw [if_neg (by omega), if_neg (by omega), if_neg (by omega), show n * w + (12 + i) - 12 = n * w + i by omega, if_neg h]
theorem pcN_lt {len u n : Nat} (hu : 0 < u) (hl : len ≠ 0) (h : n < pcN len u) : n * u < len := by
  rw [pcN_p hu hl] at h
  have h3 : (n + 1) * u ≤ len + u - 1 := (Nat.le_div_iff_mul_le hu).mp h
  rw [Nat.succ_mul] at h3
  omega
/-- the body comes into a volume, i bytes of it -/
def bdL (vl V : Nat → Nat) (i : Nat) : Nat → Nat := fun j => if 12 ≤ j ∧ j < 12 + i then V j else vl j
theorem bdL_0 (vl V : Nat → Nat) : bdL vl V 0 = vl := by funext j; unfold bdL; rw [if_neg (by omega)]
theorem bdL_s (vl V : Nat → Nat) (i : Nat) : va_up (bdL vl V i) (12 + i) (V (12 + i)) = bdL vl V (i + 1) := by
  funext j
  unfold va_up bdL
  by_cases h : j = 12 + i
  · rw [if_pos h, if_pos (by omega), h]
  · rw [if_neg h]
    by_cases h2 : 12 ≤ j ∧ j < 12 + i
    · rw [if_pos h2, if_pos (by omega)]
    · rw [if_neg h2, if_neg (by omega)]
/-- the volume that the reference makes is the one that the class makes -/
def mkM (vl V : Nat → Nat) (st n m rp w : Nat) : Nat → Nat := va_up (va_up (va_up (va_up (va_up (va_up (va_up (va_up (bdL vl V w) 0 86) 1 83) 2 st) 3 n) 4 m) 5 rp) 6 (V 6)) 7 (V 7)
def mkM2 (vl V : Nat → Nat) (st n m rp w : Nat) : Nat → Nat := va_up (va_up (mkM vl V st n m rp w) 8 (suN (mkM vl V st n m rp w) 12 w % 256)) 9 (suN (mkM vl V st n m rp w) 12 w / 256)
def mkM3 (vl V : Nat → Nat) (st n m rp w : Nat) : Nat → Nat := va_up (va_up (mkM2 vl V st n m rp w) 10 (suN (mkM2 vl V st n m rp w) 0 10 % 256)) 11 (suN (mkM2 vl V st n m rp w) 0 10 / 256)
theorem mkM_eq (vl V c : Nat → Nat) (st n m rp w : Nat) {j : Nat} (hj : j < w + 12) (h8 : j < 8 ∨ 12 ≤ j) : mkM vl V st n m rp w j = mkL (hd6 c st n m rp) V (w + 12) j := by
  unfold mkM mkL hd6 bdL va_up
  rcases h8 with h | h
  · have hh : j = 0 ∨ j = 1 ∨ j = 2 ∨ j = 3 ∨ j = 4 ∨ j = 5 ∨ j = 6 ∨ j = 7 := by omega
    rcases hh with q | q | q | q | q | q | q | q <;> subst q <;> simp
  · simp only [show ¬ j = 7 by omega, show ¬ j = 6 by omega, show ¬ j = 5 by omega, show ¬ j = 4 by omega, show ¬ j = 3 by omega, show ¬ j = 2 by omega, show ¬ j = 1 by omega, show ¬ j = 0 by omega, if_false]
    rw [if_pos (by omega), if_pos (by omega)]
theorem mkM3_eq (vl V c : Nat → Nat) (st n m rp w : Nat) : ∀ j, j < w + 12 → mkM3 vl V st n m rp w j = sealN (mkL (hd6 c st n m rp) V (w + 12)) (w + 12) j := by
  have hb : suN (mkM vl V st n m rp w) 12 w = suN (mkL (hd6 c st n m rp) V (w + 12)) 12 w := suN_ext (fun i hi => mkM_eq vl V c st n m rp w (by omega) (Or.inr (by omega)))
  have h2 : ∀ j, j < w + 12 → j < 10 ∨ 12 ≤ j → mkM2 vl V st n m rp w j = psN (mkL (hd6 c st n m rp) V (w + 12)) 8 (suN (mkL (hd6 c st n m rp) V (w + 12)) 12 w) j := by
    intro j hj h10
    show (if j = 9 then suN (mkM vl V st n m rp w) 12 w / 256 else if j = 8 then suN (mkM vl V st n m rp w) 12 w % 256 else mkM vl V st n m rp w j) = (if j = 9 then suN (mkL (hd6 c st n m rp) V (w + 12)) 12 w / 256 else if j = 8 then suN (mkL (hd6 c st n m rp) V (w + 12)) 12 w % 256 else mkL (hd6 c st n m rp) V (w + 12) j)
    rw [hb]
    by_cases h9 : j = 9
    · rw [if_pos h9, if_pos h9]
    · rw [if_neg h9, if_neg h9]
      by_cases h8 : j = 8
      · rw [if_pos h8, if_pos h8]
      · rw [if_neg h8, if_neg h8]
        exact mkM_eq vl V c st n m rp w hj (by omega)
  intro j hj
  have hh : suN (mkM2 vl V st n m rp w) 0 10 = suN (psN (mkL (hd6 c st n m rp) V (w + 12)) 8 (suN (mkL (hd6 c st n m rp) V (w + 12)) 12 w)) 0 10 := suN_ext (fun i hi => h2 (0 + i) (by omega) (by omega))
  show (if j = 11 then suN (mkM2 vl V st n m rp w) 0 10 / 256 else if j = 10 then suN (mkM2 vl V st n m rp w) 0 10 % 256 else mkM2 vl V st n m rp w j) = (if j = 11 then suN (psN (mkL (hd6 c st n m rp) V (w + 12)) 8 (suN (mkL (hd6 c st n m rp) V (w + 12)) 12 w)) 0 10 / 256 else if j = 10 then suN (psN (mkL (hd6 c st n m rp) V (w + 12)) 8 (suN (mkL (hd6 c st n m rp) V (w + 12)) 12 w)) 0 10 % 256 else psN (mkL (hd6 c st n m rp) V (w + 12)) 8 (suN (mkL (hd6 c st n m rp) V (w + 12)) 12 w) j)
  rw [hh]
  by_cases h11 : j = 11
  · rw [if_pos h11, if_pos h11]
  · rw [if_neg h11, if_neg h11]
    by_cases h10 : j = 10
    · rw [if_pos h10, if_pos h10]
    · rw [if_neg h10, if_neg h10]
      exact h2 j hj (by omega)
theorem mkM_lt {vl V : Nat → Nat} (h1 : ∀ j, vl j < 256) (h2 : ∀ j, V j < 256) {st n m rp : Nat} (a1 : st < 256) (a2 : n < 256) (a3 : m < 256) (a4 : rp < 256) (w : Nat) : ∀ j, mkM vl V st n m rp w j < 256 := by
  have hb : ∀ j, bdL vl V w j < 256 := by
    intro j
    unfold bdL
    split
    · exact h2 j
    · exact h1 j
  exact va_up_lt (va_up_lt (va_up_lt (va_up_lt (va_up_lt (va_up_lt (va_up_lt (va_up_lt hb (by decide)) (by decide)) a1) a2) a3) a4) (h2 6)) (h2 7)
theorem mkM3_lt {vl V : Nat → Nat} (h1 : ∀ j, vl j < 256) (h2 : ∀ j, V j < 256) {st n m rp : Nat} (a1 : st < 256) (a2 : n < 256) (a3 : m < 256) (a4 : rp < 256) (w : Nat) : ∀ j, mkM3 vl V st n m rp w j < 256 := by
  have s1 := suN_lt (mkM vl V st n m rp w) 12 w
  have s2 := suN_lt (mkM2 vl V st n m rp w) 0 10
  exact va_up_lt (va_up_lt (va_up_lt (va_up_lt (mkM_lt h1 h2 a1 a2 a3 a4 w) (by omega)) (by omega)) (by omega)) (by omega)
/-- the reference's slots -/
def sbS (sl : Nat → Nat) : Nat → Nat → Nat := fun s k => sl (80 * s + k)
/-- a volume is laid into slot s: k bytes are there, of them nn the volume's -/
def lyL (sl vl : Nat → Nat) (s nn k : Nat) : Nat → Nat := fun p => if 80 * s ≤ p ∧ p < 80 * s + k then (if p - 80 * s < nn then vl (p - 80 * s) else 0) else sl p
theorem lyL_0 (sl vl : Nat → Nat) (s nn : Nat) : lyL sl vl s nn 0 = sl := by funext p; unfold lyL; rw [if_neg (by omega)]
theorem lyL_y (sl vl : Nat → Nat) {s nn k : Nat} (h : k < nn) : va_up (lyL sl vl s nn k) (80 * s + k) (vl k) = lyL sl vl s nn (k + 1) := by
  funext p
  unfold va_up lyL
  by_cases e : p = 80 * s + k
  · rw [if_pos e, if_pos (show 80 * s ≤ p ∧ p < 80 * s + (k + 1) by omega), if_pos (show p - 80 * s < nn by omega), show p - 80 * s = k by omega]
  · rw [if_neg e]
    by_cases h2 : 80 * s ≤ p ∧ p < 80 * s + k
    · rw [if_pos h2, if_pos (show 80 * s ≤ p ∧ p < 80 * s + (k + 1) by omega)]
    · rw [if_neg h2, if_neg (show ¬ (80 * s ≤ p ∧ p < 80 * s + (k + 1)) by omega)]
theorem lyL_n (sl vl : Nat → Nat) {s nn k : Nat} (h : ¬ k < nn) : va_up (lyL sl vl s nn k) (80 * s + k) 0 = lyL sl vl s nn (k + 1) := by
  funext p
  unfold va_up lyL
  by_cases e : p = 80 * s + k
  · rw [if_pos e, if_pos (show 80 * s ≤ p ∧ p < 80 * s + (k + 1) by omega), if_neg (show ¬ p - 80 * s < nn by omega)]
  · rw [if_neg e]
    by_cases h2 : 80 * s ≤ p ∧ p < 80 * s + k
    · rw [if_pos h2, if_pos (show 80 * s ≤ p ∧ p < 80 * s + (k + 1) by omega)]
    · rw [if_neg h2, if_neg (show ¬ (80 * s ≤ p ∧ p < 80 * s + (k + 1)) by omega)]
theorem lyL_lt {sl vl : Nat → Nat} (h1 : ∀ j, sl j < 256) (h2 : ∀ j, vl j < 256) (s nn k : Nat) : ∀ p, lyL sl vl s nn k p < 256 := by
  intro p
  unfold lyL
  split
  · split
    · exact h2 _
    · decide
  · exact h1 p
