def ppBN (w n i v : Nat) (pb : Nat → Nat) : Nat → Nat := if 12 ≤ i then va_up pb (n * w + i - 12) v else pb
def ppLN (n i v : Nat) (ln : Nat → Nat) : Nat → Nat := if i = 6 then va_up ln n v else ln
def ppSN (n i v : Nat) (sn : Nat → Nat) : Nat → Nat := if i = 7 then va_up sn n v else sn
theorem ppB_nI (w n i v : Nat) (pb : Nat → Nat) : ppB w n i (nI v) (fun j => nI (pb j)) = fun j => nI (ppBN w n i v pb j) := by
  unfold ppB ppBN
  split
  · exact upd_nI _ _ _
  · rfl
theorem ppL_nI (n i v : Nat) (pb : Nat → Nat) : ppL n i (nI v) (fun j => nI (pb j)) = fun j => nI (ppLN n i v pb j) := by
  unfold ppL ppLN
  split
  · exact upd_nI _ _ _
  · rfl
theorem ppS_nI (n i v : Nat) (pb : Nat → Nat) : ppS n i (nI v) (fun j => nI (pb j)) = fun j => nI (ppSN n i v pb j) := by
  unfold ppS ppSN
  split
  · exact upd_nI _ _ _
  · rfl
/-- an entry of tl bytes with sum S behind the first len bytes; i of its bytes are there -/
def apL (pb : Nat → Nat) (len tl S : Nat) (tb : Nat → Nat) (i : Nat) : Nat → Nat := fun j => if j < len then pb j else if j = len then tl else if j = len + 1 then S % 256 else if j = len + 2 then S / 256 else if j < len + 3 + i then tb (j - (len + 3)) else pb j
theorem apL_0 (pb : Nat → Nat) (len tl S : Nat) (tb : Nat → Nat) : va_up (va_up (va_up pb len tl) (len + 1) (S % 256)) (len + 2) (S / 256) = apL pb len tl S tb 0 := by
  funext j
  unfold va_up apL
  repeat' split
  all_goals first | rfl | omega
theorem apL_s (pb : Nat → Nat) (len tl S : Nat) (tb : Nat → Nat) (i : Nat) : va_up (apL pb len tl S tb i) (len + 3 + i) (tb i) = apL pb len tl S tb (i + 1) := by
  funext j
  unfold va_up
  by_cases hj : j = len + 3 + i
  · subst hj
    unfold apL
    rw [if_pos rfl, if_neg (by omega), if_neg (by omega), if_neg (by omega), if_neg (by omega), if_pos (by omega), show len + 3 + i - (len + 3) = i by omega]
  · rw [if_neg hj]
    unfold apL
    by_cases h1 : j < len
    · rw [if_pos h1, if_pos h1]
    · rw [if_neg h1, if_neg h1]
      by_cases h2 : j = len
      · rw [if_pos h2, if_pos h2]
      · rw [if_neg h2, if_neg h2]
        by_cases h3 : j = len + 1
        · rw [if_pos h3, if_pos h3]
        · rw [if_neg h3, if_neg h3]
          by_cases h4 : j = len + 2
          · rw [if_pos h4, if_pos h4]
          · rw [if_neg h4, if_neg h4]
            by_cases h5 : j < len + 3 + i
            · rw [if_pos h5, if_pos (by omega)]
            · rw [if_neg h5, if_neg (by omega)]
def blN (pb : Nat → Nat) (n : Nat) : Nat → Nat := fun j => if j < n then 0 else pb j
theorem flN_nI (pb : Nat → Nat) (n : Nat) : flN (fun j => nI (pb j)) 0 n = fun j => nI (blN pb n j) := by
  funext j
  unfold flN blN
  split <;> rfl
theorem blN_lt {pb : Nat → Nat} (h : ∀ j, pb j < 256) (n : Nat) : ∀ j, blN pb n j < 256 := by
  intro j
  unfold blN
  split
  · decide
  · exact h j
def pcN (len w : Nat) : Nat := max 1 ((len + w - 1) / w)
/-- of the last k of e entries the place of the first that begins in from .. from + w - 1; 255: none -/
def siK (bg : Nat → Nat) (e fr w : Nat) : Nat → Nat
  | 0 => 255
  | k + 1 => if fr ≤ bg (e - (k + 1)) ∧ bg (e - (k + 1)) < fr + w then bg (e - (k + 1)) - fr else siK bg e fr w k
def dvL (ln : Nat → Nat) (len w i : Nat) : Nat → Nat := fun n => if n < i then min w (len - n * w) else ln n
def dvS (sn bg : Nat → Nat) (e w i : Nat) : Nat → Nat := fun n => if n < i then siK bg e (n * w) w e else sn n
theorem dvL_0 (ln : Nat → Nat) (len w : Nat) : dvL ln len w 0 = ln := by funext n; unfold dvL; rw [if_neg (by omega)]
theorem dvS_0 (sn bg : Nat → Nat) (e w : Nat) : dvS sn bg e w 0 = sn := by funext n; unfold dvS; rw [if_neg (by omega)]
theorem dvL_s (ln : Nat → Nat) (len w i : Nat) : va_up (dvL ln len w i) i (min w (len - i * w)) = dvL ln len w (i + 1) := by
  funext n
  unfold va_up dvL
  by_cases h : n = i
  · rw [if_pos h, if_pos (by omega), h]
  · rw [if_neg h]
    by_cases h2 : n < i
    · rw [if_pos h2, if_pos (by omega)]
    · rw [if_neg h2, if_neg (by omega)]
theorem dvS_s (sn bg : Nat → Nat) (e w i : Nat) : va_up (dvS sn bg e w i) i (siK bg e (i * w) w e) = dvS sn bg e w (i + 1) := by
  funext n
  unfold va_up dvS
  by_cases h : n = i
  · rw [if_pos h, if_pos (by omega), h]
  · rw [if_neg h]
    by_cases h2 : n < i
    · rw [if_pos h2, if_pos (by omega)]
    · rw [if_neg h2, if_neg (by omega)]
theorem siK_lt {bg : Nat → Nat} {e fr w : Nat} (hw : w ≤ 68) : ∀ k, siK bg e fr w k < 256
  | 0 => by show 255 < 256; decide
  | k + 1 => by
    unfold siK
    split
    · omega
    · exact siK_lt hw k
theorem pcN_le {len u n : Nat} (hu : 0 < u) (h : n < pcN len u) : n * u ≤ len := by
  unfold pcN at h
  by_cases h1 : n = 0
  · subst h1; omega
  · have h2 : n < (len + u - 1) / u := by
      rcases Nat.lt_or_ge n ((len + u - 1) / u) with q | q
      · exact q
      · rw [Nat.max_def] at h
        split at h <;> omega
    have h3 : (n + 1) * u ≤ len + u - 1 := (Nat.le_div_iff_mul_le hu).mp h2
    rw [Nat.succ_mul] at h3
    omega
theorem pcN_pos (len u : Nat) : 1 ≤ pcN len u := Nat.le_max_left _ _
