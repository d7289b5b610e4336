/-! bytes of numbers; the reference's products -/
theorem i32_back (z : Int32) : nI z.toBitVec.toNat = z := by
  apply Int32.toBitVec_inj.mp
  show BitVec.ofNat 32 z.toBitVec.toNat = z.toBitVec
  exact BitVec.ofNat_toNat 32 z.toBitVec ▸ (by simp)
def bN (x s : Int32) : Nat := (byt x s).toBitVec.toNat
theorem byt_nI (x s : Int32) : byt x s = nI (bN x s) := (i32_back _).symm
theorem bN_lt (x s : Int32) : bN x s < 256 := by
  unfold bN byt
  show ((Int32.toBitVec _) &&& (255#32)).toNat < 256
  rw [BitVec.toNat_and]
  exact Nat.lt_of_le_of_lt Nat.and_le_right (by decide)
theorem sar_byt (x : Int32) {s : Int32} (hs : s = 24 ∨ s = 16 ∨ s = 8 ∨ s = 0) : (x >>> (s &&& 31)) &&& 255 = byt x s := by
  unfold byt
  apply Int32.toBitVec_inj.mp
  rcases hs with h | h | h | h
  all_goals
    subst h
    show (BitVec.sshiftRight' x.toBitVec _) &&& 255#32 = (x.toBitVec >>> _) &&& 255#32
    apply BitVec.eq_of_getLsbD_eq
    intro i hi
    rw [BitVec.getLsbD_and, BitVec.getLsbD_and]
    by_cases h8 : i < 8
    · congr 1
      simp [BitVec.sshiftRight', BitVec.getLsbD_sshiftRight]
      first
      | (rw [decide_eq_false (show ¬ 32 ≤ i by omega), if_pos (by omega)]; rfl)
      | (show _ = x.toBitVec.getLsbD (0 + i); rw [Nat.zero_add])
    · have : (255#32).getLsbD i = false := by
        have h9 : ∀ j, j < 32 → ¬ j < 8 → (255#32).getLsbD j = false := by decide
        exact h9 i hi h8
      rw [this, Bool.and_false, Bool.and_false]
theorem ml_bit : ∀ b, b < 256 → ∀ k, k < 8 → (nI b >>> (nI k &&& 31)) &&& 1 = nI (if b.testBit k then 1 else 0) := by decide +kernel
theorem ml_tw1 : ∀ x, x < 256 → x ≤ 127 → nI x <<< ((1 : Int32) &&& 31) = nI (twN x) := by decide +kernel
theorem ml_tw2 : ∀ x, x < 256 → ¬ x ≤ 127 → ((nI x <<< ((1 : Int32) &&& 31)) &&& 255) ^^^ 29 = nI (twN x) := by decide +kernel
theorem pd_2 : ∀ x, x < 256 → pdN x 2 = twN x := by decide +kernel
theorem pd_1 : ∀ x, x < 256 → pdN x 1 = x := by decide +kernel
def ovK (a : Nat) : Nat → Nat
  | 0 => 1
  | k + 1 => pdN (ovK a k) a
theorem ovK_lt {a : Nat} (ha : a < 256) : ∀ k, ovK a k < 256
  | 0 => by show 1 < 256; decide
  | k + 1 => (pdN_nI (ovK_lt ha k) ha).2
/-- the bytes that five numbers are -/
def fB (a1 a2 a3 a4 a5 : Int32) (k : Nat) : Nat := bN (if k < 4 then a1 else if k < 8 then a2 else if k < 12 then a3 else if k < 16 then a4 else a5) (nI (24 - k % 4 * 8))
def fdL (tb : Nat → Nat) (tl : Nat) (F : Nat → Nat) (i : Nat) : Nat → Nat := fun j => if tl ≤ j ∧ j < tl + i then F (j - tl) else tb j
theorem fdL_0 (tb : Nat → Nat) (tl : Nat) (F : Nat → Nat) : fdL tb tl F 0 = tb := by funext j; unfold fdL; rw [if_neg (by omega)]
theorem fdL_s (tb : Nat → Nat) (tl : Nat) (F : Nat → Nat) (i : Nat) : va_up (fdL tb tl F i) (tl + i) (F i) = fdL tb tl F (i + 1) := by
  funext j
  unfold va_up
  by_cases h : j = tl + i
  · rw [if_pos h]
    unfold fdL
    rw [if_pos (by omega), show j - tl = i by omega]
  · rw [if_neg h]
    unfold fdL
    by_cases h2 : tl ≤ j ∧ j < tl + i
    · rw [if_pos h2, if_pos (by omega)]
    · rw [if_neg h2, if_neg (by omega)]
theorem up4_nI (b : Nat → Nat) (l : Nat) (x : Int32) : up4 (fun j => nI (b j)) l x = fun j => nI (fdL b l (fun k => bN x (nI (24 - k * 8))) 4 j) := by
  unfold up4
  rw [byt_nI, byt_nI, byt_nI, byt_nI, upd_nI, upd_nI, upd_nI, upd_nI]
  funext j
  congr 1
  unfold va_up fdL
  by_cases h3 : j = l + 3
  · rw [if_pos h3, if_pos (by omega), show j - l = 3 by omega]; rfl
  · rw [if_neg h3]
    by_cases h2 : j = l + 2
    · rw [if_pos h2, if_pos (by omega), show j - l = 2 by omega]; rfl
    · rw [if_neg h2]
      by_cases h1 : j = l + 1
      · rw [if_pos h1, if_pos (by omega), show j - l = 1 by omega]; rfl
      · rw [if_neg h1]
        by_cases h0 : j = l
        · rw [if_pos h0, if_pos (by omega), show j - l = 0 by omega]; rfl
        · rw [if_neg h0, if_neg (by omega)]
/-- a feed: the class's tape is the reference's -/
theorem feed_eq (tb : Nat → Nat) (tl : Nat) (a1 a2 a3 a4 a5 : Int32) : up4 (up4 (up4 (up4 (up4 (fun j => nI (tb j)) tl a1) (tl + 4) a2) (tl + 8) a3) (tl + 12) a4) (tl + 16) a5 = fun j => nI (fdL tb tl (fB a1 a2 a3 a4 a5) 20 j) := by
  rw [up4_nI, up4_nI, up4_nI, up4_nI, up4_nI]
  funext j
  congr 1
  unfold fdL fB
  by_cases h5 : tl + 16 ≤ j ∧ j < tl + 16 + 4
  · rw [if_pos h5, if_pos (by omega), if_neg (by omega), if_neg (by omega), if_neg (by omega), if_neg (by omega), show (j - tl) % 4 = j - (tl + 16) by omega]
  · rw [if_neg h5]
    by_cases h4 : tl + 12 ≤ j ∧ j < tl + 12 + 4
    · rw [if_pos h4, if_pos (by omega), if_neg (by omega), if_neg (by omega), if_neg (by omega), if_pos (by omega), show (j - tl) % 4 = j - (tl + 12) by omega]
    · rw [if_neg h4]
      by_cases h3 : tl + 8 ≤ j ∧ j < tl + 8 + 4
      · rw [if_pos h3, if_pos (by omega), if_neg (by omega), if_neg (by omega), if_pos (by omega), show (j - tl) % 4 = j - (tl + 8) by omega]
      · rw [if_neg h3]
        by_cases h2 : tl + 4 ≤ j ∧ j < tl + 4 + 4
        · rw [if_pos h2, if_pos (by omega), if_neg (by omega), if_pos (by omega), show (j - tl) % 4 = j - (tl + 4) by omega]
        · rw [if_neg h2]
          by_cases h1 : tl ≤ j ∧ j < tl + 4
          · rw [if_pos h1, if_pos (by omega), if_pos (by omega), show (j - tl) % 4 = j - tl by omega]
          · rw [if_neg h1, if_neg (by omega)]
