def mkV (pb ln sn : Nat → Nat) (w m n j : Nat) : Nat := if n < m then ptN pb ln sn w n j else horN (fun k => ptN pb ln sn w k j) (n - m) m m
theorem mkV_lt {pb ln sn : Nat → Nat} (hp : ∀ j, pb j < 256) (hl : ∀ j, ln j < 256) (hs : ∀ j, sn j < 256) (w m n j : Nat) : mkV pb ln sn w m n j < 256 := by
  unfold mkV
  split
  · exact ptN_lt hp hl hs w n j
  · exact (hor_nI (fun k => ptN_lt hp hl hs w k j) (n - m) m m).2
def mkL (b V : Nat → Nat) (i : Nat) : Nat → Nat := fun j => if 6 ≤ j ∧ j < i then V j else b j
theorem mkL_6 (b V : Nat → Nat) : mkL b V 6 = b := by funext j; unfold mkL; rw [if_neg (by omega)]
theorem mkL_s (b V : Nat → Nat) {i : Nat} (hi : 6 ≤ i) : va_up (mkL b V i) i (V i) = mkL b V (i + 1) := by
  funext j
  unfold va_up mkL
  by_cases h : j = i
  · rw [if_pos h, if_pos (by omega), h]
  · rw [if_neg h]
    by_cases h2 : 6 ≤ j ∧ j < i
    · rw [if_pos h2, if_pos (by omega)]
    · rw [if_neg h2, if_neg (by omega)]
theorem mkL_lt {b V : Nat → Nat} (hb : ∀ j, b j < 256) (hV : ∀ j, V j < 256) (i : Nat) : ∀ j, mkL b V i j < 256 := by
  intro j
  unfold mkL
  split
  · exact hV j
  · exact hb j
/-- the first six bytes of a head -/
def hd6 (c : Nat → Nat) (st n m rp : Nat) : Nat → Nat := va_up (va_up (va_up (va_up (va_up (va_up c 0 86) 1 83) 2 st) 3 n) 4 m) 5 rp
theorem hd6_lt {c : Nat → Nat} (hc : ∀ j, c j < 256) {st n m rp : Nat} (h1 : st < 256) (h2 : n < 256) (h3 : m < 256) (h4 : rp < 256) : ∀ j, hd6 c st n m rp j < 256 := va_up_lt (va_up_lt (va_up_lt (va_up_lt (va_up_lt (va_up_lt hc (by decide)) (by decide)) h1) h2) h3) h4
/-- volume n -/
def vlN (c pb ln sn : Nat → Nat) (w m n st rp sz : Nat) : Nat → Nat := sealN (mkL (hd6 c st n m rp) (mkV pb ln sn w m n) sz) sz
theorem vlN_lt {c pb ln sn : Nat → Nat} (hc : ∀ j, c j < 256) (hp : ∀ j, pb j < 256) (hl : ∀ j, ln j < 256) (hs : ∀ j, sn j < 256) {w m n st rp sz : Nat} (h1 : st < 256) (h2 : n < 256) (h3 : m < 256) (h4 : rp < 256) : ∀ j, vlN c pb ln sn w m n st rp sz j < 256 := sealN_lt (mkL_lt (hd6_lt hc h1 h2 h3 h4) (mkV_lt hp hl hs w m n) sz) sz
