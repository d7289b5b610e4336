def mkV (pb ln sn : Nat → Nat) (w m n j : Nat) : Nat := if n < m then ptN pb ln sn w n j else horN (fun k => ptN pb ln sn w k j) (n - m) m m
theorem mkV_lt {pb ln sn : Nat → Nat} (hp : ∀ j, pb j < 256) (hl : ∀ j, ln j < 256) (hs : ∀ j, sn j < 256) (w m n j : Nat) : mkV pb ln sn w m n j < 256 := by
  unfold mkV
  split
  · exact ptN_lt hp hl hs w n j
  · exact (hor_nI (fun k => ptN_lt hp hl hs w k j) (n - m) m m).2
def mkL (b V : Nat → Nat) (i : Nat) : Nat → Nat := fun j => if 6 ≤ j ∧ j < i then V j else b j
theorem mkL_6 (b V : Nat → Nat) : mkL b V 6 = b := by funext j; unfold mkL; rw [if_neg (by omega)]
theorem mkL_s (b V : Nat → Nat) {i : Nat} (hi : 6 ≤ i) : va_up (mkL b V i) i (V i) = mkL b V (i + 1) := by
  funext j
  unfold va_up mkL
  by_cases h : j = i
  · rw [if_pos h, if_pos (by omega), h]
  · rw [if_neg h]
    by_cases h2 : 6 ≤ j ∧ j < i
    · rw [if_pos h2, if_pos (by omega)]
    · rw [if_neg h2, if_neg (by omega)]
theorem mkL_lt {b V : Nat → Nat} (hb : ∀ j, b j < 256) (hV : ∀ j, V j < 256) (i : Nat) : ∀ j, mkL b V i j < 256 := by
  intro j
  unfold mkL
  split
  · exact hV j
  · exact hb j
/-- the first six bytes of a head -/
def hd6 (c : Nat → Nat) (st n m rp : Nat) : Nat → Nat := va_up (va_up (va_up (va_up (va_up (va_up c 0 86) 1 83) 2 st) 3 n) 4 m) 5 rp
theorem hd6_lt {c : Nat → Nat} (hc : ∀ j, c j < 256) {st n m rp : Nat} (h1 : st < 256) (h2 : n < 256) (h3 : m < 256) (h4 : rp < 256) : ∀ j, hd6 c st n m rp j < 256 := va_up_lt (va_up_lt (va_up_lt (va_up_lt (va_up_lt (va_up_lt hc (by decide)) (by decide)) h1) h2) h3) h4
/-- volume n -/
def vlN (c pb ln sn : Nat → Nat) (w m n st rp sz : Nat) : Nat → Nat := sealN (mkL (hd6 c st n m rp) (mkV pb ln sn w m n) sz) sz
theorem vlN_lt {c pb ln sn : Nat → Nat} (hc : ∀ j, c j < 256) (hp : ∀ j, pb j < 256) (hl : ∀ j, ln j < 256) (hs : ∀ j, sn j < 256) {w m n st rp sz : Nat} (h1 : st < 256) (h2 : n < 256) (h3 : m < 256) (h4 : rp < 256) : ∀ j, vlN c pb ln sn w m n st rp sz j < 256 := sealN_lt (mkL_lt (hd6_lt hc h1 h2 h3 h4) (mkV_lt hp hl hs w m n) sz) sz
theorem psN_ext {b b' : Nat → Nat} {s i X : Nat} (h : ∀ j, j < s → b j = b' j) : ∀ j, j < s → psN b i X j = psN b' i X j := by
  intro j hj
  unfold psN va_up
  split
  · rfl
  · split
    · rfl
    · exact h j hj
theorem sealN_ext {b b' : Nat → Nat} {s : Nat} (hs : 12 ≤ s) (h : ∀ j, j < s → b j = b' j) : ∀ j, j < s → sealN b s j = sealN b' s j := by
  have e1 : suN b 12 (s - 12) = suN b' 12 (s - 12) := suN_ext (fun i hi => h (12 + i) (by omega))
  have h1 : ∀ j, j < s → psN b 8 (suN b 12 (s - 12)) j = psN b' 8 (suN b' 12 (s - 12)) j := by rw [e1]; exact psN_ext h
  have e2 : suN (psN b 8 (suN b 12 (s - 12))) 0 10 = suN (psN b' 8 (suN b' 12 (s - 12))) 0 10 := suN_ext (fun i hi => h1 (0 + i) (by omega))
  unfold sealN
  rw [e2]
  exact psN_ext h1
theorem hd6_ext (c c' : Nat → Nat) (st n m rp : Nat) : ∀ j, j < 6 → hd6 c st n m rp j = hd6 c' st n m rp j := by
  intro j hj
  unfold hd6 va_up
  repeat' split
  all_goals first | rfl | omega
theorem vlN_ext (c c' pb ln sn : Nat → Nat) {w m n st rp sz : Nat} (hs : 12 ≤ sz) : ∀ j, j < sz → vlN c pb ln sn w m n st rp sz j = vlN c' pb ln sn w m n st rp sz j := by
  unfold vlN
  refine sealN_ext hs (fun j hj => ?_)
  unfold mkL
  by_cases h6 : 6 ≤ j
  · rw [if_pos ⟨h6, hj⟩, if_pos ⟨h6, hj⟩]
  · rw [if_neg (by omega), if_neg (by omega)]
    exact hd6_ext c c' st n m rp j (by omega)
/-- a slot has just these bytes -/
def hld (ss : Nat → Nat) (sb : Nat → Nat → Nat) (sz : Nat) (b : Nat → Nat) : Prop := ∃ k, k < 60 ∧ smN (ss k) sz (sb k) b
theorem hld_ext {ss : Nat → Nat} {sb sb' : Nat → Nat → Nat} {sz : Nat} {b b' : Nat → Nat} (h1 : ∀ k j, k < 60 → j < ss k → sb k j = sb' k j) (h2 : ∀ j, j < sz → b j = b' j) : hld ss sb sz b ↔ hld ss sb' sz b' := by
  constructor
  · rintro ⟨k, hk, he, hj⟩
    exact ⟨k, hk, he, fun i hi => by rw [← h1 k i hk hi, ← h2 i (by omega)]; exact hj i hi⟩
  · rintro ⟨k, hk, he, hj⟩
    exact ⟨k, hk, he, fun i hi => by rw [h1 k i hk hi, h2 i (by omega)]; exact hj i hi⟩
def Agr (ss : Nat → Nat) (sb sb' : Nat → Nat → Nat) : Prop := ∀ k j, k < 60 → j < ss k → sb k j = sb' k j
/-- a volume of sz bytes b goes into the least empty slot, if there is one -/
noncomputable def putA (ss : Nat → Nat) (sb : Nat → Nat → Nat) (sz : Nat) (b : Nat → Nat) : (Nat → Nat) × (Nat → Nat → Nat) := match fst' (fun k => ss k = 0) 60 60 with
  | none => (ss, sb)
  | some k => (va_up ss k sz, va_up sb k (fun j => if j < sz then b j else 0))
theorem putA_some {ss : Nat → Nat} {sb : Nat → Nat → Nat} {sz : Nat} {b : Nat → Nat} {k : Nat} (h : fst' (fun k => ss k = 0) 60 60 = some k) : putA ss sb sz b = (va_up ss k sz, va_up sb k (fun j => if j < sz then b j else 0)) := by unfold putA; rw [h]
theorem putA_none {ss : Nat → Nat} {sb : Nat → Nat → Nat} {sz : Nat} {b : Nat → Nat} (h : fst' (fun k => ss k = 0) 60 60 = none) : putA ss sb sz b = (ss, sb) := by unfold putA; rw [h]
/-- WRITING: r of N volumes are left; slots, bytes, how many were written -/
noncomputable def wrK (V : Nat → Nat → Nat) (sz N pw : Nat) : Nat → (Nat → Nat) × (Nat → Nat → Nat) × Nat → (Nat → Nat) × (Nat → Nat → Nat) × Nat
  | 0, x => x
  | r + 1, x => @ite _ (hld x.1 x.2.1 sz (V (N - (r + 1)))) (Classical.propDecidable _) (wrK V sz N pw r x)
      (if x.2.2 = pw then ((putA x.1 x.2.1 sz (zrN (V (N - (r + 1))) (sz / 2) sz)).1, (putA x.1 x.2.1 sz (zrN (V (N - (r + 1))) (sz / 2) sz)).2, x.2.2)
       else wrK V sz N pw r ((putA x.1 x.2.1 sz (V (N - (r + 1)))).1, (putA x.1 x.2.1 sz (V (N - (r + 1)))).2, x.2.2 + 1))
theorem wrK_h {V : Nat → Nat → Nat} {sz N pw n : Nat} {x : (Nat → Nat) × (Nat → Nat → Nat) × Nat} (hn : n < N) (h : hld x.1 x.2.1 sz (V n)) : wrK V sz N pw (N - n) x = wrK V sz N pw (N - (n + 1)) x := by
  rw [show N - n = (N - (n + 1)) + 1 by omega, wrK, show N - (N - (n + 1) + 1) = n by omega, if_pos h]
theorem wrK_c {V : Nat → Nat → Nat} {sz N pw n : Nat} {x : (Nat → Nat) × (Nat → Nat → Nat) × Nat} (hn : n < N) (h : ¬ hld x.1 x.2.1 sz (V n)) (hp : x.2.2 = pw) : wrK V sz N pw (N - n) x = ((putA x.1 x.2.1 sz (zrN (V n) (sz / 2) sz)).1, (putA x.1 x.2.1 sz (zrN (V n) (sz / 2) sz)).2, x.2.2) := by
  rw [show N - n = (N - (n + 1)) + 1 by omega, wrK, show N - (N - (n + 1) + 1) = n by omega, if_neg h, if_pos hp]
theorem wrK_w {V : Nat → Nat → Nat} {sz N pw n : Nat} {x : (Nat → Nat) × (Nat → Nat → Nat) × Nat} (hn : n < N) (h : ¬ hld x.1 x.2.1 sz (V n)) (hp : ¬ x.2.2 = pw) : wrK V sz N pw (N - n) x = wrK V sz N pw (N - (n + 1)) ((putA x.1 x.2.1 sz (V n)).1, (putA x.1 x.2.1 sz (V n)).2, x.2.2 + 1) := by
  rw [show N - n = (N - (n + 1)) + 1 by omega, wrK, show N - (N - (n + 1) + 1) = n by omega, if_neg h, if_neg hp]
/-- the class's slots behind a put -/
theorem Agr_put {ss : Nat → Nat} {sbC sb : Nat → Nat → Nat} {sz k : Nat} {c b : Nat → Nat} (h : Agr ss sbC sb) (hsz : sz ≤ 80) (hc : ∀ j, j < sz → c j = b j) : Agr (va_up ss k sz) (va_up sbC k (cpN c (sbC k))) (va_up sb k (fun j => if j < sz then b j else 0)) := by
  intro i j hi hj
  by_cases hik : i = k
  · subst hik
    rw [va_up_s] at hj ⊢
    rw [va_up_s]
    unfold cpN
    rw [if_pos (by omega), if_pos hj]
    exact hc j hj
  · rw [va_up_n _ _ hik] at hj ⊢
    rw [va_up_n _ _ hik]
    exact h i j hi hj
theorem ite10 {P : Prop} : ((@ite Int32 P (Classical.propDecidable _) 1 0) = 0) ↔ ¬ P := by
  by_cases h : P
  · rw [if_pos h]
    exact ⟨fun q => absurd q (by decide), fun q => absurd h q⟩
  · rw [if_neg h]
    exact ⟨fun _ => h, fun _ => rfl⟩
theorem zrN_ext {b b' : Nat → Nat} {s lo hi : Nat} (h : ∀ j, j < s → b j = b' j) : ∀ j, j < s → zrN b lo hi j = zrN b' lo hi j := by
  intro j hj
  unfold zrN
  split
  · rfl
  · exact h j hj
theorem zrN_lt {b : Nat → Nat} (hb : ∀ j, b j < 256) (lo hi : Nat) : ∀ j, zrN b lo hi j < 256 := by
  intro j
  unfold zrN
  split
  · decide
  · exact hb j
theorem putA_le {ss : Nat → Nat} {sb : Nat → Nat → Nat} {sz : Nat} {b : Nat → Nat} (h : ∀ k, ss k ≤ 80) (hs : sz ≤ 80) : ∀ k, (putA ss sb sz b).1 k ≤ 80 := by
  unfold putA
  split
  · exact h
  · intro k
    show va_up _ _ _ k ≤ 80
    unfold va_up
    split
    · exact hs
    · exact h k
