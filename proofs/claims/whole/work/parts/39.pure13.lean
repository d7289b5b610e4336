/-! opening by jumps; the elimination, column by column; its pivots -/
theorem sbK_y {ln sn : Nat → Nat} {m n : Nat} (hn : n < m) (h : sn n < ln n) : sbK ln sn m (m - n) = some n := by
  rw [show m - n = (m - (n + 1)) + 1 by omega, sbK, show m - (m - (n + 1) + 1) = n by omega, if_pos h]
theorem sbK_n {ln sn : Nat → Nat} {m n : Nat} (hn : n < m) (h : ¬ sn n < ln n) : sbK ln sn m (m - n) = sbK ln sn m (m - (n + 1)) := by
  rw [show m - n = (m - (n + 1)) + 1 by omega, sbK, show m - (m - (n + 1) + 1) = n by omega, if_neg h]
theorem nk_fuel {ln sn : Nat → Nat} {m w : Nat} (hw : 0 < w) : ∀ (f f' p : Nat), m - p / w < f → m - p / w < f' → nk ln sn m w f p = nk ln sn m w f' p
  | 0, _, _, h, _ => absurd h (by omega)
  | _ + 1, 0, _, _, h => absurd h (by omega)
  | f + 1, f' + 1, p, h1, h2 => by
    by_cases c : kN ln m w p
    · rw [nk_yes c, nk_yes c]
    · cases hs : sbK ln sn m (m - (p / w + 1)) with
      | none => rw [nk_none c hs, nk_none c hs]
      | some n =>
        have h3 := sbK_some (Nat.sub_le _ _) hs
        have h4 : n ≤ (n * w + sn n) / w := by rw [Nat.le_div_iff_mul_le hw]; omega
        rw [nk_some c hs, nk_some c hs]
        clear hs c
        generalize p / w = a at *
        generalize hb : (n * w + sn n) / w = b at *
        exact nk_fuel hw f f' _ (by rw [hb]; omega) (by rw [hb]; omega)
theorem nk_jump {ln sn : Nat → Nat} {m w p n : Nat} (hw : 0 < w) (hm : m ≤ 60) (c : ¬ kN ln m w p) (hs : sbK ln sn m (m - (p / w + 1)) = some n) : nk ln sn m w 61 p = nk ln sn m w 61 (n * w + sn n) := by
  have h3 := sbK_some (Nat.sub_le _ _) hs
  have h4 : n ≤ (n * w + sn n) / w := by rw [Nat.le_div_iff_mul_le hw]; omega
  rw [nk_some c hs]
  clear hs c
  generalize p / w = a at *
  generalize hb : (n * w + sn n) / w = b at *
  exact nk_fuel hw 60 61 _ (by rw [hb]; omega) (by rw [hb]; omega)
/-- two arrays of rows agree in the first un columns, and column c of one is column d of the other -/
def elR (un c d : Nat) (R S : Nat → Nat → Nat) : Prop := ∀ i, i < un → (∀ b, b < un → R i b = S i b) ∧ R i c = S i d
theorem elR_sc {un c d q f : Nat} {R S : Nat → Nat → Nat} (h : elR un c d R S) (hc : c < 83) (hd : d < 83) (hun : un ≤ 3) : elR un c d (scA R q f) (scA S q f) := by
  intro i hi
  unfold scA
  by_cases e : i = q
  · subst e
    rw [va_up_s, va_up_s]
    refine ⟨fun b hb => ?_, ?_⟩
    · unfold scL; rw [if_pos (by omega), if_pos (by omega), (h i hi).1 b hb]
    · unfold scL; rw [if_pos hc, if_pos hd, (h i hi).2]
  · rw [va_up_n _ _ e, va_up_n _ _ e]; exact h i hi
theorem elR_ad {un c d o q f : Nat} {R S : Nat → Nat → Nat} (h : elR un c d R S) (hc : c < 83) (hd : d < 83) (hun : un ≤ 3) (hq : q < un) : elR un c d (adA R o q f) (adA S o q f) := by
  intro i hi
  unfold adA
  by_cases e : i = o
  · subst e
    rw [va_up_s, va_up_s]
    refine ⟨fun b hb => ?_, ?_⟩
    · unfold adL; rw [if_pos (by omega), if_pos (by omega), (h i hi).1 b hb, (h q hq).1 b hb]
    · unfold adL; rw [if_pos hc, if_pos hd, (h i hi).2, (h q hq).2]
  · rw [va_up_n _ _ e, va_up_n _ _ e]; exact h i hi
theorem elR_I {un c d q : Nat} {R S : Nat → Nat → Nat} (h : elR un c d R S) (hc : c < 83) (hd : d < 83) (hun : un ≤ 3) (hq : q < un) : ∀ o, o ≤ un → elR un c d (elI R q o) (elI S q o)
  | 0, _ => h
  | o + 1, ho => by
    have ih := elR_I h hc hd hun hq o (by omega)
    unfold elI
    by_cases e : o = q
    · rw [if_pos e, if_pos e]; exact ih
    · rw [if_neg e, if_neg e, (ih o (by omega)).1 q hq]; exact elR_ad ih hc hd hun hq
theorem elR_O {un c d : Nat} {R S : Nat → Nat → Nat} (h : elR un c d R S) (hc : c < 83) (hd : d < 83) (hun : un ≤ 3) : ∀ q, q ≤ un → elR un c d (elO R un q) (elO S un q)
  | 0, _ => h
  | q + 1, hq => by
    have ih := elR_O h hc hd hun q (by omega)
    unfold elO
    rw [(ih q (by omega)).1 q (by omega)]
    exact elR_I (elR_sc ih hc hd hun) hc hd hun (by omega) un (Nat.le_refl _)
theorem elI_at {S : Nat → Nat → Nat} {q : Nat} (hq : q < 83) : ∀ o i c, c < 83 → elI S q o i c = if i < o ∧ i ≠ q then S i c ^^^ pdN (S q c) (S i q) else S i c
  | 0, i, c, _ => by rw [if_neg (by omega)]; rfl
  | o + 1, i, c, hc => by
    have ih := elI_at (S := S) (q := q) hq o
    unfold elI
    by_cases e : o = q
    · rw [if_pos e, ih i c hc]
      by_cases h : i < o ∧ i ≠ q
      · rw [if_pos h, if_pos (by omega)]
      · rw [if_neg h, if_neg (by omega)]
    · rw [if_neg e]
      unfold adA
      by_cases e2 : i = o
      · subst e2
        rw [va_up_s]
        unfold adL
        rw [if_pos hc, ih i c hc, ih q c hc, ih i q hq, if_neg (by omega), if_neg (by omega), if_neg (by omega), if_pos (by omega)]
      · rw [va_up_n _ _ e2, ih i c hc]
        by_cases h : i < o ∧ i ≠ q
        · rw [if_pos h, if_pos (by omega)]
        · rw [if_neg h, if_neg (by omega)]
theorem elO_o {R : Nat → Nat → Nat} {un q i c : Nat} (hun : un ≤ 3) (hi : i < un) (hq : q < un) (hiq : i ≠ q) (hc : c < 83) : elO R un (q + 1) i c = elO R un q i c ^^^ pdN (pdN (elO R un q q c) (ivN (elO R un q q q))) (elO R un q i q) := by
  rw [elO, elI_at (by omega) un i c hc, if_pos ⟨hi, hiq⟩]
  unfold scA
  rw [va_up_n _ _ hiq, va_up_s]
  unfold scL
  rw [if_pos hc]
theorem pd_tt (a b : Nat) : pdN (twsN 1 a) (twsN 1 b) = twsN 1 (a + b) := by rw [pd_pw (tws_lt (by decide) a), tws_add]
theorem pd_sq {a b : Nat} (ha : a < 256) (hb : b < 256) : pdN (a ^^^ b) (a ^^^ b) = pdN a a ^^^ pdN b b := by
  rw [pd_xl ha hb, pd_xr, pd_xr, pd_comm hb ha, Nat.xor_assoc, ← Nat.xor_assoc (pdN a b) (pdN a b), Nat.xor_self, Nat.zero_xor]
theorem xor_0 {a b : Nat} (h : a ^^^ b = 0) : a = b := by
  have h2 : (a ^^^ b) ^^^ b = 0 ^^^ b := by rw [h]
  rw [Nat.xor_assoc, Nat.xor_self, Nat.xor_zero, Nat.zero_xor] at h2
  exact h2
theorem iv_1 {p : Nat} (hp : p < 256) (h : p ≠ 0) : pdN (ivN p) p = 1 := by rw [iv_ov hp h]; exact ov_inv hp h
/-- powers: rows j of columns n -/
def pwR (un : Nat) (J N : Nat → Nat) (R : Nat → Nat → Nat) : Prop := ∀ i b, i < un → b < un → R i b = twsN 1 (J i * N b)
theorem tw1 (k : Nat) : twsN 1 k < 256 := tws_lt (by decide) k
theorem piv0 {un : Nat} {J N : Nat → Nat} {R : Nat → Nat → Nat} (h : pwR un J N R) (hu : 0 < un) : elO R un 0 0 0 ≠ 0 := by
  show R 0 0 ≠ 0
  rw [h 0 0 hu hu]
  exact tws_nz (by decide) (by decide) _
theorem piv1 {un : Nat} {J N : Nat → Nat} {R : Nat → Nat → Nat} (h : pwR un J N R) (hu : 1 < un) (hun : un ≤ 3) (hJ : J 0 < J 1) (hJ2 : J 1 < 3) (hN : N 0 < N 1) (hN2 : N 1 < 60) : elO R un 1 1 1 ≠ 0 := by
  rw [elO_o hun hu (by omega) (by decide) (by decide)]
  show R 1 1 ^^^ pdN (pdN (R 0 1) (ivN (R 0 0))) (R 1 0) ≠ 0
  rw [h 1 1 hu hu, h 0 1 (by omega) hu, h 1 0 hu (by omega), h 0 0 (by omega) (by omega)]
  intro e
  have e := xor_0 e
  have l0 := tw1 (J 0 * N 0)
  have n0 : twsN 1 (J 0 * N 0) ≠ 0 := tws_nz (by decide) (by decide) _
  have iv := ivN_lt (twsN 1 (J 0 * N 0))
  have e2 : pdN (twsN 1 (J 1 * N 1)) (twsN 1 (J 0 * N 0)) = pdN (twsN 1 (J 0 * N 1)) (twsN 1 (J 1 * N 0)) := by
    rw [e, pd_assoc (pd_lt (tw1 _) iv) (tw1 _) l0, pd_comm (tw1 (J 1 * N 0)) l0, ← pd_assoc (pd_lt (tw1 _) iv) l0 (tw1 _), pd_assoc (tw1 _) iv l0, iv_1 l0 n0, pd_1 _ (tw1 _)]
  rw [pd_tt, pd_tt] at e2
  have hj : (J 0 = 0 ∧ J 1 = 1) ∨ (J 0 = 0 ∧ J 1 = 2) ∨ (J 0 = 1 ∧ J 1 = 2) := by omega
  rcases hj with ⟨a, b⟩ | ⟨a, b⟩ | ⟨a, b⟩ <;> rw [a, b] at e2
  · exact tws_inj (i := 0 * N 1 + 1 * N 0) (j := 1 * N 1 + 0 * N 0) (by omega) (by omega) e2.symm
  · exact tws_inj (i := 0 * N 1 + 2 * N 0) (j := 2 * N 1 + 0 * N 0) (by omega) (by omega) e2.symm
  · exact tws_inj (i := 1 * N 1 + 2 * N 0) (j := 2 * N 1 + 1 * N 0) (by omega) (by omega) e2.symm
theorem piv2 {J N : Nat → Nat} {R : Nat → Nat → Nat} (h : pwR 3 J N R) (h0 : J 0 = 0) (h1 : J 1 = 1) (h2 : J 2 = 2) (hN : N 0 < N 1) (hN1 : N 1 < N 2) (hN2 : N 2 < 60) : elO R 3 2 2 2 ≠ 0 := by
  have t1 : twsN 1 0 = 1 := rfl
  have i1 : ivN 1 = 1 := by
    have := iv_1 (p := 1) (by decide) (by decide)
    rw [pd_1 _ (ivN_lt 1)] at this
    exact this
  have r0 : ∀ b, b < 3 → R 0 b = 1 := fun b hb => by rw [h 0 b (by decide) hb, h0, Nat.zero_mul]; rfl
  have r1 : ∀ b, b < 3 → R 1 b = twsN 1 (N b) := fun b hb => by rw [h 1 b (by decide) hb, h1, Nat.one_mul]
  have r2 : ∀ b, b < 3 → R 2 b = pdN (twsN 1 (N b)) (twsN 1 (N b)) := fun b hb => by rw [h 2 b (by decide) hb, h2, pd_tt, Nat.two_mul]
  have X1 : ∀ c, c < 3 → elO R 3 1 1 c = twsN 1 (N c) ^^^ twsN 1 (N 0) := fun c hc => by
    rw [elO_o (by decide) (by decide) (by decide) (by decide) (by omega)]
    show R 1 c ^^^ pdN (pdN (R 0 c) (ivN (R 0 0))) (R 1 0) = _
    rw [r0 c hc, r0 0 (by decide), i1, r1 c hc, r1 0 (by decide), pd_1 1 (by decide), pd_1l (tw1 _)]
  have X2 : ∀ c, c < 3 → elO R 3 1 2 c = pdN (twsN 1 (N c) ^^^ twsN 1 (N 0)) (twsN 1 (N c) ^^^ twsN 1 (N 0)) := fun c hc => by
    rw [elO_o (by decide) (by decide) (by decide) (by decide) (by omega)]
    show R 2 c ^^^ pdN (pdN (R 0 c) (ivN (R 0 0))) (R 2 0) = _
    rw [r0 c hc, r0 0 (by decide), i1, r2 c hc, r2 0 (by decide), pd_1 1 (by decide), pd_1l (pd_lt (tw1 _) (tw1 _)), pd_sq (tw1 _) (tw1 _)]
  rw [elO_o (by decide) (by decide) (by decide) (by decide) (by decide), X1 2 (by decide), X1 1 (by decide), X2 2 (by decide), X2 1 (by decide)]
  have A8 := xor_lt8 (tw1 (N 2)) (tw1 (N 0))
  have B8 := xor_lt8 (tw1 (N 1)) (tw1 (N 0))
  have nA : twsN 1 (N 2) ^^^ twsN 1 (N 0) ≠ 0 := fun e => tws_inj (i := N 0) (j := N 2) (by omega) (by omega) (xor_0 e).symm
  have nB : twsN 1 (N 1) ^^^ twsN 1 (N 0) ≠ 0 := fun e => tws_inj (i := N 0) (j := N 1) (by omega) (by omega) (xor_0 e).symm
  have nC : twsN 1 (N 2) ≠ twsN 1 (N 1) := fun e => tws_inj (i := N 1) (j := N 2) (by omega) (by omega) e.symm
  generalize hA : twsN 1 (N 2) ^^^ twsN 1 (N 0) = A at *
  generalize hB : twsN 1 (N 1) ^^^ twsN 1 (N 0) = B at *
  intro e
  have e := xor_0 e
  have iv := ivN_lt B
  have e2 : pdN A A = pdN B A := by
    rw [e, pd_assoc A8 iv (pd_lt B8 B8), ← pd_assoc iv B8 B8, iv_1 B8 nB, pd_1l B8, pd_comm A8 B8]
  have e3 := pd_can A8 B8 A8 nA e2
  rw [← hA, ← hB] at e3
  refine nC ?_
  have e4 : (twsN 1 (N 2) ^^^ twsN 1 (N 0)) ^^^ twsN 1 (N 0) = (twsN 1 (N 1) ^^^ twsN 1 (N 0)) ^^^ twsN 1 (N 0) := by rw [e3]
  rw [Nat.xor_assoc, Nat.xor_assoc, Nat.xor_self, Nat.xor_zero, Nat.xor_zero] at e4
  exact e4
/-- no pivot is 0 -/
theorem piv {un : Nat} {J N : Nat → Nat} {R : Nat → Nat → Nat} (h : pwR un J N R) (hun : un ≤ 3) (hJ : ∀ i, i + 1 < un → J i < J (i + 1)) (hJ2 : ∀ i, i < un → J i < 3) (hN : ∀ i, i + 1 < un → N i < N (i + 1)) (hN2 : ∀ i, i < un → N i < 60) : ∀ q, q < un → elO R un q q q ≠ 0 := by
  intro q hq
  match q, hq with
  | 0, hq => exact piv0 h hq
  | 1, hq => exact piv1 h hq hun (hJ 0 hq) (hJ2 1 hq) (hN 0 hq) (hN2 1 hq)
  | 2, hq =>
    obtain rfl : un = 3 := by omega
    have a1 := hJ 0 (by decide)
    have a2 := hJ 1 (by decide)
    have a3 := hJ2 2 (by decide)
    have a4 : J 0 < J 1 := a1
    have a5 : J 1 < J 2 := a2
    exact piv2 h (by omega) (by omega) (by omega) (hN 0 (by decide)) (hN 1 (by decide)) (hN2 2 (by decide))
  | q + 3, hq => exact absurd hq (by omega)
