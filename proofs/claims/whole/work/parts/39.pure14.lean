/-! reading: what is missing, by what it is made again, and that both sides make the same -/
theorem un_lt {nu : Nat → Nat} {pl : Nat → Option Nat} : ∀ n u, u < cnt (fun j => pl j = none) n → unK nu pl n u < n ∧ pl (unK nu pl n u) = none
  | 0, u, h => absurd h (by show ¬ u < 0; omega)
  | n + 1, u, h => by
    by_cases c : pl n = none
    · rw [cnt_y (P := fun j => pl j = none) c] at h
      rw [unK_y c]
      by_cases e : u = cnt (fun j => pl j = none) n
      · rw [e, va_up_s]; exact ⟨by omega, c⟩
      · rw [va_up_n _ _ e]
        have := un_lt (nu := nu) (pl := pl) n u (by omega)
        exact ⟨by omega, this.2⟩
    · rw [cnt_n (P := fun j => pl j = none) c] at h
      rw [unK_n c]
      have := un_lt (nu := nu) (pl := pl) n u h
      exact ⟨by omega, this.2⟩
theorem un_mono {nu : Nat → Nat} {pl : Nat → Option Nat} : ∀ n u v, u < v → v < cnt (fun j => pl j = none) n → unK nu pl n u < unK nu pl n v
  | 0, u, v, _, h => absurd h (by show ¬ v < 0; omega)
  | n + 1, u, v, h1, h => by
    by_cases c : pl n = none
    · rw [cnt_y (P := fun j => pl j = none) c] at h
      rw [unK_y c, va_up_n _ _ (show u ≠ cnt (fun j => pl j = none) n by omega)]
      by_cases e : v = cnt (fun j => pl j = none) n
      · rw [e, va_up_s]; exact (un_lt (nu := nu) (pl := pl) n u (by omega)).1
      · rw [va_up_n _ _ e]; exact un_mono n u v h1 (by omega)
    · rw [cnt_n (P := fun j => pl j = none) c] at h
      rw [unK_n c]; exact un_mono n u v h1 h
theorem un_ext {nu nu' : Nat → Nat} {pl : Nat → Option Nat} : ∀ n u, u < cnt (fun j => pl j = none) n → unK nu pl n u = unK nu' pl n u
  | 0, u, h => absurd h (by show ¬ u < 0; omega)
  | n + 1, u, h => by
    by_cases c : pl n = none
    · rw [cnt_y (P := fun j => pl j = none) c] at h
      rw [unK_y c, unK_y c]
      by_cases e : u = cnt (fun j => pl j = none) n
      · rw [e, va_up_s, va_up_s]
      · rw [va_up_n _ _ e, va_up_n _ _ e]; exact un_ext n u (by omega)
    · rw [cnt_n (P := fun j => pl j = none) c] at h
      rw [unK_n c, unK_n c]; exact un_ext n u h
theorem un_on {nu : Nat → Nat} {pl : Nat → Option Nat} : ∀ n k, k < n → pl k = none → ∃ u, u < cnt (fun j => pl j = none) n ∧ unK nu pl n u = k
  | 0, k, h, _ => absurd h (by omega)
  | n + 1, k, h, hp => by
    by_cases c : pl n = none
    · rw [cnt_y (P := fun j => pl j = none) c, unK_y c]
      by_cases e : k = n
      · exact ⟨_, Nat.lt_succ_self _, by rw [va_up_s]; exact e.symm⟩
      · obtain ⟨u, h1, h2⟩ := un_on (nu := nu) n k (by omega) hp
        exact ⟨u, by omega, by rw [va_up_n _ _ (by omega)]; exact h2⟩
    · rw [cnt_n (P := fun j => pl j = none) c, unK_n c]
      exact un_on n k (by rcases Nat.lt_or_ge k n with q | q; exact q; exact absurd hp (by rw [show k = n by omega]; exact c)) hp
theorem unK_lt60 {nu : Nat → Nat} {pl : Nat → Option Nat} (h : ∀ j, nu j < 60) : ∀ n, n ≤ 60 → ∀ j, unK nu pl n j < 60
  | 0, _ => h
  | n + 1, hn => by
    intro j
    by_cases c : pl n = none
    · rw [unK_y c]
      unfold va_up
      split
      · omega
      · exact unK_lt60 h n (by omega) j
    · rw [unK_n c]; exact unK_lt60 h n (by omega) j
/-- by which repairs -/
noncomputable def byS (pl : Nat → Option Nat) (m ms : Nat) (bb : Nat → Nat) : Nat → (Nat → Nat) × Nat
  | 0 => (bb, 0)
  | j + 1 => @ite _ (pl (m + j) ≠ none ∧ (byS pl m ms bb j).2 < ms) (Classical.propDecidable _) (va_up (byS pl m ms bb j).1 (byS pl m ms bb j).2 j, (byS pl m ms bb j).2 + 1) (byS pl m ms bb j)
theorem byS_y {pl : Nat → Option Nat} {m ms : Nat} {bb : Nat → Nat} {j : Nat} (h : pl (m + j) ≠ none) (h2 : (byS pl m ms bb j).2 < ms) : byS pl m ms bb (j + 1) = (va_up (byS pl m ms bb j).1 (byS pl m ms bb j).2 j, (byS pl m ms bb j).2 + 1) := by rw [byS]; exact if_pos ⟨h, h2⟩
theorem byS_n {pl : Nat → Option Nat} {m ms : Nat} {bb : Nat → Nat} {j : Nat} (h : ¬ (pl (m + j) ≠ none ∧ (byS pl m ms bb j).2 < ms)) : byS pl m ms bb (j + 1) = byS pl m ms bb j := by rw [byS]; exact if_neg h
theorem by_all {pl : Nat → Option Nat} {m ms : Nat} {bb : Nat → Nat} : ∀ j, (byS pl m ms bb j).2 = min ms (cnt (fun i => pl (m + i) ≠ none) j) ∧ (∀ a, a < (byS pl m ms bb j).2 → (byS pl m ms bb j).1 a < j ∧ pl (m + (byS pl m ms bb j).1 a) ≠ none) ∧ ∀ a b, a < b → b < (byS pl m ms bb j).2 → (byS pl m ms bb j).1 a < (byS pl m ms bb j).1 b
  | 0 => ⟨by show 0 = min ms 0; omega, fun a h => absurd h (by show ¬ a < 0; omega), fun a b _ h => absurd h (by show ¬ b < 0; omega)⟩
  | j + 1 => by
    obtain ⟨i1, i2, i3⟩ := by_all (pl := pl) (m := m) (ms := ms) (bb := bb) j
    by_cases c : pl (m + j) ≠ none
    · rw [cnt_y (P := fun i => pl (m + i) ≠ none) c]
      by_cases c2 : (byS pl m ms bb j).2 < ms
      · rw [byS_y c c2]
        refine ⟨by show _ + 1 = _; omega, fun a ha => ?_, fun a b hab hb => ?_⟩
        · have ha' : a < (byS pl m ms bb j).2 + 1 := ha
          show va_up _ _ _ a < _ ∧ pl (m + va_up _ _ _ a) ≠ none
          by_cases e : a = (byS pl m ms bb j).2
          · rw [e, va_up_s]; exact ⟨by omega, c⟩
          · rw [va_up_n _ _ e]
            have := i2 a (by omega)
            exact ⟨by omega, this.2⟩
        · have hb' : b < (byS pl m ms bb j).2 + 1 := hb
          show va_up _ _ _ a < va_up _ _ _ b
          rw [va_up_n _ _ (show a ≠ (byS pl m ms bb j).2 by omega)]
          by_cases e : b = (byS pl m ms bb j).2
          · rw [e, va_up_s]; exact (i2 a (by omega)).1
          · rw [va_up_n _ _ e]; exact i3 a b hab (by omega)
      · rw [byS_n (fun q => c2 q.2)]
        exact ⟨by omega, fun a ha => ⟨by have := (i2 a ha).1; omega, (i2 a ha).2⟩, i3⟩
    · rw [cnt_n (P := fun i => pl (m + i) ≠ none) c, byS_n (fun q => c q.1)]
      exact ⟨i1, fun a ha => ⟨by have := (i2 a ha).1; omega, (i2 a ha).2⟩, i3⟩
theorem byS_lt {pl : Nat → Option Nat} {m ms : Nat} {bb : Nat → Nat} (h : ∀ j, bb j < 3) : ∀ j, j ≤ 3 → ∀ a, (byS pl m ms bb j).1 a < 3
  | 0, _ => h
  | j + 1, hj => by
    intro a
    have ih := byS_lt (pl := pl) (m := m) (ms := ms) h j (by omega)
    by_cases c : pl (m + j) ≠ none ∧ (byS pl m ms bb j).2 < ms
    · rw [byS_y c.1 c.2]
      show va_up _ _ _ a < 3
      unfold va_up
      split
      · omega
      · exact ih a
    · rw [byS_n c]; exact ih a
/-- the rows of the class's equations -/
theorem rk_row {pl : Nat → Option Nat} {sb : Nat → Nat → Nat} {nu : Nat → Nat} {un ms : Nat} {pb ln sn : Nat → Nat} {w m t : Nat} {rw0 : Nat → Nat → Nat} (bb : Nat → Nat) (hun : un ≤ 3) : ∀ j, (rkS pl sb nu un ms pb ln sn w m t rw0 j).2 = (byS pl m ms bb j).2 ∧ ∀ a, a < (byS pl m ms bb j).2 → ∀ k, pl (m + (byS pl m ms bb j).1 a) = some k → (∀ c, c < un → (rkS pl sb nu un ms pb ln sn w m t rw0 j).1 a c = twsN 1 ((byS pl m ms bb j).1 a * nu c)) ∧ ∀ i, 6 ≤ i → i < t → (rkS pl sb nu un ms pb ln sn w m t rw0 j).1 a (3 + i) = rsN (sb k) pb ln sn w m ((byS pl m ms bb j).1 a) i
  | 0 => ⟨rfl, fun a h => absurd h (by show ¬ a < 0; omega)⟩
  | j + 1 => by
    obtain ⟨i1, i2⟩ := rk_row (pl := pl) (sb := sb) (nu := nu) (un := un) (ms := ms) (pb := pb) (ln := ln) (sn := sn) (w := w) (m := m) (t := t) (rw0 := rw0) bb hun j
    cases c : pl (m + j) with
    | none => rw [rkS_no c, byS_n (fun q => q.1 c)]; exact ⟨i1, i2⟩
    | some k0 =>
      by_cases c2 : (byS pl m ms bb j).2 < ms
      · rw [rkS_yes rfl (by rw [i1]; exact c2) c, byS_y (by rw [c]; exact fun q => by cases q) c2]
        refine ⟨by show _ + 1 = _ + 1; rw [i1], fun a ha k hk => ?_⟩
        have ha' : a < (byS pl m ms bb j).2 + 1 := ha
        have hk' : pl (m + va_up (byS pl m ms bb j).1 (byS pl m ms bb j).2 j a) = some k := hk
        show (∀ c, c < un → (va_up (rkS pl sb nu un ms pb ln sn w m t rw0 j).1 (rkS pl sb nu un ms pb ln sn w m t rw0 j).2 _ : Nat → Nat → Nat) a c = twsN 1 (va_up (byS pl m ms bb j).1 (byS pl m ms bb j).2 j a * nu c)) ∧ ∀ i, 6 ≤ i → i < t → (va_up (rkS pl sb nu un ms pb ln sn w m t rw0 j).1 (rkS pl sb nu un ms pb ln sn w m t rw0 j).2 _ : Nat → Nat → Nat) a (3 + i) = rsN (sb k) pb ln sn w m (va_up (byS pl m ms bb j).1 (byS pl m ms bb j).2 j a) i
        rw [i1]
        by_cases e : a = (byS pl m ms bb j).2
        · rw [e] at hk' ⊢
          rw [va_up_s] at hk'
          rw [va_up_s, va_up_s]
          rw [c] at hk'
          cases hk'
          refine ⟨fun c hc => ?_, fun i h6 ht => ?_⟩
          · unfold ar2 ar1; rw [if_neg (by omega), if_pos hc]
          · unfold ar2; rw [if_pos (by omega), show 3 + i - 3 = i by omega]
        · rw [va_up_n _ _ e] at hk'
          rw [va_up_n _ _ e, va_up_n _ _ e]
          exact i2 a (by omega) k hk'
      · rw [byS_n (fun q => c2 q.2)]
        have := rkS_full (pl := pl) (sb := sb) (nu := nu) (un := un) (ms := ms) (pb := pb) (ln := ln) (sn := sn) (w := w) (m := m) (t := t) (rw0 := rw0) (j := j) (by rw [i1]; exact c2) 1
        rw [this]
        exact ⟨i1, i2⟩
/-- the rows of the reference's equations, for one byte -/
def RMx (bb lk C F : Nat → Nat) (m : Nat) : Nat → Nat → Nat := fun i c => if c = 3 then C i ^^^ xK F (bb i) m else twsN 1 (bb i * lk c)
noncomputable def XM (bb lk C F : Nat → Nat) (m k u : Nat) : Nat := elO (RMx bb lk C F m) k k u 3
theorem RMx_pw (bb lk C F : Nat → Nat) (m : Nat) {k : Nat} (hk : k ≤ 3) : pwR k bb lk (RMx bb lk C F m) := fun i b _ hb => by unfold RMx; rw [if_neg (by omega)]
theorem xK_ext {F G : Nat → Nat} {j : Nat} : ∀ m, (∀ n, n < m → F n = G n) → xK F j m = xK G j m
  | 0, _ => rfl
  | m + 1, h => by
    show xK F j m ^^^ pdN _ (F m) = xK G j m ^^^ pdN _ (G m)
    rw [xK_ext m (fun n hn => h n (by omega)), h m (by omega)]
/-- both make the same of byte i -/
theorem X_eq {pl : Nat → Option Nat} {sb : Nat → Nat → Nat} {nu lk : Nat → Nat} {ms : Nat} {pb ln sn : Nat → Nat} {w m t : Nat} {rw0 : Nat → Nat → Nat} {bb C F : Nat → Nat} {rp i : Nat} (hms : ms ≤ 3) (hb : (byS pl m ms bb rp).2 = ms) (hlk : ∀ u, u < ms → lk u = nu u) (hp : ∀ n, ptN pb ln sn w n i < 256) (hC : ∀ a k, a < ms → pl (m + (byS pl m ms bb rp).1 a) = some k → C a = sb k i) (hF : ∀ n, n < m → F n = ptN pb ln sn w n i) (h6 : 6 ≤ i) (hi : i < t) (ht : t ≤ 80) : ∀ u, u < ms → elO (rkS pl sb nu ms ms pb ln sn w m t rw0 rp).1 ms ms u (3 + i) = XM (byS pl m ms bb rp).1 lk C F m ms u := by
  intro u hu
  obtain ⟨r1, r2⟩ := rk_row (pl := pl) (sb := sb) (nu := nu) (un := ms) (ms := ms) (pb := pb) (ln := ln) (sn := sn) (w := w) (m := m) (t := t) (rw0 := rw0) bb hms rp
  have hR : elR ms (3 + i) 3 (rkS pl sb nu ms ms pb ln sn w m t rw0 rp).1 (RMx (byS pl m ms bb rp).1 lk C F m) := by
    intro a ha
    have hn := ((by_all (pl := pl) (m := m) (ms := ms) (bb := bb) rp).2.1 a (by omega)).2
    cases hk : pl (m + (byS pl m ms bb rp).1 a) with
    | none => exact absurd hk hn
    | some k =>
      obtain ⟨r3, r4⟩ := r2 a (by omega) k hk
      refine ⟨fun b hb2 => ?_, ?_⟩
      · rw [r3 b hb2, RMx_pw _ _ _ _ _ hms a b ha hb2, hlk b hb2]
      · rw [r4 i h6 hi]
        unfold RMx rsN
        rw [if_pos rfl, ← mix_eq hp, hC a k ha hk, xK_ext m hF]
  exact (elR_O hR (by omega) (by decide) hms ms (Nat.le_refl _) u hu).2
theorem tuA_hit {ln nu X : Nat → Nat} : ∀ {q u : Nat}, (∀ a b, a < b → b < q → nu a ≠ nu b) → u < q → tuA ln nu X q (nu u) = X u
  | 0, u, _, h => absurd h (by omega)
  | q + 1, u, hi, h => by
    rw [tuA]
    by_cases e : u = q
    · rw [e, va_up_s]
    · rw [va_up_n _ _ (hi u q (by omega) (by omega))]
      exact tuA_hit (fun a b h1 h2 => hi a b h1 (by omega)) (by omega)
theorem tuA_out {ln nu X : Nat → Nat} {n : Nat} : ∀ {q : Nat}, (∀ u, u < q → n ≠ nu u) → tuA ln nu X q n = ln n
  | 0, _ => rfl
  | q + 1, h => by rw [tuA, va_up_n _ _ (h q (by omega)), tuA_out (fun u hu => h u (by omega))]
theorem tuP_hit {pl : Nat → Option Nat} {nu : Nat → Nat} : ∀ {q u : Nat}, u < q → tuP pl nu q (nu u) = some 100
  | 0, u, h => absurd h (by omega)
  | q + 1, u, h => by
    rw [tuP]
    by_cases e : nu u = nu q
    · rw [e, va_up_s]
    · rw [va_up_n _ _ e]
      exact tuP_hit (by rcases Nat.lt_or_ge u q with h2 | h2; exact h2; exact absurd (by rw [show u = q by omega]) e)
theorem tuP_out {pl : Nat → Option Nat} {nu : Nat → Nat} {n : Nat} : ∀ {q : Nat}, (∀ u, u < q → n ≠ nu u) → tuP pl nu q n = pl n
  | 0, _ => rfl
  | q + 1, h => by rw [tuP, va_up_n _ _ (h q (by omega)), tuP_out (fun u hu => h u (by omega))]
theorem tuP_ext {pl pm : Nat → Option Nat} {nu lk : Nat → Nat} {n : Nat} (hp : pl n = pm n) : ∀ {q : Nat}, (∀ u, u < q → lk u = nu u) → tuP pl nu q n = tuP pm lk q n
  | 0, _ => hp
  | q + 1, h => by
    rw [tuP, tuP, h q (by omega)]
    have ih := tuP_ext hp (q := q) (fun u hu => h u (by omega))
    unfold va_up
    split
    · rfl
    · exact ih
theorem mul_far {a b w p : Nat} (hab : a ≠ b) (h1 : a * w ≤ p) (h2 : p < a * w + w) : ¬ (b * w ≤ p ∧ p < b * w + w) := fun h => hab ((div_of h1 h2).symm.trans (div_of h.1 h.2))
theorem tuB_hit {pb nu : Nat → Nat} {w : Nat} {X : Nat → Nat → Nat} {p : Nat} : ∀ {q u : Nat}, (∀ a b, a < b → b < q → nu a ≠ nu b) → u < q → nu u * w ≤ p → p < nu u * w + w → tuB pb nu w X q p = X u (12 + (p - nu u * w))
  | 0, u, _, h, _, _ => absurd h (by omega)
  | q + 1, u, hi, h, h1, h2 => by
    rw [tuB]
    unfold tkB
    by_cases e : u = q
    · subst e
      rw [if_pos (by omega)]
    · have := mul_far (hi u q (by omega) (by omega)) h1 h2
      rw [if_neg (by omega)]
      exact tuB_hit (fun a b h1 h2 => hi a b h1 (by omega)) (by omega) h1 h2
theorem tuB_out {pb nu : Nat → Nat} {w : Nat} {X : Nat → Nat → Nat} {p : Nat} : ∀ {q : Nat}, (∀ u, u < q → ¬ (nu u * w ≤ p ∧ p < nu u * w + w)) → tuB pb nu w X q p = pb p
  | 0, _ => rfl
  | q + 1, h => by
    rw [tuB]
    unfold tkB
    have := h q (by omega)
    rw [if_neg (by omega)]
    exact tuB_out (fun u hu => h u (by omega))
/-- both tell the same -/
theorem kN_ext {ln ln' : Nat → Nat} {m w p : Nat} (hw : 0 < w) (h : ∀ n, n < m → ln n = ln' n) : kN ln m w p ↔ kN ln' m w p := by
  constructor
  · rintro ⟨h1, h2⟩
    have : p / w < m := by rw [Nat.div_lt_iff_lt_mul hw]; exact h1
    exact ⟨h1, by rw [← h _ this]; exact h2⟩
  · rintro ⟨h1, h2⟩
    have : p / w < m := by rw [Nat.div_lt_iff_lt_mul hw]; exact h1
    exact ⟨h1, by rw [h _ this]; exact h2⟩
theorem sbK_ext {ln ln' sn sn' : Nat → Nat} {m : Nat} (h : ∀ n, n < m → ln n = ln' n) (hs : ∀ n, n < m → ln n ≠ 0 → sn n = sn' n) : ∀ k, k ≤ m → sbK ln sn m k = sbK ln' sn' m k
  | 0, _ => rfl
  | k + 1, hk => by
    have ih := sbK_ext h hs k (by omega)
    rw [sbK, sbK, ih]
    have e1 := h (m - (k + 1)) (by omega)
    by_cases c : ln (m - (k + 1)) = 0
    · rw [if_neg (by omega), if_neg (by omega)]
    · rw [hs (m - (k + 1)) (by omega) c, e1]
theorem nk_ext {ln ln' sn sn' : Nat → Nat} {m w : Nat} (hw : 0 < w) (h : ∀ n, n < m → ln n = ln' n) (hs : ∀ n, n < m → ln n ≠ 0 → sn n = sn' n) : ∀ f p, nk ln sn m w f p = nk ln' sn' m w f p
  | 0, _ => rfl
  | f + 1, p => by
    by_cases c : kN ln m w p
    · rw [nk_yes c, nk_yes ((kN_ext hw h).mp c)]
    · have c' : ¬ kN ln' m w p := fun q => c ((kN_ext hw h).mpr q)
      have e := sbK_ext h hs (m - (p / w + 1)) (Nat.sub_le _ _)
      cases hk : sbK ln sn m (m - (p / w + 1)) with
      | none => rw [nk_none c hk, nk_none c' (by rw [← e]; exact hk)]
      | some n =>
        have h3 := sbK_some (Nat.sub_le _ _) hk
        rw [nk_some c hk, nk_some c' (by rw [← e]; exact hk), hs n h3.2.1 (by omega)]
        exact nk_ext hw h hs f _
theorem nk_kn {ln sn : Nat → Nat} {m w : Nat} : ∀ {f p q : Nat}, nk ln sn m w f p = some q → kN ln m w q
  | 0, p, q, h => by cases h
  | f + 1, p, q, h => by
    by_cases c : kN ln m w p
    · rw [nk_yes c] at h
      cases h
      exact c
    · cases hs : sbK ln sn m (m - (p / w + 1)) with
      | none => rw [nk_none c hs] at h; cases h
      | some n => rw [nk_some c hs] at h; exact nk_kn h
theorem tsq_kn {pb ln sn : Nat → Nat} {m w : Nat} : ∀ {k p : Nat}, tsq pb ln sn m w k = some p → kN ln m w p
  | 0, p, h => nk_kn h
  | k + 1, p, h => by
    unfold tsq at h
    cases hk : tsq pb ln sn m w k with
    | none => rw [hk] at h; cases h
    | some p0 => rw [hk] at h; exact nk_kn h
theorem tsq_ext {pb pb' ln ln' sn sn' : Nat → Nat} {m w : Nat} (hw : 0 < w) (h : ∀ n, n < m → ln n = ln' n) (hs : ∀ n, n < m → ln n ≠ 0 → sn n = sn' n) (hb : ∀ p, kN ln m w p → pb p = pb' p) : ∀ k, tsq pb ln sn m w k = tsq pb' ln' sn' m w k
  | 0 => nk_ext hw h hs 61 0
  | k + 1 => by
    have ih := tsq_ext hw h hs hb k
    rw [tsq, tsq, ← ih]
    cases hk : tsq pb ln sn m w k with
    | none => rfl
    | some p =>
      show nk ln sn m w 61 (p + 3 + pb p) = nk ln' sn' m w 61 (p + 3 + pb' p)
      rw [hb p (tsq_kn hk)]
      exact nk_ext hw h hs 61 _
theorem iwN_ext {pb pb' ln ln' : Nat → Nat} {m w p n : Nat} (hw : 0 < w) (h : ∀ n, n < m → ln n = ln' n) (hb : ∀ p, kN ln m w p → pb p = pb' p) : iwN pb ln m w p n ↔ iwN pb' ln' m w p n := by
  have e : (∀ q, p ≤ q → q < p + 3 + n → kN ln m w q) ↔ (∀ q, p ≤ q → q < p + 3 + n → kN ln' m w q) := ⟨fun a q q1 q2 => (kN_ext hw h).mp (a q q1 q2), fun a q q1 q2 => (kN_ext hw h).mpr (a q q1 q2)⟩
  have s : (∀ q, p ≤ q → q < p + 3 + n → kN ln m w q) → suN pb (p + 3) n = suN pb' (p + 3) n := fun a => suN_ext (fun i hi => hb _ (a _ (by omega) (by omega)))
  constructor
  · rintro ⟨a1, a2, a3⟩
    refine ⟨a1, e.mp a2, ?_⟩
    rw [← s a2, ← hb _ (a2 (p + 1) (by omega) (by omega)), ← hb _ (a2 (p + 2) (by omega) (by omega))]
    exact a3
  · rintro ⟨a1, a2, a3⟩
    have a2 := e.mpr a2
    refine ⟨a1, a2, ?_⟩
    rw [s a2, hb _ (a2 (p + 1) (by omega) (by omega)), hb _ (a2 (p + 2) (by omega) (by omega))]
    exact a3
theorem iwB_ext {pb pb' ln ln' : Nat → Nat} {m w p n : Nat} (h : iwN pb ln m w p n ↔ iwN pb' ln' m w p n) : iwB pb ln m w p n = iwB pb' ln' m w p n := by
  unfold iwB
  by_cases c : iwN pb ln m w p n
  · rw [if_pos c, if_pos (h.mp c)]
  · rw [if_neg c, if_neg (fun q => c (h.mpr q))]
theorem smW_ext {W W' : Nat → Nat} : ∀ k, (∀ j, j < k → W j = W' j) → smW W k = smW W' k
  | 0, _ => rfl
  | k + 1, h => by rw [smW, smW, smW_ext k (fun j hj => h j (by omega)), h k (by omega)]
theorem Tld_det {pb pb' ln ln' sn sn' : Nat → Nat} {m w : Nat} (hw : 0 < w) (h : ∀ n, n < m → ln n = ln' n) (hs : ∀ n, n < m → ln n ≠ 0 → sn n = sn' n) (hb : ∀ p, kN ln m w p → pb p = pb' p) {t t' : Nat} {A L W A' L' W' : Nat → Nat} (h1 : t ≤ 40) (h2 : Tld pb ln sn m w t A L W) (h3 : t = 40 ∨ tsq pb ln sn m w t = none) (h1' : t' ≤ 40) (h2' : Tld pb' ln' sn' m w t' A' L' W') (h3' : t' = 40 ∨ tsq pb' ln' sn' m w t' = none) : t = t' ∧ ∀ j, j < t → A j = A' j ∧ L j = L' j ∧ W j = W' j := by
  have ht := tsq_ext hw h hs hb
  have e : t = t' := by
    rcases Nat.lt_trichotomy t t' with q | q | q
    · have a := (h2' t q).1
      rcases h3 with r | r
      · omega
      · rw [← ht, r] at a; cases a
    · exact q
    · have a := (h2 t' q).1
      rcases h3' with r | r
      · omega
      · rw [ht, r] at a; cases a
  refine ⟨e, fun j hj => ?_⟩
  obtain ⟨a1, a2, a3⟩ := h2 j hj
  obtain ⟨b1, b2, b3⟩ := h2' j (by omega)
  have eA : A j = A' j := by rw [ht, b1] at a1; exact (Option.some.inj a1).symm
  have kn := tsq_kn a1
  refine ⟨eA, by rw [a2, b2, ← eA]; exact hb _ kn, ?_⟩
  rw [a3, b3, ← eA, ← hb _ kn]
  exact iwB_ext (iwN_ext hw h hb)
/-- what is asked of slots is asked of what is in them -/
theorem stN_ext {b b' : Nat → Nat} {s : Nat} (h : ∀ j, j < s → b j = b' j) : stN b s = stN b' s := by
  unfold stN
  by_cases h0 : s = 0
  · rw [if_pos h0, if_pos h0]
  · rw [if_neg h0, if_neg h0]
    by_cases h12 : 12 ≤ s
    · have e : hdN b s ↔ hdN b' s := by
        unfold hdN
        rw [h 0 (by omega), h 1 (by omega), h 10 (by omega), h 11 (by omega), h 4 (by omega), h 5 (by omega), h 3 (by omega), suN_ext (b := b) (a := 0) (a' := 0) (n := 10) (fun i hi => h (0 + i) (by omega))]
      by_cases c : hdN b s
      · rw [if_pos c, if_pos (e.mp c), h 8 (by omega), h 9 (by omega), suN_ext (b := b) (a := 12) (a' := 12) (n := s - 12) (fun i hi => h (12 + i) (by omega))]
      · rw [if_neg c, if_neg (fun q => c (e.mpr q))]
    · rw [if_neg (fun q => h12 q.1), if_neg (fun q => h12 q.1)]
theorem gd_ext {ss : Nat → Nat} {sb sb' : Nat → Nat → Nat} (h : Agr ss sb sb') (x : Nat) {k : Nat} (hk : k < 60) : (sb k 2 = x ∧ stN (sb k) (ss k) = 1) ↔ (sb' k 2 = x ∧ stN (sb' k) (ss k) = 1) := by
  rw [stN_ext (b := sb k) (b' := sb' k) (fun j hj => h k j hk hj)]
  constructor
  · rintro ⟨a, b⟩
    have := (stN_hd b).1
    exact ⟨by rw [← h k 2 hk (by omega)]; exact a, b⟩
  · rintro ⟨a, b⟩
    have := (stN_hd b).1
    exact ⟨by rw [h k 2 hk (by omega)]; exact a, b⟩
theorem fst_ext {P Q : Nat → Prop} {n : Nat} (h : ∀ i, i < n → (P i ↔ Q i)) : ∀ k, k ≤ n → fst' P n k = fst' Q n k
  | 0, _ => rfl
  | k + 1, hk => by
    rw [fst', fst', fst_ext h k (by omega)]
    by_cases c : P (n - (k + 1))
    · rw [if_pos c, if_pos ((h _ (by omega)).mp c)]
    · rw [if_neg c, if_neg (fun q => c ((h _ (by omega)).mpr q))]
theorem tkC_ext {ss : Nat → Nat} {sb sb' : Nat → Nat → Nat} (h : Agr ss sb sb') {x f k : Nat} (hk : k < 60) (hf : f < 60) (h12 : 12 ≤ ss f) : tkC ss sb x f k ↔ tkC ss sb' x f k := by
  unfold tkC
  rw [gd_ext h x hk]
  constructor
  · rintro ⟨a, b, c, d⟩
    exact ⟨a, b, by rw [← h k 4 hk (by omega), ← h f 4 hf (by omega)]; exact c, by rw [← h k 5 hk (by omega), ← h f 5 hf (by omega)]; exact d⟩
  · rintro ⟨a, b, c, d⟩
    exact ⟨a, b, by rw [h k 4 hk (by omega), h f 4 hf (by omega)]; exact c, by rw [h k 5 hk (by omega), h f 5 hf (by omega)]; exact d⟩
theorem plK_ext {ss : Nat → Nat} {sb sb' : Nat → Nat → Nat} (h : Agr ss sb sb') {x f : Nat} (hf : f < 60) (h12 : 12 ≤ ss f) : ∀ i, i ≤ 60 → plK ss sb x f i = plK ss sb' x f i
  | 0, _ => rfl
  | i + 1, hi => by
    have ih := plK_ext h (x := x) hf h12 i (by omega)
    have et := tkC_ext h (x := x) (k := i) (by omega) hf h12
    by_cases t : tkC ss sb x f i
    · have e3 : sb i 3 = sb' i 3 := h i 3 (by omega) (by have := (stN_hd t.1.2).1; omega)
      by_cases c : plK ss sb x f i (sb i 3) = none
      · rw [plK_y t c, plK_y (et.mp t) (by rw [← ih, ← e3]; exact c), ih, e3]
      · rw [plK_n (fun q => c q.2), plK_n (fun q => c (by rw [ih, e3]; exact q.2)), ih]
    · rw [plK_n (fun q => t q.1), plK_n (fun q => t (et.mpr q.1)), ih]
/-- the places from slot s on, the last first -/
noncomputable def plD (ss : Nat → Nat) (sb : Nat → Nat → Nat) (x f : Nat) (p0 : Nat → Option Nat) : Nat → Nat → Option Nat
  | 0 => p0
  | t + 1 => @ite _ (tkC ss sb x f (60 - (t + 1))) (Classical.propDecidable _) (va_up (plD ss sb x f p0 t) (sb (60 - (t + 1)) 3) (some (60 - (t + 1)))) (plD ss sb x f p0 t)
theorem plD_y {ss : Nat → Nat} {sb : Nat → Nat → Nat} {x f : Nat} {p0 : Nat → Option Nat} {s : Nat} (hs : s < 60) (h : tkC ss sb x f s) : plD ss sb x f p0 (60 - s) = va_up (plD ss sb x f p0 (60 - (s + 1))) (sb s 3) (some s) := by
  rw [show 60 - s = (60 - (s + 1)) + 1 by omega, plD, show 60 - (60 - (s + 1) + 1) = s by omega]; exact if_pos h
theorem plD_n {ss : Nat → Nat} {sb : Nat → Nat → Nat} {x f : Nat} {p0 : Nat → Option Nat} {s : Nat} (hs : s < 60) (h : ¬ tkC ss sb x f s) : plD ss sb x f p0 (60 - s) = plD ss sb x f p0 (60 - (s + 1)) := by
  rw [show 60 - s = (60 - (s + 1)) + 1 by omega, plD, show 60 - (60 - (s + 1) + 1) = s by omega]; exact if_neg h
theorem plD_plK {ss : Nat → Nat} {sb : Nat → Nat → Nat} {x f : Nat} {p0 : Nat → Option Nat} {n : Nat} (h0 : p0 n = none) : ∀ t, t ≤ 60 → plK ss sb x f 60 n = (plK ss sb x f (60 - t) n).or (plD ss sb x f p0 t n)
  | 0, _ => by
    show _ = (plK ss sb x f 60 n).or (p0 n)
    rw [h0, Option.or_none]
  | t + 1, ht => by
    rw [plD_plK h0 t (by omega)]
    have e1 : 60 - t = (60 - (t + 1)) + 1 := by omega
    have e2 : t = 60 - ((60 - (t + 1)) + 1) := by omega
    have e3 : t + 1 = 60 - (60 - (t + 1)) := by omega
    generalize hs : 60 - (t + 1) = s at *
    rw [e1, e3]
    conv => lhs; rw [e2]
    by_cases c : tkC ss sb x f s
    · rw [plD_y (by omega) c]
      by_cases c2 : plK ss sb x f s (sb s 3) = none
      · rw [plK_y c c2]
        by_cases e : n = sb s 3
        · rw [e, va_up_s, va_up_s, c2]; rfl
        · rw [va_up_n _ _ e, va_up_n _ _ e]
      · rw [plK_n (fun q => c2 q.2)]
        by_cases e : n = sb s 3
        · rw [e, va_up_s]
          cases h9 : plK ss sb x f s (sb s 3) with
          | none => exact absurd h9 c2
          | some k => rfl
        · rw [va_up_n _ _ e]
    · rw [plD_n (by omega) c, plK_n (fun q => c q.1)]
theorem plD_eq {ss : Nat → Nat} {sb : Nat → Nat → Nat} {x f : Nat} {p0 : Nat → Option Nat} {n : Nat} (hn : n < 63) (h0 : p0 n = none) : plD ss sb x f p0 60 n = plK ss sb x f 60 n := by
  rw [plD_plK h0 60 (Nat.le_refl _)]
  show _ = (pl0 n).or _
  unfold pl0
  rw [if_pos hn]
  rfl
