theorem nx_and (a b : Nat) : nI a &&& nI b = nI (a &&& b) := by
  apply Int32.toBitVec_inj.1
  show BitVec.ofNat 32 a &&& BitVec.ofNat 32 b = BitVec.ofNat 32 (a &&& b)
  apply BitVec.eq_of_getLsbD_eq
  intro i hi
  simp [hi]
theorem nx_xor (a b : Nat) : nI a ^^^ nI b = nI (a ^^^ b) := by
  apply Int32.toBitVec_inj.1
  show BitVec.ofNat 32 a ^^^ BitVec.ofNat 32 b = BitVec.ofNat 32 (a ^^^ b)
  apply BitVec.eq_of_getLsbD_eq
  intro i hi
  simp [hi]
theorem nx_cnt : ∀ j : Fin 32, (UInt32.ofNat j.val &&& Int32.toUInt32 31).toNat % 32 = j.val := by decide +kernel
theorem nx_ush {k j : Nat} (hk : k < 65536) (hj : j < 32) : ((nI k).toUInt32 >>> ((nI j).toUInt32 &&& Int32.toUInt32 31)).toInt32 = nI (k >>> j) := by
  have hs : k >>> j ≤ k := by
    rw [Nat.shiftRight_eq_div_pow]
    exact Nat.div_le_self _ _
  have e2 : UInt32.ofNat k >>> (UInt32.ofNat j &&& Int32.toUInt32 31) = UInt32.ofNat (k >>> j) := by
    apply UInt32.toNat_inj.1
    have h1 : (UInt32.ofNat k).toNat = k := Nat.mod_eq_of_lt (by omega)
    have h2 : (UInt32.ofNat (k >>> j)).toNat = k >>> j := Nat.mod_eq_of_lt (by omega)
    rw [UInt32.toNat_shiftRight, nx_cnt ⟨j, hj⟩, h1, h2]
  show (UInt32.ofNat k >>> (UInt32.ofNat j &&& Int32.toUInt32 31)).toInt32 = _
  rw [e2]
  rfl
theorem nx_bit {k j : Nat} (hk : k < 65536) (hj : j < 16) : (((nI k).toUInt32 >>> ((nI j).toUInt32 &&& Int32.toUInt32 31)).toInt32 &&& 1) = 0 ↔ k.testBit j = false := by
  rw [nx_ush hk (by omega)]
  show nI (k >>> j) &&& nI 1 = 0 ↔ _
  rw [nx_and, Nat.and_one_is_mod, ← nI_0, nI_eq (by omega) (by omega), Nat.testBit_eq_decide_div_mod_eq, Nat.shiftRight_eq_div_pow, decide_eq_false_iff_not]
  generalize k / 2 ^ j = z
  omega
theorem nx_mod (k : Nat) : nI k &&& 65535 = nI (k % 65536) := by
  show nI k &&& nI 65535 = _
  rw [nx_and, show (65535 : Nat) = 2 ^ 16 - 1 from rfl, Nat.and_two_pow_sub_one_eq_mod]
theorem nx_m16 {k : Nat} (h : k < 65536) : nI k &&& 65535 = nI k := by rw [nx_mod, Nat.mod_eq_of_lt h]
/-! MINE: the same over naturals -/
def twN (x : Nat) : Nat := if 2 * x ≤ 255 then 2 * x else (2 * x) ^^^ 285
theorem tw_ck : ∀ x, x < 256 → tw (nI x) = nI (twN x) ∧ twN x < 256 := by decide +kernel
def twsN (x : Nat) : Nat → Nat
  | 0 => x
  | k + 1 => twN (twsN x k)
theorem tws_nI {x : Nat} (h : x < 256) : ∀ n, tws (nI x) n = nI (twsN x n) ∧ twsN x n < 256
  | 0 => ⟨rfl, h⟩
  | n + 1 => by
    obtain ⟨h1, h2⟩ := tws_nI h n
    show tw (tws (nI x) n) = nI (twN (twsN x n)) ∧ twN (twsN x n) < 256
    rw [h1]
    exact tw_ck _ h2
def suN (b : Nat → Nat) (a : Nat) : Nat → Nat
  | 0 => 5381
  | k + 1 => ((33 * suN b a k) ^^^ b (a + k)) % 65536
theorem suN_lt (b : Nat → Nat) (a : Nat) : ∀ n, suN b a n < 65536
  | 0 => by show 5381 < 65536; decide
  | n + 1 => Nat.mod_lt _ (by decide)
theorem su_nI (b : Nat → Nat) (a : Nat) : ∀ n, su (fun j => nI (b j)) a n = nI (suN b a n)
  | 0 => rfl
  | n + 1 => by
    show ((33 * su (fun j => nI (b j)) a n) ^^^ nI (b (a + n))) &&& 65535 = nI (((33 * suN b a n) ^^^ b (a + n)) % 65536)
    rw [su_nI b a n, ← nx_mod, ← nx_xor, ← pk_mul]
    rfl
theorem suN_ext {b c : Nat → Nat} {a a' : Nat} : ∀ {n}, (∀ i, i < n → b (a + i) = c (a' + i)) → suN b a n = suN c a' n
  | 0, _ => rfl
  | n + 1, h => by
    show ((33 * suN b a n) ^^^ b (a + n)) % 65536 = ((33 * suN c a' n) ^^^ c (a' + n)) % 65536
    rw [suN_ext (fun i hi => h i (by omega)), h n (by omega)]
theorem xor_lt8 {a b : Nat} (ha : a < 256) (hb : b < 256) : a ^^^ b < 256 := Nat.xor_lt_two_pow (n := 8) ha hb
def ptN (pb ln sn : Nat → Nat) (w n i : Nat) : Nat := if i = 6 then ln n else if i = 7 then sn n else if i < 12 then 0 else pb (n * w + i - 12)
theorem pt_nI (pb ln sn : Nat → Nat) (w n i : Nat) : pt (fun j => nI (pb j)) (fun j => nI (ln j)) (fun j => nI (sn j)) w n i = nI (ptN pb ln sn w n i) := by
  unfold pt ptN
  split
  · rfl
  · split
    · rfl
    · split
      · rfl
      · rfl
theorem ptN_lt {pb ln sn : Nat → Nat} (hp : ∀ j, pb j < 256) (hl : ∀ j, ln j < 256) (hs : ∀ j, sn j < 256) (w n i : Nat) : ptN pb ln sn w n i < 256 := by
  unfold ptN
  split
  · exact hl n
  · split
    · exact hs n
    · split
      · decide
      · exact hp _
def horN (F : Nat → Nat) (j m : Nat) : Nat → Nat
  | 0 => 0
  | t + 1 => twsN (horN F j m t) j ^^^ F (m - 1 - t)
theorem hor_nI {F : Nat → Nat} (hF : ∀ n, F n < 256) (j m : Nat) : ∀ t, hor (fun n => nI (F n)) j m t = nI (horN F j m t) ∧ horN F j m t < 256
  | 0 => ⟨rfl, by show 0 < 256; decide⟩
  | t + 1 => by
    obtain ⟨h1, h2⟩ := hor_nI hF j m t
    show tws (hor (fun n => nI (F n)) j m t) j ^^^ nI (F (m - 1 - t)) = nI (twsN (horN F j m t) j ^^^ F (m - 1 - t)) ∧ twsN (horN F j m t) j ^^^ F (m - 1 - t) < 256
    obtain ⟨g1, g2⟩ := tws_nI h2 j
    rw [h1, g1, nx_xor]
    exact ⟨rfl, xor_lt8 g2 (hF _)⟩
theorem upd_nI (b : Nat → Nat) (k v : Nat) : upd (fun j => nI (b j)) k (nI v) = fun j => nI (va_up b k v j) := by
  funext j
  unfold upd va_up
  split <;> rfl
theorem va_up_lt {b : Nat → Nat} (h : ∀ j, b j < 256) {k v : Nat} (hv : v < 256) : ∀ j, va_up b k v j < 256 := by
  intro j
  unfold va_up
  split
  · exact hv
  · exact h j
theorem va_up_s {α : Type} (f : Nat → α) (k : Nat) (v : α) : va_up f k v k = v := if_pos rfl
theorem va_up_n {α : Type} (f : Nat → α) {k j : Nat} (v : α) (h : j ≠ k) : va_up f k v j = f j := if_neg h
theorem and255 (k : Nat) : nI k &&& 255 = nI (k % 256) := by
  show nI k &&& nI 255 = _
  rw [nx_and, show (255 : Nat) = 2 ^ 8 - 1 from rfl, Nat.and_two_pow_sub_one_eq_mod]
theorem sr8_nI {k : Nat} (h : k < 65536) : sr8 (nI k) = nI (k / 256) := by
  have := nx_ush (k := k) (j := 8) h (by decide)
  rw [Nat.shiftRight_eq_div_pow] at this
  exact this
theorem shl8_nI {k : Nat} (h : k < 65536) : nI k <<< ((8 : Int32) &&& 31) = nI (256 * k) := by
  rw [pk_shlN (8 &&& 31) 8 (by decide) (by omega), Nat.mul_comm]
def psN (b : Nat → Nat) (j X : Nat) : Nat → Nat := va_up (va_up b j (X % 256)) (j + 1) (X / 256)
theorem ps_nI (b : Nat → Nat) (j : Nat) {X : Nat} (h : X < 65536) : ps (fun i => nI (b i)) j (nI X) = fun i => nI (psN b j X i) := by
  unfold ps psN
  rw [and255, sr8_nI h, upd_nI, upd_nI]
theorem psN_lt {b : Nat → Nat} (hb : ∀ j, b j < 256) {j X : Nat} (h : X < 65536) : ∀ i, psN b j X i < 256 := va_up_lt (va_up_lt hb (by omega)) (by omega)
theorem sa_nI {b : Nat → Nat} (hb : ∀ j, b j < 256) (j : Nat) : sa (fun i => nI (b i)) j = nI (b j + 256 * b (j + 1)) := by
  have h := hb (j + 1)
  unfold sa
  show nI (b j) + (nI (b (j + 1)) <<< ((8 : Int32) &&& 31)) = _
  rw [shl8_nI (by omega), nI_add]
def sealN (b : Nat → Nat) (s : Nat) : Nat → Nat := psN (psN b 8 (suN b 12 (s - 12))) 10 (suN (psN b 8 (suN b 12 (s - 12))) 0 10)
theorem seal_nI (b : Nat → Nat) (s : Nat) : sealF (fun i => nI (b i)) s = fun i => nI (sealN b s i) := by
  unfold sealF sealN
  rw [su_nI, ps_nI _ _ (suN_lt _ _ _), su_nI, ps_nI _ _ (suN_lt _ _ _)]
theorem sealN_lt {b : Nat → Nat} (hb : ∀ j, b j < 256) (s : Nat) : ∀ i, sealN b s i < 256 := psN_lt (psN_lt hb (suN_lt _ _ _)) (suN_lt _ _ _)
def zrN (b : Nat → Nat) (lo hi : Nat) : Nat → Nat := fun j => if lo ≤ j ∧ j < hi then 0 else b j
theorem zr_nI (b : Nat → Nat) (lo hi : Nat) : zr (fun i => nI (b i)) lo hi = fun i => nI (zrN b lo hi i) := by
  funext j
  unfold zr zrN
  split <;> rfl
abbrev hdN (b : Nat → Nat) (s : Nat) : Prop := 12 ≤ s ∧ b 0 = 86 ∧ b 1 = 83 ∧ b 10 + 256 * b 11 = suN b 0 10 ∧ 1 ≤ b 4 ∧ b 4 ≤ 60 ∧ b 5 ≤ 3 ∧ b 3 < b 4 + b 5
theorem nI_e {a b : Nat} (ha : a < 2 ^ 31) (hb : b < 2 ^ 31) : nI a = nI b ↔ a = b := nI_eq ha hb
theorem hh_iff {b : Nat → Nat} (hb : ∀ j, b j < 256) (s : Nat) : hhP (fun i => nI (b i)) s ↔ hdN b s := by
  have b0 := hb 0
  have b1 := hb 1
  have b3 := hb 3
  have b4 := hb 4
  have b5 := hb 5
  have b10 := hb 10
  have b11 := hb 11
  have hs := suN_lt b 0 10
  unfold hhP
  rw [sa_nI hb, su_nI]
  show (¬ s < 12 ∧ nI (b 0) = nI 86 ∧ nI (b 1) = nI 83 ∧ nI (b 10 + 256 * b 11) = nI (suN b 0 10) ∧ ¬ nI (b 4) < nI 1 ∧ ¬ nI 60 < nI (b 4) ∧ ¬ nI 3 < nI (b 5) ∧ ¬ nI (b 4) + nI (b 5) ≤ nI (b 3)) ↔ _
  rw [nI_add, nI_eq (by omega) (by omega), nI_eq (by omega) (by omega), nI_eq (by omega) (by omega), nI_ltI (by omega) (by omega), nI_ltI (by omega) (by omega), nI_ltI (by omega) (by omega), nI_leI (by omega) (by omega)]
  unfold hdN
  constructor
  · rintro ⟨h1, h2, h3, h4, h5, h6, h7, h8⟩
    exact ⟨by omega, h2, h3, h4, by omega, by omega, by omega, by omega⟩
  · rintro ⟨h1, h2, h3, h4, h5, h6, h7, h8⟩
    exact ⟨by omega, h2, h3, h4, by omega, by omega, by omega, by omega⟩
def stN (b : Nat → Nat) (s : Nat) : Nat := if s = 0 then 0 else if hdN b s then (if b 8 + 256 * b 9 = suN b 12 (s - 12) then 1 else 2) else 3
theorem stV_nI {b : Nat → Nat} (hb : ∀ j, b j < 256) (s : Nat) : stV (fun i => nI (b i)) s = nI (stN b s) := by
  have b8 := hb 8
  have b9 := hb 9
  have hs := suN_lt b 12 (s - 12)
  unfold stV stN
  by_cases h0 : s = 0
  · rw [if_pos h0, if_pos h0]; rfl
  · rw [if_neg h0, if_neg h0]
    by_cases hh' : hdN b s
    · rw [hh_pos ((hh_iff hb s).mpr hh'), if_neg (by decide), if_pos hh', sa_nI hb, su_nI]
      by_cases he : b 8 + 256 * b 9 = suN b 12 (s - 12)
      · rw [if_pos he, if_pos (by rw [he])]; rfl
      · rw [if_neg he, if_neg (fun q => he ((nI_eq (by omega) (by omega)).mp q))]; rfl
    · rw [hh_neg (fun q => hh' ((hh_iff hb s).mp q)), if_pos rfl, if_neg hh']; rfl
theorem hh_nI {b : Nat → Nat} (hb : ∀ j, b j < 256) (s : Nat) : hh (fun i => nI (b i)) s = if hdN b s then 1 else 0 := by
  by_cases h : hdN b s
  · rw [if_pos h, hh_pos ((hh_iff hb s).mpr h)]
  · rw [if_neg h, hh_neg (fun q => h ((hh_iff hb s).mp q))]
/-- byte p of the stream is known -/
abbrev kN (ln : Nat → Nat) (m w p : Nat) : Prop := p < m * w ∧ p - p / w * w < ln (p / w)
def kV (ln : Nat → Nat) (m w p : Nat) : Int32 := if kN ln m w p then 1 else 0
theorem kV_pos {ln : Nat → Nat} {m w p : Nat} (h : kN ln m w p) : kV ln m w p = 1 := if_pos h
theorem kV_neg {ln : Nat → Nat} {m w p : Nat} (h : ¬ kN ln m w p) : kV ln m w p = 0 := if_neg h
theorem kV_of {ln : Nat → Nat} {m w p : Nat} (h : ¬ kV ln m w p = 0) : kN ln m w p := Classical.byContradiction fun q => h (kV_neg q)
theorem kV_no {ln : Nat → Nat} {m w p : Nat} (h : kV ln m w p = 0) : ¬ kN ln m w p := fun q => by rw [kV_pos q] at h; exact absurd h (by decide)
theorem mn_dec1 (x : Int32) : x + Int32.ofInt (-1) = x - 1 := by rw [show Int32.ofInt (-1) = -1 by decide, Int32.sub_eq_add_neg]
noncomputable def akV (ln : Nat → Nat) (m w i j : Nat) : Int32 := @ite _ (∀ p, i ≤ p → p < j → kN ln m w p) (Classical.propDecidable _) 1 0
theorem akV_pos {ln : Nat → Nat} {m w i j : Nat} (h : ∀ p, i ≤ p → p < j → kN ln m w p) : akV ln m w i j = 1 := by unfold akV; exact if_pos h
theorem akV_neg {ln : Nat → Nat} {m w i j : Nat} (h : ¬ ∀ p, i ≤ p → p < j → kN ln m w p) : akV ln m w i j = 0 := by unfold akV; exact if_neg h
/-- of the last k of m volumes the first one with a start -/
def sbK (ln sn : Nat → Nat) (m : Nat) : Nat → Option Nat
  | 0 => none
  | k + 1 => if sn (m - (k + 1)) < ln (m - (k + 1)) then some (m - (k + 1)) else sbK ln sn m k
theorem sbK_some {ln sn : Nat → Nat} {m : Nat} : ∀ {k n : Nat}, k ≤ m → sbK ln sn m k = some n → m - k ≤ n ∧ n < m ∧ sn n < ln n
  | 0, n, _, h => by cases h
  | k + 1, n, hk, h => by
    unfold sbK at h
    by_cases c : sn (m - (k + 1)) < ln (m - (k + 1))
    · rw [if_pos c] at h
      cases h
      exact ⟨by omega, by omega, c⟩
    · rw [if_neg c] at h
      have := sbK_some (by omega) h
      exact ⟨by omega, this.2⟩
def onI (o : Option Nat) : Int32 := match o with
  | none => -2
  | some q => nI q
/-- the first known place from p on, by at most f - 1 jumps -/
def nk (ln sn : Nat → Nat) (m w : Nat) : Nat → Nat → Option Nat
  | 0, _ => none
  | f + 1, p => if kN ln m w p then some p else match sbK ln sn m (m - (p / w + 1)) with
    | none => none
    | some n => nk ln sn m w f (n * w + sn n)
theorem nk_yes {ln sn : Nat → Nat} {m w f p : Nat} (h : kN ln m w p) : nk ln sn m w (f + 1) p = some p := if_pos h
theorem nk_none {ln sn : Nat → Nat} {m w f p : Nat} (h : ¬ kN ln m w p) (hs : sbK ln sn m (m - (p / w + 1)) = none) : nk ln sn m w (f + 1) p = none := by
  unfold nk
  rw [if_neg h, hs]
theorem nk_some {ln sn : Nat → Nat} {m w f p n : Nat} (h : ¬ kN ln m w p) (hs : sbK ln sn m (m - (p / w + 1)) = some n) : nk ln sn m w (f + 1) p = nk ln sn m w f (n * w + sn n) := by
  rw [nk, if_neg h, hs]
theorem mn_R.sub {E : mn_En} {M : mn_M} {d w nc ns pc : Nat} {ls ls' : List (Nat × Value)} {st : List Value} {g : mn_H} {Q : Option Value → mn_H → Prop} (ks : List Nat) (hl : ks.filterMap (fun k => ls[k]?) = ls') (k : mn_R E M d w nc ns pc ls' st g Q) : mn_R E M d w nc ns pc ls st g Q := by
  subst hl
  refine k.less (fun q hq => ?_) (Nat.le_refl _) (Nat.le_refl _) (Nat.le_refl _) (Nat.le_refl _)
  obtain ⟨i, -, hi⟩ := List.mem_filterMap.mp hq
  exact List.mem_of_getElem? hi
