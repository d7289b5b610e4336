theorem mn_R.toG {E : mn_En} {M : mn_M} {d w nc ns pc : Nat} {ls : List (Nat × Value)} {st : List Value} {g1 g2 : mn_H} {Q : Option Value → mn_H → Prop} (h : g2 = g1) (k : mn_R E M d w nc ns pc ls st g2 Q) : mn_R E M d w nc ns pc ls st g1 Q := h ▸ k
/-! MINE: what the class's bytes are, as functions -/
def tw (x : Int32) : Int32 := if x <<< ((1 : Int32) &&& 31) ≤ 255 then x <<< ((1 : Int32) &&& 31) else (x <<< ((1 : Int32) &&& 31)) ^^^ 285
def tws (x : Int32) : Nat → Int32
  | 0 => x
  | k + 1 => tw (tws x k)
def vb_t (b : Int32) (k : Nat) : Int32 := (b.toUInt32 >>> ((nI k).toUInt32 &&& Int32.toUInt32 31)).toInt32 &&& 1
def pds (x b : Int32) : Nat → Int32
  | 0 => 0
  | k + 1 => if vb_t b k = 0 then pds x b k else pds x b k ^^^ tws x k
def su (f : Nat → Int32) (a : Nat) : Nat → Int32
  | 0 => 5381
  | k + 1 => ((33 * su f a k) ^^^ f (a + k)) &&& 65535
/-- byte of a number -/
def byt (x s : Int32) : Int32 := (x.toUInt32 >>> (s.toUInt32 &&& Int32.toUInt32 31)).toInt32 &&& 255
def up4 (f : Nat → Int32) (l : Nat) (x : Int32) : Nat → Int32 := upd (upd (upd (upd f l (byt x 24)) (l + 1) (byt x 16)) (l + 2) (byt x 8)) (l + 3) (byt x 0)
def sr8 (x : Int32) : Int32 := (x.toUInt32 >>> ((8 : Int32).toUInt32 &&& Int32.toUInt32 31)).toInt32
/-- two bytes of a sum at j -/
def ps (f : Nat → Int32) (j : Nat) (x : Int32) : Nat → Int32 := upd (upd f j (x &&& 255)) (j + 1) (sr8 x)
def sa (f : Nat → Int32) (j : Nat) : Int32 := f j + (f (j + 1) <<< ((8 : Int32) &&& 31))
def sealF (f : Nat → Int32) (s : Nat) : Nat → Int32 := ps (ps f 8 (su f 12 (s - 12))) 10 (su (ps f 8 (su f 12 (s - 12))) 0 10)
def zr (f : Nat → Int32) (lo hi : Nat) : Nat → Int32 := fun j => if lo ≤ j ∧ j < hi then 0 else f j
theorem zr_0 (f : Nat → Int32) (lo : Nat) : zr f lo lo = f := by
  funext j
  unfold zr
  rw [if_neg (by omega)]
theorem zr_s (f : Nat → Int32) {lo hi : Nat} (h : lo ≤ hi) : upd (zr f lo hi) hi 0 = zr f lo (hi + 1) := by
  funext j
  unfold upd zr
  by_cases hj : j = hi
  · rw [if_pos hj, if_pos (by omega)]
  · rw [if_neg hj]
    by_cases h2 : lo ≤ j ∧ j < hi
    · rw [if_pos h2, if_pos (by omega)]
    · rw [if_neg h2, if_neg (by omega)]
def sameB (s t : Nat) (f e : Nat → Int32) : Int32 := if s = t ∧ ∀ i, i < s → f i = e i then 1 else 0
def hhP (f : Nat → Int32) (s : Nat) : Prop := ¬ s < 12 ∧ f 0 = 86 ∧ f 1 = 83 ∧ sa f 10 = su f 0 10 ∧ ¬ f 4 < 1 ∧ ¬ 60 < f 4 ∧ ¬ 3 < f 5 ∧ ¬ f 4 + f 5 ≤ f 3
noncomputable def hh (f : Nat → Int32) (s : Nat) : Int32 := @ite _ (hhP f s) (Classical.propDecidable _) 1 0
noncomputable def stV (f : Nat → Int32) (s : Nat) : Int32 := if s = 0 then 0 else if hh f s = 0 then 3 else if sa f 8 = su f 12 (s - 12) then 1 else 2
noncomputable def gdV (f : Nat → Int32) (s : Nat) (x : Int32) : Int32 := if f 2 = x ∧ stV f s = 1 then 1 else 0
def wmV (s t : Nat) (f e : Nat → Int32) : Int32 := if s = t ∧ f 4 = e 4 ∧ f 5 = e 5 then 1 else 0
theorem hh_pos {f : Nat → Int32} {s : Nat} (h : hhP f s) : hh f s = 1 := by unfold hh; exact if_pos h
theorem hh_neg {f : Nat → Int32} {s : Nat} (h : ¬ hhP f s) : hh f s = 0 := by unfold hh; exact if_neg h
theorem hh_ge {f : Nat → Int32} {s : Nat} (h : ¬ hh f s = 0) : hhP f s := Classical.byContradiction fun q => h (hh_neg q)
/-- part i of volume n -/
def pt (fb fl fs : Nat → Int32) (w n i : Nat) : Int32 := if i = 6 then fl n else if i = 7 then fs n else if i < 12 then 0 else fb (n * w + i - 12)
/-- the sum of 2 ^ (j n) times F n, from the last one down; t of m are in it -/
def hor (F : Nat → Int32) (j m : Nat) : Nat → Int32
  | 0 => 0
  | t + 1 => tws (hor F j m t) j ^^^ F (m - 1 - t)
def mxd (fb fl fs : Nat → Int32) (w m j i : Nat) : Int32 := hor (fun n => pt fb fl fs w n i) j m m
def knP (fl : Nat → Int32) (m w p : Nat) : Prop := p < m * w ∧ nI (p - p / w * w) < fl (p / w)
noncomputable def knV (fl : Nat → Int32) (m w p : Nat) : Int32 := @ite _ (knP fl m w p) (Classical.propDecidable _) 1 0
theorem kn_pos {fl : Nat → Int32} {m w p : Nat} (h : knP fl m w p) : knV fl m w p = 1 := by unfold knV; exact if_pos h
theorem kn_neg {fl : Nat → Int32} {m w p : Nat} (h : ¬ knP fl m w p) : knV fl m w p = 0 := by unfold knV; exact if_neg h
theorem kn_of {fl : Nat → Int32} {m w p : Nat} (h : ¬ knV fl m w p = 0) : knP fl m w p := Classical.byContradiction fun q => h (kn_neg q)
theorem kn_no {fl : Nat → Int32} {m w p : Nat} (h : knV fl m w p = 0) : ¬ knP fl m w p := fun q => by rw [kn_pos q] at h; exact absurd h (by decide)
/-- what is not in S stays -/
def mn_fr (S : Nat → Prop) (g g' : mn_H) : Prop := g'.1 = g.1 ∧ ∀ a, ¬ S a → g'.2 a = g.2 a
theorem mn_at.fr {g g' : mn_H} {a : Nat} {c : mn_C} {S : Nat → Prop} (h : mn_at g a c) (hf : mn_fr S g g') (hs : ¬ S a) : mn_at g' a c := ⟨h.1, by rw [hf.1]; exact h.2.1, by rw [hf.2 a hs]; exact h.2.2⟩
theorem mn_fr.rf {S : Nat → Prop} {g : mn_H} : mn_fr S g g := ⟨rfl, fun _ _ => rfl⟩
theorem mn_fr.tr {S : Nat → Prop} {g g1 g2 : mn_H} (h1 : mn_fr S g g1) (h2 : mn_fr S g1 g2) : mn_fr S g g2 := ⟨h2.1.trans h1.1, fun a h => (h2.2 a h).trans (h1.2 a h)⟩
theorem mn_fr.mo {S S' : Nat → Prop} {g g' : mn_H} (h : mn_fr S g g') (hs : ∀ a, S a → S' a) : mn_fr S' g g' := ⟨h.1, fun a ha => h.2 a (fun q => ha (hs a q))⟩
theorem mn_fr_set {S : Nat → Prop} {g : mn_H} {a : Nat} {c : mn_C} (h : S a) : mn_fr S g (mn_set g a c) := ⟨rfl, fun b hb => by
  show (if b = a then c else g.2 b) = g.2 b
  rw [if_neg (fun e => hb (by rw [e]; exact h))]⟩
theorem mn_fr.set {S : Nat → Prop} {g0 g g1 : mn_H} {a : Nat} {c : mn_C} (h : mn_fr S g0 g) (e : g1 = mn_set g a c) (hs : S a) : mn_fr S g0 g1 := by rw [e]; exact h.tr (mn_fr_set hs)
/-- a row filled up to n -/
def flN (f : Nat → Int32) (x : Int32) (n : Nat) : Nat → Int32 := fun j => if j < n then x else f j
theorem flN_0 (f : Nat → Int32) (x : Int32) : flN f x 0 = f := by funext j; unfold flN; rw [if_neg (by omega)]
theorem flN_s (f : Nat → Int32) (x : Int32) (n : Nat) : upd (flN f x n) n x = flN f x (n + 1) := by
  funext j
  unfold upd flN
  by_cases hj : j = n
  · rw [if_pos hj, if_pos (by omega)]
  · rw [if_neg hj]
    by_cases h2 : j < n
    · rw [if_pos h2, if_pos (by omega)]
    · rw [if_neg h2, if_neg (by omega)]
def ppB (w n i : Nat) (x : Int32) (fb : Nat → Int32) : Nat → Int32 := if 12 ≤ i then upd fb (n * w + i - 12) x else fb
def ppL (n i : Nat) (x : Int32) (fl : Nat → Int32) : Nat → Int32 := if i = 6 then upd fl n x else fl
def ppS (n i : Nat) (x : Int32) (fs : Nat → Int32) : Nat → Int32 := if i = 7 then upd fs n x else fs
