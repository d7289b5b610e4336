/-! reading: the class's and the reference's answers are the same -/
theorem scA_l8 {rw : Nat → Nat → Nat} (h : ∀ i j, rw i j < 256) {q f : Nat} (hf : f < 256) : ∀ i j, scA rw q f i j < 256 := by
  intro i j
  unfold scA va_up
  split
  · exact scL_lt (h q) hf 83 j
  · exact h i j
theorem elO_l8 {rw : Nat → Nat → Nat} (h : ∀ i j, rw i j < 256) (un : Nat) : ∀ q i j, elO rw un q i j < 256
  | 0 => h
  | q + 1 => by
    unfold elO
    exact elI_lt (scA_l8 (elO_l8 h un q) (ivN_lt _)) q un
theorem rkS_l8 {pl : Nat → Option Nat} {sb : Nat → Nat → Nat} {nu : Nat → Nat} {un ms : Nat} {pb ln sn : Nat → Nat} {w m t : Nat} {rw0 : Nat → Nat → Nat} (h0 : ∀ i j, rw0 i j < 256) (hs : ∀ k j, sb k j < 256) (hp : ∀ j, pb j < 256) (hl : ∀ j, ln j < 256) (hn : ∀ j, sn j < 256) : ∀ J i j, (rkS pl sb nu un ms pb ln sn w m t rw0 J).1 i j < 256
  | 0 => h0
  | J + 1 => by
    have ih := rkS_l8 (pl := pl) (nu := nu) (un := un) (ms := ms) (w := w) (m := m) (t := t) h0 hs hp hl hn J
    by_cases hg : (rkS pl sb nu un ms pb ln sn w m t rw0 J).2 < ms
    · cases c : pl (m + J) with
      | none => rw [rkS_no c]; exact ih
      | some k =>
        rw [rkS_yes rfl hg c]
        intro i j
        show (va_up _ _ _ : Nat → Nat → Nat) i j < 256
        unfold va_up
        split
        · exact ar2_lt (ar1_lt (ih _) _ _ _) (fun i => rsN_lt (hs k) hp hl hn w m J i) t j
        · exact ih i j
    · rw [rkS_full hg 1]; exact ih
theorem tuA_l8 {ln nu X : Nat → Nat} (h : ∀ j, ln j < 256) (hX : ∀ u, X u < 256) : ∀ q j, tuA ln nu X q j < 256
  | 0 => h
  | q + 1 => by rw [tuA]; exact va_up_lt (tuA_l8 h hX q) (hX q)
theorem tuB_l8 {pb nu : Nat → Nat} {w : Nat} {X : Nat → Nat → Nat} (h : ∀ j, pb j < 256) (hX : ∀ u i, X u i < 256) : ∀ q j, tuB pb nu w X q j < 256
  | 0 => h
  | q + 1 => by rw [tuB]; exact tkB_lt (tuB_l8 h hX q) _ _ _ (hX q)
theorem byS_cg {pl pm : Nat → Option Nat} {m ms : Nat} {bb : Nat → Nat} : ∀ J, (∀ j, j < J → pl (m + j) = pm (m + j)) → byS pl m ms bb J = byS pm m ms bb J
  | 0, _ => rfl
  | J + 1, h => by
    have ih := byS_cg (ms := ms) (bb := bb) J (fun j hj => h j (by omega))
    by_cases c : pl (m + J) ≠ none ∧ (byS pl m ms bb J).2 < ms
    · rw [byS_y c.1 c.2, byS_y (by rw [← h J (by omega)]; exact c.1) (by rw [← ih]; exact c.2), ih]
    · rw [byS_n c, byS_n (by rw [← h J (by omega), ← ih]; exact c), ih]
theorem unK_cg {pl pm : Nat → Option Nat} {nu : Nat → Nat} : ∀ n, (∀ j, j < n → pl j = pm j) → unK nu pl n = unK nu pm n
  | 0, _ => rfl
  | n + 1, h => by
    have ih := unK_cg (nu := nu) n (fun j hj => h j (by omega))
    have ec : cnt (fun j => pl j = none) n = cnt (fun j => pm j = none) n := cnt_ext (fun j hj => by show pl j = none ↔ pm j = none; rw [h j (by omega)])
    by_cases c : pl n = none
    · rw [unK_y c, unK_y (by rw [← h n (by omega)]; exact c), ih, ec]
    · rw [unK_n c, unK_n (by rw [← h n (by omega)]; exact c), ih]
theorem cnt_all {P : Nat → Prop} : ∀ m, (∀ i, i < m → P i) → cnt P m = m
  | 0, _ => rfl
  | m + 1, h => by rw [cnt_y (h m (by omega)), cnt_all m (fun i hi => h i (by omega))]
/-- what was copied is what the places tell -/
def RdE (m w : Nat) (pm : Nat → Option Nat) (L S Bf ml mt mg : Nat → Nat) : Prop := (∀ n, n < m → L n = eL pm ml n) ∧ (∀ n, n < m → S n = eL pm mt n) ∧ ∀ n i, n < m → i < w → Bf (n * w + i) = eL pm (fun n0 => mg (n0 * w + i)) n
theorem rdc_no {pl pm : Nat → Option Nat} {sb : Nat → Nat → Nat} {sl ml mt mg : Nat → Nat} {m w : Nat} (hpl : ∀ n, n < m → pl n = pm n) (hcp : Cpd pm sl w m ml mt mg) (hsb : ∀ n q, n < m → pl n = some q → ∀ j, j < w + 12 → sl (80 * q + j) = sb q j) (hw : 0 < w) : RdE m w pm (gL m pl sb) (gS m pl sb) (gB m w pl sb) ml mt mg := by
  refine ⟨fun n hn => ?_, fun n hn => ?_, fun n i hn hi => ?_⟩
  · unfold gL
    rw [if_pos hn]
    cases c : pl n with
    | none => rw [eL_n (by rw [← hpl n hn]; exact c)]
    | some q =>
      have c2 : pm n = some q := by rw [← hpl n hn]; exact c
      rw [eL_y (by rw [c2]; exact fun z => by cases z), (hcp n q hn c2).1]
      by_cases h6 : 6 < w + 12
      · exact (hsb n q hn c 6 h6).symm
      · exact absurd h6 (by omega)
  · unfold gS
    rw [if_pos hn]
    cases c : pl n with
    | none => rw [eL_n (by rw [← hpl n hn]; exact c)]
    | some q =>
      have c2 : pm n = some q := by rw [← hpl n hn]; exact c
      rw [eL_y (by rw [c2]; exact fun z => by cases z), (hcp n q hn c2).2.1]
      exact (hsb n q hn c 7 (by omega)).symm
  · have h1 := Nat.mul_le_mul_right w (show n + 1 ≤ m by omega)
    rw [Nat.succ_mul] at h1
    have e : (n * w + i) / w = n := div_of (by omega) (by omega)
    unfold gB
    rw [if_pos (by omega), e]
    cases c : pl n with
    | none => rw [eL_n (by rw [← hpl n hn]; exact c)]
    | some q =>
      have c2 : pm n = some q := by rw [← hpl n hn]; exact c
      rw [eL_y (by rw [c2]; exact fun z => by cases z), (hcp n q hn c2).2.2 i hi, show 80 * q + 12 + i = 80 * q + (12 + i) by omega]
      show sb q (12 + (n * w + i - n * w)) = _
      rw [show 12 + (n * w + i - n * w) = 12 + i by omega]
      exact (hsb n q hn c (12 + i) (by omega)).symm
theorem RdE_s {m w : Nat} {pm : Nat → Option Nat} {L S Bf ml mt mg : Nat → Nat} (h : RdE m w pm L S Bf ml mt mg) : ∀ n, n < m → L n ≠ 0 → S n = mt n := by
  intro n hn h0
  rw [h.2.1 n hn]
  refine eL_y (fun c => h0 ?_)
  rw [h.1 n hn, eL_n c]
theorem RdE_b {m w : Nat} {pm : Nat → Option Nat} {L S Bf ml mt mg : Nat → Nat} (hw : 0 < w) (h : RdE m w pm L S Bf ml mt mg) : ∀ p, kN L m w p → Bf p = mg p := by
  intro p ⟨h1, h2⟩
  have hn : p / w < m := by rw [Nat.div_lt_iff_lt_mul hw]; exact h1
  have hi := in_of hw (rfl : p / w = p / w)
  have e : p / w * w + (p - p / w * w) = p := by omega
  have h3 := h.2.2 (p / w) (p - p / w * w) hn (by omega)
  have hne : ¬ pm (p / w) = none := fun c => by
    rw [h.1 _ hn, eL_n c] at h2
    omega
  rw [eL_y hne, e] at h3
  exact h3
/-- what is made again is the same, too -/
theorem rdc_yes {pl pm : Nat → Option Nat} {L S Bf ml mt mg ml9 mt9 mg9 nu LK : Nat → Nat} {X : Nat → Nat → Nat} {m w ms : Nat} (h : RdE m w pm L S Bf ml mt mg) (hpl : ∀ n, n < m → pl n = pm n) (hLK : ∀ u, u < ms → LK u = nu u) (hon : ∀ n, n < m → pm n = none → ∃ u, u < ms ∧ LK u = n) (hno : ∀ u, u < ms → pm (LK u) = none) (hmo : ∀ u v, u < v → v < ms → LK u < LK v)
    (a1 : ∀ u, u < ms → ml9 (LK u) = X u 6) (a2 : ∀ n, (∀ u, u < ms → n ≠ LK u) → ml9 n = ml n) (a3 : ∀ u, u < ms → mt9 (LK u) = X u 7) (a4 : ∀ n, (∀ u, u < ms → n ≠ LK u) → mt9 n = mt n) (a5 : ∀ u, u < ms → ∀ i, i < w → mg9 (LK u * w + i) = X u (12 + i)) (a6 : ∀ p, (∀ u, u < ms → ¬ (LK u * w ≤ p ∧ p < LK u * w + w)) → mg9 p = mg p) : RdE m w (tuP pm LK ms) (tuA L nu (fun u => X u 6) ms) (tuA S nu (fun u => X u 7) ms) (tuB Bf nu w X ms) ml9 mt9 mg9 := by
  have hinj : ∀ a b, a < b → b < ms → nu a ≠ nu b := fun a b h1 h2 e => by
    have q := hmo a b h1 h2
    rw [hLK a (by omega), hLK b h2, e] at q
    omega
  refine ⟨fun n hn => ?_, fun n hn => ?_, fun n i hn hi => ?_⟩
  · by_cases c : pm n = none
    · obtain ⟨u, hu, rfl⟩ := hon n hn c
      rw [eL_y (by rw [tuP_hit hu]; exact fun z => by cases z), a1 u hu, hLK u hu]
      exact tuA_hit hinj hu
    · have ho : ∀ u, u < ms → n ≠ LK u := fun u hu e => c (by rw [e]; exact hno u hu)
      rw [tuA_out (fun u hu => by rw [← hLK u hu]; exact ho u hu), eL_y (by rw [tuP_out ho]; exact c), a2 n ho, h.1 n hn, eL_y c]
  · by_cases c : pm n = none
    · obtain ⟨u, hu, rfl⟩ := hon n hn c
      rw [eL_y (by rw [tuP_hit hu]; exact fun z => by cases z), a3 u hu, hLK u hu]
      exact tuA_hit (X := fun u => X u 7) hinj hu
    · have ho : ∀ u, u < ms → n ≠ LK u := fun u hu e => c (by rw [e]; exact hno u hu)
      rw [tuA_out (fun u hu => by rw [← hLK u hu]; exact ho u hu), eL_y (by rw [tuP_out ho]; exact c), a4 n ho, h.2.1 n hn, eL_y c]
  · by_cases c : pm n = none
    · obtain ⟨u, hu, rfl⟩ := hon n hn c
      rw [eL_y (by rw [tuP_hit hu]; exact fun z => by cases z), a5 u hu i hi, hLK u hu, tuB_hit hinj hu (by omega) (by omega), show 12 + (nu u * w + i - nu u * w) = 12 + i by omega]
    · have ho : ∀ u, u < ms → n ≠ LK u := fun u hu e => c (by rw [e]; exact hno u hu)
      have hf : ∀ u, u < ms → ¬ (LK u * w ≤ n * w + i ∧ n * w + i < LK u * w + w) := fun u hu => mul_far (ho u hu) (by omega) (by omega)
      rw [tuB_out (fun u hu => by rw [← hLK u hu]; exact hf u hu), eL_y (by rw [tuP_out ho]; exact c), a6 _ hf, h.2.2 n i hn hi, eL_y c]
