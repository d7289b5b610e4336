/-! the field of bytes -/
theorem tw_form : ∀ x, x < 256 → twN x = (x <<< 1) ^^^ (if x.testBit 7 then 285 else 0) := by decide +kernel
theorem tw_lt {x : Nat} (h : x < 256) : twN x < 256 := (tw_ck x h).2
theorem xor_4 (a b c d : Nat) : (a ^^^ b) ^^^ (c ^^^ d) = (a ^^^ c) ^^^ (b ^^^ d) := by
  rw [Nat.xor_assoc, Nat.xor_assoc, ← Nat.xor_assoc b c d, Nat.xor_comm b c, Nat.xor_assoc c b d]
theorem tw_xor {a b : Nat} (ha : a < 256) (hb : b < 256) : twN (a ^^^ b) = twN a ^^^ twN b := by
  rw [tw_form _ (xor_lt8 ha hb), tw_form a ha, tw_form b hb, xor_4, Nat.testBit_xor, Nat.shiftLeft_xor_distrib]
  congr 1
  cases a.testBit 7 <;> cases b.testBit 7 <;> decide
theorem tws_lt {x : Nat} (h : x < 256) (n : Nat) : twsN x n < 256 := (tws_nI h n).2
theorem tws_xor {a b : Nat} (ha : a < 256) (hb : b < 256) : ∀ k, twsN (a ^^^ b) k = twsN a k ^^^ twsN b k
  | 0 => rfl
  | k + 1 => by
    show twN (twsN (a ^^^ b) k) = twN (twsN a k) ^^^ twN (twsN b k)
    rw [tws_xor ha hb k, tw_xor (tws_lt ha k) (tws_lt hb k)]
theorem tws_add (x a : Nat) : ∀ b, twsN x (a + b) = twsN (twsN x a) b
  | 0 => rfl
  | b + 1 => by
    show twN (twsN x (a + b)) = twN (twsN (twsN x a) b)
    rw [tws_add x a b]
theorem tws_s (x k : Nat) : twsN (twN x) k = twN (twsN x k) := by
  have h := tws_add x 1 k
  rw [Nat.add_comm] at h
  exact h.symm
theorem pd_lt {a b : Nat} (ha : a < 256) (hb : b < 256) : pdN a b < 256 := (pdN_nI ha hb).2
theorem pdK_xl {a b : Nat} (ha : a < 256) (hb : b < 256) (c : Nat) : ∀ k, pdK (a ^^^ b) c k = pdK a c k ^^^ pdK b c k
  | 0 => by show 0 = 0 ^^^ 0; decide
  | k + 1 => by
    have ih := pdK_xl ha hb c k
    unfold pdK
    cases c.testBit k
    · exact ih
    · show pdK (a ^^^ b) c k ^^^ twsN (a ^^^ b) k = (pdK a c k ^^^ twsN a k) ^^^ (pdK b c k ^^^ twsN b k)
      rw [ih, tws_xor ha hb, xor_4]
theorem pd_xl {a b : Nat} (ha : a < 256) (hb : b < 256) (c : Nat) : pdN (a ^^^ b) c = pdN a c ^^^ pdN b c := pdK_xl ha hb c 8
theorem pdK_xr (a b c : Nat) : ∀ k, pdK a (b ^^^ c) k = pdK a b k ^^^ pdK a c k
  | 0 => by show 0 = 0 ^^^ 0; decide
  | k + 1 => by
    have ih := pdK_xr a b c k
    unfold pdK
    rw [Nat.testBit_xor]
    cases b.testBit k <;> cases c.testBit k
    · exact ih
    · show pdK a (b ^^^ c) k ^^^ twsN a k = pdK a b k ^^^ (pdK a c k ^^^ twsN a k)
      rw [ih, Nat.xor_assoc]
    · show pdK a (b ^^^ c) k ^^^ twsN a k = (pdK a b k ^^^ twsN a k) ^^^ pdK a c k
      rw [ih, Nat.xor_assoc, Nat.xor_assoc, Nat.xor_comm (pdK a c k)]
    · show pdK a (b ^^^ c) k = (pdK a b k ^^^ twsN a k) ^^^ (pdK a c k ^^^ twsN a k)
      rw [ih, xor_4, Nat.xor_self, Nat.xor_zero]
theorem pd_xr (a b c : Nat) : pdN a (b ^^^ c) = pdN a b ^^^ pdN a c := pdK_xr a b c 8
theorem pdK_tw {x : Nat} (hx : x < 256) (y : Nat) : ∀ k, k ≤ 8 → y < 256 → pdK (twN x) y k = twN (pdK x y k)
  | 0, _, _ => rfl
  | k + 1, hk, hy => by
    have ih := pdK_tw hx y k (by omega) hy
    have hl := (pdK_nI hx hy k (by omega)).2
    unfold pdK
    cases y.testBit k
    · exact ih
    · show pdK (twN x) y k ^^^ twsN (twN x) k = twN (pdK x y k ^^^ twsN x k)
      rw [ih, tws_s, tw_xor hl (tws_lt hx k)]
theorem pd_twl {x y : Nat} (hx : x < 256) (hy : y < 256) : pdN (twN x) y = twN (pdN x y) := pdK_tw hx y 8 (Nat.le_refl _) hy
theorem xor_ind {P : Nat → Prop} (h0 : P 0) (hb : ∀ i, i < 8 → P (2 ^ i)) (hx : ∀ a b, a < 256 → b < 256 → P a → P b → P (a ^^^ b)) : ∀ x, x < 256 → P x := by
  have key : ∀ n, n ≤ 8 → ∀ x, x < 2 ^ n → P x := by
    intro n
    induction n with
    | zero => intro _ x hx; rw [show x = 0 by omega]; exact h0
    | succ n ih =>
      intro hn x hx'
      have hp : 2 ^ (n + 1) = 2 * 2 ^ n := by rw [Nat.pow_succ, Nat.mul_comm]
      have h8 : 2 ^ n ≤ 2 ^ 7 := Nat.pow_le_pow_right (by decide) (by omega)
      rcases Nat.lt_or_ge x (2 ^ n) with h | h
      · exact ih (by omega) x h
      · have e : x = (x - 2 ^ n) ^^^ 2 ^ n := by
          have hy : x - 2 ^ n < 2 ^ n := by omega
          have h1 := Nat.two_pow_add_eq_or_of_lt hy 1
          rw [Nat.mul_one] at h1
          have h2 : (x - 2 ^ n) ^^^ 2 ^ n = 2 ^ n ||| (x - 2 ^ n) := by
            apply Nat.eq_of_testBit_eq
            intro i
            rw [Nat.testBit_xor, Nat.testBit_or, Nat.testBit_two_pow]
            by_cases hi : n = i
            · subst hi
              rw [Nat.testBit_lt_two_pow hy]
              simp
            · rw [decide_eq_false hi]
              simp
          rw [h2, ← h1]
          omega
        rw [e]
        exact hx _ _ (by omega) (by omega) (ih (by omega) _ (by omega)) (hb n (by omega))
  exact key 8 (Nat.le_refl _)
theorem pd_0l : ∀ y, y < 256 → pdN 0 y = 0 := by decide +kernel
theorem pd_0r : ∀ y, y < 256 → pdN y 0 = 0 := by decide +kernel
theorem pd_cb : ∀ i, i < 8 → ∀ y, y < 256 → pdN (2 ^ i) y = pdN y (2 ^ i) := by decide +kernel
theorem pd_comm {x y : Nat} (hx : x < 256) (hy : y < 256) : pdN x y = pdN y x := by
  refine xor_ind (P := fun x => pdN x y = pdN y x) ?_ (fun i hi => pd_cb i hi y hy) (fun a b ha hb h1 h2 => ?_) x hx
  · show pdN 0 y = pdN y 0
    rw [pd_0l y hy, pd_0r y hy]
  · show pdN (a ^^^ b) y = pdN y (a ^^^ b)
    rw [pd_xl ha hb, pd_xr, h1, h2]
theorem pd_twr {x y : Nat} (hx : x < 256) (hy : y < 256) : pdN x (twN y) = twN (pdN x y) := by
  rw [pd_comm hx (tw_lt hy), pd_twl hy hx, pd_comm hy hx]
theorem pd_twsr {x y : Nat} (hx : x < 256) (hy : y < 256) : ∀ k, pdN x (twsN y k) = twsN (pdN x y) k
  | 0 => rfl
  | k + 1 => by
    show pdN x (twN (twsN y k)) = twN (twsN (pdN x y) k)
    rw [pd_twr hx (tws_lt hy k), pd_twsr hx hy k]
theorem pd_pw {x : Nat} (hx : x < 256) (k : Nat) : pdN x (twsN 1 k) = twsN x k := by rw [pd_twsr hx (by decide), pd_1 x hx]
theorem two_tws : ∀ i, i < 8 → 2 ^ i = twsN 1 i := by decide +kernel
theorem pd_assoc {a b c : Nat} (ha : a < 256) (hb : b < 256) (hc : c < 256) : pdN (pdN a b) c = pdN a (pdN b c) := by
  have hab := pd_lt ha hb
  refine xor_ind (P := fun c => pdN (pdN a b) c = pdN a (pdN b c)) ?_ (fun i hi => ?_) (fun x y hx hy h1 h2 => ?_) c hc
  · show pdN (pdN a b) 0 = pdN a (pdN b 0)
    rw [pd_0r _ hab, pd_0r _ hb, pd_0r _ ha]
  · show pdN (pdN a b) (2 ^ i) = pdN a (pdN b (2 ^ i))
    rw [two_tws i hi, pd_pw hab, pd_pw hb, pd_twsr ha hb]
  · show pdN (pdN a b) (x ^^^ y) = pdN a (pdN b (x ^^^ y))
    rw [pd_xr, pd_xr, pd_xr, h1, h2]
def lgT : List Nat := [0, 0, 1, 25, 2, 50, 26, 198, 3, 223, 51, 238, 27, 104, 199, 75, 4, 100, 224, 14, 52, 141, 239, 129, 28, 193, 105, 248, 200, 8, 76, 113, 5, 138, 101, 47, 225, 36, 15, 33, 53, 147, 142, 218, 240, 18, 130, 69, 29, 181, 194, 125, 106, 39, 249, 185, 201, 154, 9, 120, 77, 228, 114, 166, 6, 191, 139, 98, 102, 221, 48, 253, 226, 152, 37, 179, 16, 145, 34, 136, 54, 208, 148, 206, 143, 150, 219, 189, 241, 210, 19, 92, 131, 56, 70, 64, 30, 66, 182, 163, 195, 72, 126, 110, 107, 58, 40, 84, 250, 133, 186, 61, 202, 94, 155, 159, 10, 21, 121, 43, 78, 212, 229, 172, 115, 243, 167, 87, 7, 112, 192, 247, 140, 128, 99, 13, 103, 74, 222, 237, 49, 197, 254, 24, 227, 165, 153, 119, 38, 184, 180, 124, 17, 68, 146, 217, 35, 32, 137, 46, 55, 63, 209, 91, 149, 188, 207, 205, 144, 135, 151, 178, 220, 252, 190, 97, 242, 86, 211, 171, 20, 42, 93, 158, 132, 60, 57, 83, 71, 109, 65, 162, 31, 45, 67, 216, 183, 123, 164, 118, 196, 23, 73, 236, 127, 12, 111, 246, 108, 161, 59, 82, 41, 157, 85, 170, 251, 96, 134, 177, 187, 204, 62, 90, 203, 89, 95, 176, 156, 169, 160, 81, 11, 245, 22, 235, 122, 117, 44, 215, 79, 174, 213, 233, 230, 231, 173, 232, 116, 214, 244, 234, 168, 80, 88, 175]
theorem lg_ok : ∀ p, p < 256 → p ≠ 0 → twsN 1 (lgT.getD p 0) = p := by decide +kernel
theorem tws_255 : twsN 1 255 = 1 := by decide +kernel
theorem tws_per : ∀ k, twsN 1 (255 * k) = 1
  | 0 => rfl
  | k + 1 => by rw [Nat.mul_succ, tws_add, tws_per k, tws_255]
theorem ov_pw (k : Nat) : ∀ n, ovK (twsN 1 k) n = twsN 1 (k * n)
  | 0 => rfl
  | n + 1 => by
    show pdN (ovK (twsN 1 k) n) (twsN 1 k) = twsN 1 (k * (n + 1))
    rw [ov_pw k n, pd_pw (tws_lt (by decide) _), Nat.mul_succ, tws_add]
theorem ov_inv {p : Nat} (hp : p < 256) (h0 : p ≠ 0) : pdN (ovK p 254) p = 1 := by
  have e := lg_ok p hp h0
  show ovK p 255 = 1
  rw [← e, ov_pw, Nat.mul_comm, tws_per]
theorem pd_1l {x : Nat} (hx : x < 256) : pdN 1 x = x := by rw [pd_comm (by decide) hx, pd_1 x hx]
theorem ov_uni {p b : Nat} (hp : p < 256) (h0 : p ≠ 0) (hb : b < 256) (h : pdN p b = 1) : b = ovK p 254 := by
  have h1 := pd_assoc (ovK_lt hp 254) hp hb
  rw [ov_inv hp h0, h, pd_1l hb, pd_1 _ (ovK_lt hp 254)] at h1
  exact h1
theorem iv_ov {p : Nat} (hp : p < 256) (h0 : p ≠ 0) : ivN p = ovK p 254 := by
  have hl := ovK_lt hp 254
  have hinv : pdN p (ovK p 254) = 1 := by rw [pd_comm hp hl]; exact ov_inv hp h0
  have hne : ovK p 254 ≠ 0 := fun e => by rw [e, pd_0r p hp] at hinv; cases hinv
  unfold ivN
  cases hf : fst' (fun b => pdN p b = 1) 256 255 with
  | none => exact absurd hinv (fst_none (by decide) hf _ (by omega) hl)
  | some b =>
    obtain ⟨-, b1, b2, -⟩ := fst_some (by decide) hf
    exact ov_uni hp h0 b1 b2
theorem pd_nz {a b : Nat} (ha : a < 256) (hb : b < 256) (h1 : a ≠ 0) (h2 : b ≠ 0) : pdN a b ≠ 0 := fun e => by
  have h := pd_assoc (ovK_lt ha 254) ha hb
  rw [e, ov_inv ha h1, pd_1l hb, pd_0r _ (ovK_lt ha 254)] at h
  exact h2 h
theorem tws_nz {x : Nat} (hx : x < 256) (h : x ≠ 0) (k : Nat) : twsN x k ≠ 0 := by
  rw [← pd_pw hx k]
  refine pd_nz hx (tws_lt (by decide) k) h (fun e => ?_)
  have h1 : ∀ k, twsN 1 k ≠ 0 := by
    intro k
    induction k with
    | zero => decide
    | succ k ih =>
      have h2 : ∀ y, y < 256 → y ≠ 0 → twN y ≠ 0 := by decide +kernel
      exact h2 _ (tws_lt (by decide) k) ih
  exact h1 k e
theorem tws_d : ∀ d, d < 255 → d ≠ 0 → twsN 1 d ≠ 1 := by decide +kernel
theorem pd_can {a b c : Nat} (ha : a < 256) (hb : b < 256) (hc : c < 256) (h0 : c ≠ 0) (h : pdN a c = pdN b c) : a = b := by
  have hl := ovK_lt hc 254
  have h1 := pd_assoc ha hc hl
  have h2 := pd_assoc hb hc hl
  have hi : pdN c (ovK c 254) = 1 := by rw [pd_comm hc hl]; exact ov_inv hc h0
  rw [hi, pd_1 _ ha] at h1
  rw [hi, pd_1 _ hb] at h2
  rw [← h1, ← h2, h]
theorem tws_inj {i j : Nat} (hij : i < j) (hj : j - i < 255) : twsN 1 i ≠ twsN 1 j := fun e => by
  have e2 : twsN 1 j = twsN (twsN 1 (j - i)) i := by rw [← tws_add, show j - i + i = j by omega]
  have hl := tws_lt (show 1 < 256 by decide) (j - i)
  have e3 : pdN 1 (twsN 1 i) = pdN (twsN 1 (j - i)) (twsN 1 i) := by rw [pd_pw hl i, pd_pw (show 1 < 256 by decide) i, ← e2]; exact e
  exact tws_d (j - i) hj (by omega) (pd_can (a := 1) (c := twsN 1 i) (by decide) hl (tws_lt (by decide) i) (tws_nz (by decide) (by decide) i) e3).symm
/-- what the reference mixes is what the class mixes -/
def xK (F : Nat → Nat) (j : Nat) : Nat → Nat
  | 0 => 0
  | k + 1 => xK F j k ^^^ pdN (twsN 1 (j * k)) (F k)
theorem xK_lt {F : Nat → Nat} (hF : ∀ n, F n < 256) (j : Nat) : ∀ k, xK F j k < 256
  | 0 => by show 0 < 256; decide
  | k + 1 => xor_lt8 (xK_lt hF j k) (pd_lt (tws_lt (by decide) _) (hF k))
theorem tws_0 : ∀ k, twsN 0 k = 0
  | 0 => rfl
  | k + 1 => by show twN (twsN 0 k) = 0; rw [tws_0 k]; rfl
/-- a sum of powers, from a to a + t - 1 -/
def smP (F : Nat → Nat) (j a : Nat) : Nat → Nat
  | 0 => 0
  | t + 1 => twsN (smP F j (a + 1) t) j ^^^ F a
theorem smP_lt {F : Nat → Nat} (hF : ∀ n, F n < 256) (j : Nat) : ∀ t a, smP F j a t < 256
  | 0, _ => by show 0 < 256; decide
  | t + 1, a => xor_lt8 (tws_lt (smP_lt hF j t (a + 1)) j) (hF a)
theorem hor_smP (F : Nat → Nat) (j m : Nat) : ∀ t, t ≤ m → horN F j m t = smP F j (m - t) t
  | 0, _ => rfl
  | t + 1, h => by
    show twsN (horN F j m t) j ^^^ F (m - 1 - t) = twsN (smP F j (m - (t + 1) + 1) t) j ^^^ F (m - (t + 1))
    rw [hor_smP F j m t (by omega), show m - (t + 1) + 1 = m - t by omega, show m - 1 - t = m - (t + 1) by omega]
theorem smP_end {F : Nat → Nat} (hF : ∀ n, F n < 256) (j : Nat) : ∀ t a, smP F j a (t + 1) = smP F j a t ^^^ twsN (F (a + t)) (j * t)
  | 0, a => by
    show twsN 0 j ^^^ F a = 0 ^^^ twsN (F (a + 0)) (j * 0)
    rw [tws_0]
    rfl
  | t + 1, a => by
    show twsN (smP F j (a + 1) (t + 1)) j ^^^ F a = (twsN (smP F j (a + 1) t) j ^^^ F a) ^^^ twsN (F (a + (t + 1))) (j * (t + 1))
    rw [smP_end hF j t (a + 1), tws_xor (smP_lt hF j t _) (tws_lt (hF _) _), ← tws_add, show j * t + j = j * (t + 1) by rw [Nat.mul_succ], show a + 1 + t = a + (t + 1) by omega]
    rw [Nat.xor_assoc, Nat.xor_comm (twsN (F (a + (t + 1))) (j * (t + 1))), ← Nat.xor_assoc]
theorem xK_smP {F : Nat → Nat} (hF : ∀ n, F n < 256) (j : Nat) : ∀ t, xK F j t = smP F j 0 t
  | 0 => rfl
  | t + 1 => by
    rw [smP_end hF j t 0, ← xK_smP hF j t, Nat.zero_add]
    show xK F j t ^^^ pdN (twsN 1 (j * t)) (F t) = _
    rw [pd_comm (tws_lt (by decide) _) (hF t), pd_pw (hF t)]
theorem mix_eq {F : Nat → Nat} (hF : ∀ n, F n < 256) (j m : Nat) : xK F j m = horN F j m m := by
  rw [xK_smP hF, hor_smP F j m m (Nat.le_refl _), Nat.sub_self]
