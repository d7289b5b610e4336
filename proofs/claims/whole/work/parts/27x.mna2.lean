theorem mz_ext (H1 : Heap) {n : Nat} (h : n ≤ H1.size) : (H1.extract 0 n).size = n ∧ ∀ q, q < n → (H1.extract 0 n)[q]? = H1[q]? := by
  refine ⟨by rw [Array.size_extract]; omega, fun q hq => ?_⟩
  rw [Array.getElem?_extract]
  rw [if_pos (by omega), Nat.zero_add]
def mz_q (a : Nat) : Nat → Option Nat := fun j => if j < 3 then some (a + (j + 1)) else none
abbrev mz_c0 : mn_C := .inl (0, 83, .inl (fun _ => 0))
/-- 'new int[3][83]' -/
theorem mn_mna {E : mn_En} {M : mn_M} {d w nc ns pc i : Nat} {ls : List (Nat × Value)} {st : List Value} {g : mn_H} {Q : Option Value → mn_H → Prop} (lk : Cond.classLink M.1.cls i "[[I" ∈ mn_W) (hov : Cond.arrayOver (.array .int) ∈ mn_NW) (harr : Cond.arrayClass .int ∈ mn_W) (hc1 : 4 ≤ nc) (hs1 : 252 ≤ ns) (hdg : decode M.2.1 pc = .ok (.multianewarray i 2, 4))
    (k : mn_R E M d w (nc - 4) (ns - 252) (pc + 4) ls (.ref g.1 :: st) (mn_push (mn_push (mn_push (mn_push g (.inl (2, 3, .inr (.inr (.inr (.inr (mz_q g.1))))))) mz_c0) mz_c0) mz_c0) Q) : mn_R E M d w nc ns pc ls (.int 83 :: .int 3 :: st) g Q := by
  intro p e s m args below meth c H locs cells slots lsr R X Y hl hr
  obtain ⟨R1, R2, R3, R4⟩ := id hr
  refine mz_W X.1 X.2.1 X.own (X.hts _ lk) (X.K.2 _ hov) (X.hts _ harr) (by omega) (by omega) hdg fun cA comp H1 f1 f2 z1 o1 e1 e2 => ?_
  have hid2 : E.2.2.1 2 = cA := by
    have h1 : s.vm.findClass ("[" ++ (FieldType.array .int).toString) = some (E.2.2.1 2) := (X.K.1.2 2 _ (mn_ty_get rfl)).2
    exact Option.some.inj (h1.symm.trans f1)
  have hid0 : E.2.2.1 0 = comp := by
    have h1 : s.vm.findClass ("[" ++ (FieldType.int).toString) = some (E.2.2.1 0) := (X.K.1.2 0 _ (mn_ty_get rfl)).2
    exact Option.some.inj (h1.symm.trans f2)
  have hg0 := Y.2.2.1
  have hHs : H.size = mn_Z E + g.1 := Y.2.1
  have hrow : ∀ j, j < 3 → va_at E.2.1 vwCl (mn_Z E + g.1 + (j + 1), mn_E E mz_c0) H1 := by
    intro j hj
    show H1[mn_Z E + g.1 + (j + 1)]? = some (vp_cell (E.2.2.1 0) (83, .inl (fun _ => 0)))
    rw [hid0, ← hHs, e2 j hj, mz_r0]
  have hout : va_at E.2.1 vwCl (mn_Z E + g.1, mn_E E (.inl (2, 3, .inr (.inr (.inr (.inr (mz_q g.1))))))) H1 := by
    show H1[mn_Z E + g.1]? = some (vp_cell (E.2.2.1 2) (3, .inr (.inr (.inr (.inr (fun i => (mz_q g.1 i).map (mn_ad E)))))))
    rw [hid2, ← hHs, e1, mz_o3, vp_cell_q]
    refine congrArg (fun f => some (arrV cA 3 f)) (funext fun j => ?_)
    unfold mz_q
    by_cases hj : j < 3
    · rw [if_pos hj, if_pos hj]
      show va_rf (some (H.size + (j + 1))) = va_rf (some (mn_ad E (g.1 + (j + 1))))
      rw [mn_ad_pos (by omega), hHs, Nat.add_assoc]
    · rw [if_neg hj, if_neg hj]
      rfl
  have cut : ∀ (n a : Nat) (x : va_E), a < n → n ≤ H1.size → (∃ q, x = .inl q) → va_at E.2.1 vwCl (a, x) H1 → va_at E.2.1 vwCl (a, x) (H1.extract 0 n) := by
    rintro n a x ha hn ⟨q, rfl⟩ hx
    show (H1.extract 0 n)[a]? = _
    rw [(mz_ext H1 hn).2 a ha]
    exact hx
  have x1 := mz_ext H1 (n := H.size + 1) (by omega)
  have x2 := mz_ext H1 (n := H.size + 2) (by omega)
  have x3 := mz_ext H1 (n := H.size + 3) (by omega)
  have Y1 : mn_Y E (mn_push g (.inl (2, 3, .inr (.inr (.inr (.inr (mz_q g.1))))))) s (H1.extract 0 (H.size + 1)) locs := Y.push x1.1 (fun q hq => by rw [x1.2 q (by omega)]; exact o1 q hq) (cut _ _ _ (by omega) (by omega) ⟨_, rfl⟩ hout)
  have Y2 : mn_Y E (mn_push (mn_push g (.inl (2, 3, .inr (.inr (.inr (.inr (mz_q g.1))))))) mz_c0) s (H1.extract 0 (H.size + 2)) locs := Y1.push (by rw [x1.1]; exact x2.1) (fun q hq => by rw [x1.1] at hq; rw [x1.2 q hq, x2.2 q (by omega)]) (cut _ _ _ (by show mn_Z E + (g.1 + 1) < _; omega) (by omega) ⟨_, rfl⟩ (hrow 0 (by decide)))
  have Y3 : mn_Y E (mn_push (mn_push (mn_push g (.inl (2, 3, .inr (.inr (.inr (.inr (mz_q g.1))))))) mz_c0) mz_c0) s (H1.extract 0 (H.size + 3)) locs := Y2.push (by rw [x2.1]; exact x3.1) (fun q hq => by rw [x2.1] at hq; rw [x2.2 q hq, x3.2 q (by omega)]) (cut _ _ _ (by show mn_Z E + (g.1 + 1 + 1) < _; omega) (by omega) ⟨_, rfl⟩ (hrow 1 (by decide)))
  have Y4 : mn_Y E (mn_push (mn_push (mn_push (mn_push g (.inl (2, 3, .inr (.inr (.inr (.inr (mz_q g.1))))))) mz_c0) mz_c0) mz_c0) s H1 locs := Y3.push (by rw [x3.1]; exact z1) (fun q hq => by rw [x3.1] at hq; rw [x3.2 q hq]) (hrow 2 (by decide))
  have hk := k p e s m args below meth c H1 locs (cells + 4) (slots + 252) lsr R X Y4 hl ⟨R1, R2, by omega, by omega⟩
  rw [hHs, ← mn_ad_pos (E := E) hg0]
  exact hk
