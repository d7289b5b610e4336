section
def lw_okq (q : MethodName × Nat) : Prop := (q.1.cls ≠ "java/lang/invoke/MethodHandle" ∧ q.1.cls ≠ "java/lang/invoke/VarHandle") ∧ Cond.instantiable q.1.cls q.2 ∈ tables_1 ∧ Cond.privateMethod q.1 ∈ tables_1 ∧ Cond.instanceMethod q.1 ∈ tables_1
theorem lw_p0 : lw_okq (⟨"VolumeSets$Tape", "add", "(I)V"⟩, 2) := ⟨⟨by decide +kernel, by decide +kernel⟩, List.mem_of_getElem? (i := 26) (by decide +kernel), List.mem_of_getElem? (i := 270) (by decide +kernel), List.mem_of_getElem? (i := 271) (by decide +kernel)⟩
theorem lw_p1 : lw_okq (⟨"VolumeSets$Stream", "add", "(I)V"⟩, 4) := ⟨⟨by decide +kernel, by decide +kernel⟩, List.mem_of_getElem? (i := 42) (by decide +kernel), List.mem_of_getElem? (i := 295) (by decide +kernel), List.mem_of_getElem? (i := 296) (by decide +kernel)⟩
theorem lw_p2 : lw_okq (⟨"VolumeSets$Rules", "changeSize", "(I)I"⟩, 3) := ⟨⟨by decide +kernel, by decide +kernel⟩, List.mem_of_getElem? (i := 95) (by decide +kernel), List.mem_of_getElem? (i := 330) (by decide +kernel), List.mem_of_getElem? (i := 331) (by decide +kernel)⟩
theorem lw_p3 : lw_okq (⟨"VolumeSets$Rules", "changeRepairs", "(I)I"⟩, 3) := ⟨⟨by decide +kernel, by decide +kernel⟩, List.mem_of_getElem? (i := 95) (by decide +kernel), List.mem_of_getElem? (i := 334) (by decide +kernel), List.mem_of_getElem? (i := 335) (by decide +kernel)⟩
theorem lw_p4 : lw_okq (⟨"VolumeSets$Rules", "changeSet", "(I)I"⟩, 3) := ⟨⟨by decide +kernel, by decide +kernel⟩, List.mem_of_getElem? (i := 95) (by decide +kernel), List.mem_of_getElem? (i := 338) (by decide +kernel), List.mem_of_getElem? (i := 339) (by decide +kernel)⟩
theorem lw_p5 : lw_okq (⟨"VolumeSets$Stream", "startIn", "(II)I"⟩, 4) := ⟨⟨by decide +kernel, by decide +kernel⟩, List.mem_of_getElem? (i := 42) (by decide +kernel), List.mem_of_getElem? (i := 376) (by decide +kernel), List.mem_of_getElem? (i := 377) (by decide +kernel)⟩
theorem lw_p6 : lw_okq (⟨"VolumeSets$Volume", "putSum", "(II)V"⟩, 2) := ⟨⟨by decide +kernel, by decide +kernel⟩, List.mem_of_getElem? (i := 123) (by decide +kernel), List.mem_of_getElem? (i := 412) (by decide +kernel), List.mem_of_getElem? (i := 413) (by decide +kernel)⟩
theorem lw_p7 : lw_okq (⟨"VolumeSets$Volume", "sumAt", "(I)I"⟩, 2) := ⟨⟨by decide +kernel, by decide +kernel⟩, List.mem_of_getElem? (i := 123) (by decide +kernel), List.mem_of_getElem? (i := 502) (by decide +kernel), List.mem_of_getElem? (i := 503) (by decide +kernel)⟩
theorem lw_p8 : lw_okq (⟨"VolumeSets$Reading", "begin", "(LVolumeSets$Volume;)V"⟩, 8) := ⟨⟨by decide +kernel, by decide +kernel⟩, List.mem_of_getElem? (i := 159) (by decide +kernel), List.mem_of_getElem? (i := 524) (by decide +kernel), List.mem_of_getElem? (i := 525) (by decide +kernel)⟩
theorem lw_p9 : lw_okq (⟨"VolumeSets$Reading", "take", "(LVolumeSets$Volume;I)V"⟩, 8) := ⟨⟨by decide +kernel, by decide +kernel⟩, List.mem_of_getElem? (i := 159) (by decide +kernel), List.mem_of_getElem? (i := 537) (by decide +kernel), List.mem_of_getElem? (i := 538) (by decide +kernel)⟩
theorem lw_p10 : lw_okq (⟨"VolumeSets$Reading", "setPlace", "(II)V"⟩, 8) := ⟨⟨by decide +kernel, by decide +kernel⟩, List.mem_of_getElem? (i := 159) (by decide +kernel), List.mem_of_getElem? (i := 545) (by decide +kernel), List.mem_of_getElem? (i := 546) (by decide +kernel)⟩
theorem lw_p11 : lw_okq (⟨"VolumeSets$Reading", "makeAgain", "(LVolumeSets$Slots;)V"⟩, 8) := ⟨⟨by decide +kernel, by decide +kernel⟩, List.mem_of_getElem? (i := 159) (by decide +kernel), List.mem_of_getElem? (i := 550) (by decide +kernel), List.mem_of_getElem? (i := 551) (by decide +kernel)⟩
theorem lw_p12 : lw_okq (⟨"VolumeSets$Reading", "repairsOfIt", "()I"⟩, 8) := ⟨⟨by decide +kernel, by decide +kernel⟩, List.mem_of_getElem? (i := 159) (by decide +kernel), List.mem_of_getElem? (i := 554) (by decide +kernel), List.mem_of_getElem? (i := 555) (by decide +kernel)⟩
theorem lw_p13 : lw_okq (⟨"VolumeSets$Equations", "scale", "(II)V"⟩, 4) := ⟨⟨by decide +kernel, by decide +kernel⟩, List.mem_of_getElem? (i := 167) (by decide +kernel), List.mem_of_getElem? (i := 583) (by decide +kernel), List.mem_of_getElem? (i := 584) (by decide +kernel)⟩
theorem lw_p14 : lw_okq (⟨"VolumeSets$Equations", "addTo", "(III)V"⟩, 4) := ⟨⟨by decide +kernel, by decide +kernel⟩, List.mem_of_getElem? (i := 167) (by decide +kernel), List.mem_of_getElem? (i := 588) (by decide +kernel), List.mem_of_getElem? (i := 589) (by decide +kernel)⟩
theorem lw_p15 : lw_okq (⟨"VolumeSets$Reading", "takeUnknowns", "()V"⟩, 8) := ⟨⟨by decide +kernel, by decide +kernel⟩, List.mem_of_getElem? (i := 159) (by decide +kernel), List.mem_of_getElem? (i := 592) (by decide +kernel), List.mem_of_getElem? (i := 593) (by decide +kernel)⟩
def lw_privs_1 : List (MethodName × Nat) := [(⟨"VolumeSets$Tape", "add", "(I)V"⟩, 2), (⟨"VolumeSets$Stream", "add", "(I)V"⟩, 4), (⟨"VolumeSets$Rules", "changeSize", "(I)I"⟩, 3), (⟨"VolumeSets$Rules", "changeRepairs", "(I)I"⟩, 3), (⟨"VolumeSets$Rules", "changeSet", "(I)I"⟩, 3), (⟨"VolumeSets$Stream", "startIn", "(II)I"⟩, 4), (⟨"VolumeSets$Volume", "putSum", "(II)V"⟩, 2), (⟨"VolumeSets$Volume", "sumAt", "(I)I"⟩, 2), (⟨"VolumeSets$Reading", "begin", "(LVolumeSets$Volume;)V"⟩, 8), (⟨"VolumeSets$Reading", "take", "(LVolumeSets$Volume;I)V"⟩, 8), (⟨"VolumeSets$Reading", "setPlace", "(II)V"⟩, 8), (⟨"VolumeSets$Reading", "makeAgain", "(LVolumeSets$Slots;)V"⟩, 8), (⟨"VolumeSets$Reading", "repairsOfIt", "()I"⟩, 8), (⟨"VolumeSets$Equations", "scale", "(II)V"⟩, 4), (⟨"VolumeSets$Equations", "addTo", "(III)V"⟩, 4), (⟨"VolumeSets$Reading", "takeUnknowns", "()V"⟩, 8)]
theorem lw_r1 : ∀ q ∈ lw_privs_1, lw_okq q := List.forall_mem_cons.mpr ⟨lw_p0, List.forall_mem_cons.mpr ⟨lw_p1, List.forall_mem_cons.mpr ⟨lw_p2, List.forall_mem_cons.mpr ⟨lw_p3, List.forall_mem_cons.mpr ⟨lw_p4, List.forall_mem_cons.mpr ⟨lw_p5, List.forall_mem_cons.mpr ⟨lw_p6, List.forall_mem_cons.mpr ⟨lw_p7, List.forall_mem_cons.mpr ⟨lw_p8, List.forall_mem_cons.mpr ⟨lw_p9, List.forall_mem_cons.mpr ⟨lw_p10, List.forall_mem_cons.mpr ⟨lw_p11, List.forall_mem_cons.mpr ⟨lw_p12, List.forall_mem_cons.mpr ⟨lw_p13, List.forall_mem_cons.mpr ⟨lw_p14, List.forall_mem_cons.mpr ⟨lw_p15, fun _ h => absurd h List.not_mem_nil⟩⟩⟩⟩⟩⟩⟩⟩⟩⟩⟩⟩⟩⟩⟩⟩
theorem lw_p16 : lw_okq (⟨"VolumeSets$Pieces", "startBehind", "(I)I"⟩, 5) := ⟨⟨by decide +kernel, by decide +kernel⟩, List.mem_of_getElem? (i := 48) (by decide +kernel), List.mem_of_getElem? (i := 621) (by decide +kernel), List.mem_of_getElem? (i := 622) (by decide +kernel)⟩
theorem lw_p17 : lw_okq (⟨"VolumeSetsModel", "pieces", "()I"⟩, 29) := ⟨⟨by decide +kernel, by decide +kernel⟩, List.mem_of_getElem? (i := 675) (by decide +kernel), List.mem_of_getElem? (i := 803) (by decide +kernel), List.mem_of_getElem? (i := 804) (by decide +kernel)⟩
theorem lw_p18 : lw_okq (⟨"VolumeSetsModel", "length", "()I"⟩, 29) := ⟨⟨by decide +kernel, by decide +kernel⟩, List.mem_of_getElem? (i := 675) (by decide +kernel), List.mem_of_getElem? (i := 807) (by decide +kernel), List.mem_of_getElem? (i := 808) (by decide +kernel)⟩
theorem lw_p19 : lw_okq (⟨"VolumeSetsModel", "piece", "()I"⟩, 29) := ⟨⟨by decide +kernel, by decide +kernel⟩, List.mem_of_getElem? (i := 675) (by decide +kernel), List.mem_of_getElem? (i := 811) (by decide +kernel), List.mem_of_getElem? (i := 812) (by decide +kernel)⟩
theorem lw_p20 : lw_okq (⟨"VolumeSetsModel", "make", "(I)V"⟩, 29) := ⟨⟨by decide +kernel, by decide +kernel⟩, List.mem_of_getElem? (i := 675) (by decide +kernel), List.mem_of_getElem? (i := 820) (by decide +kernel), List.mem_of_getElem? (i := 821) (by decide +kernel)⟩
theorem lw_p21 : lw_okq (⟨"VolumeSetsModel", "ofVolume", "(II)I"⟩, 29) := ⟨⟨by decide +kernel, by decide +kernel⟩, List.mem_of_getElem? (i := 675) (by decide +kernel), List.mem_of_getElem? (i := 824) (by decide +kernel), List.mem_of_getElem? (i := 825) (by decide +kernel)⟩
theorem lw_p22 : lw_okq (⟨"VolumeSetsModel", "ofPiece", "(II)I"⟩, 29) := ⟨⟨by decide +kernel, by decide +kernel⟩, List.mem_of_getElem? (i := 675) (by decide +kernel), List.mem_of_getElem? (i := 828) (by decide +kernel), List.mem_of_getElem? (i := 829) (by decide +kernel)⟩
theorem lw_p23 : lw_okq (⟨"VolumeSetsModel", "isThere", "()Z"⟩, 29) := ⟨⟨by decide +kernel, by decide +kernel⟩, List.mem_of_getElem? (i := 675) (by decide +kernel), List.mem_of_getElem? (i := 842) (by decide +kernel), List.mem_of_getElem? (i := 843) (by decide +kernel)⟩
theorem lw_p24 : lw_okq (⟨"VolumeSetsModel", "emptySlots", "()I"⟩, 29) := ⟨⟨by decide +kernel, by decide +kernel⟩, List.mem_of_getElem? (i := 675) (by decide +kernel), List.mem_of_getElem? (i := 846) (by decide +kernel), List.mem_of_getElem? (i := 847) (by decide +kernel)⟩
theorem lw_p25 : lw_okq (⟨"VolumeSetsModel", "lay", "(I)V"⟩, 29) := ⟨⟨by decide +kernel, by decide +kernel⟩, List.mem_of_getElem? (i := 675) (by decide +kernel), List.mem_of_getElem? (i := 850) (by decide +kernel), List.mem_of_getElem? (i := 851) (by decide +kernel)⟩
theorem lw_p26 : lw_okq (⟨"VolumeSetsModel", "noSlot", "(I)Z"⟩, 29) := ⟨⟨by decide +kernel, by decide +kernel⟩, List.mem_of_getElem? (i := 675) (by decide +kernel), List.mem_of_getElem? (i := 858) (by decide +kernel), List.mem_of_getElem? (i := 859) (by decide +kernel)⟩
theorem lw_p27 : lw_okq (⟨"VolumeSetsModel", "state", "(I)I"⟩, 29) := ⟨⟨by decide +kernel, by decide +kernel⟩, List.mem_of_getElem? (i := 675) (by decide +kernel), List.mem_of_getElem? (i := 878) (by decide +kernel), List.mem_of_getElem? (i := 879) (by decide +kernel)⟩
theorem lw_p28 : lw_okq (⟨"VolumeSetsModel", "two", "(I)I"⟩, 29) := ⟨⟨by decide +kernel, by decide +kernel⟩, List.mem_of_getElem? (i := 675) (by decide +kernel), List.mem_of_getElem? (i := 882) (by decide +kernel), List.mem_of_getElem? (i := 883) (by decide +kernel)⟩
theorem lw_p29 : lw_okq (⟨"VolumeSetsModel", "makeAgain", "()V"⟩, 29) := ⟨⟨by decide +kernel, by decide +kernel⟩, List.mem_of_getElem? (i := 675) (by decide +kernel), List.mem_of_getElem? (i := 890) (by decide +kernel), List.mem_of_getElem? (i := 891) (by decide +kernel)⟩
theorem lw_p30 : lw_okq (⟨"VolumeSetsModel", "solve", "(II)V"⟩, 29) := ⟨⟨by decide +kernel, by decide +kernel⟩, List.mem_of_getElem? (i := 675) (by decide +kernel), List.mem_of_getElem? (i := 894) (by decide +kernel), List.mem_of_getElem? (i := 895) (by decide +kernel)⟩
theorem lw_p31 : lw_okq (⟨"VolumeSetsModel", "known", "(II)I"⟩, 29) := ⟨⟨by decide +kernel, by decide +kernel⟩, List.mem_of_getElem? (i := 675) (by decide +kernel), List.mem_of_getElem? (i := 898) (by decide +kernel), List.mem_of_getElem? (i := 899) (by decide +kernel)⟩
def lw_privs_2 : List (MethodName × Nat) := [(⟨"VolumeSets$Pieces", "startBehind", "(I)I"⟩, 5), (⟨"VolumeSetsModel", "pieces", "()I"⟩, 29), (⟨"VolumeSetsModel", "length", "()I"⟩, 29), (⟨"VolumeSetsModel", "piece", "()I"⟩, 29), (⟨"VolumeSetsModel", "make", "(I)V"⟩, 29), (⟨"VolumeSetsModel", "ofVolume", "(II)I"⟩, 29), (⟨"VolumeSetsModel", "ofPiece", "(II)I"⟩, 29), (⟨"VolumeSetsModel", "isThere", "()Z"⟩, 29), (⟨"VolumeSetsModel", "emptySlots", "()I"⟩, 29), (⟨"VolumeSetsModel", "lay", "(I)V"⟩, 29), (⟨"VolumeSetsModel", "noSlot", "(I)Z"⟩, 29), (⟨"VolumeSetsModel", "state", "(I)I"⟩, 29), (⟨"VolumeSetsModel", "two", "(I)I"⟩, 29), (⟨"VolumeSetsModel", "makeAgain", "()V"⟩, 29), (⟨"VolumeSetsModel", "solve", "(II)V"⟩, 29), (⟨"VolumeSetsModel", "known", "(II)I"⟩, 29)]
theorem lw_r2 : ∀ q ∈ lw_privs_2, lw_okq q := List.forall_mem_cons.mpr ⟨lw_p16, List.forall_mem_cons.mpr ⟨lw_p17, List.forall_mem_cons.mpr ⟨lw_p18, List.forall_mem_cons.mpr ⟨lw_p19, List.forall_mem_cons.mpr ⟨lw_p20, List.forall_mem_cons.mpr ⟨lw_p21, List.forall_mem_cons.mpr ⟨lw_p22, List.forall_mem_cons.mpr ⟨lw_p23, List.forall_mem_cons.mpr ⟨lw_p24, List.forall_mem_cons.mpr ⟨lw_p25, List.forall_mem_cons.mpr ⟨lw_p26, List.forall_mem_cons.mpr ⟨lw_p27, List.forall_mem_cons.mpr ⟨lw_p28, List.forall_mem_cons.mpr ⟨lw_p29, List.forall_mem_cons.mpr ⟨lw_p30, List.forall_mem_cons.mpr ⟨lw_p31, fun _ h => absurd h List.not_mem_nil⟩⟩⟩⟩⟩⟩⟩⟩⟩⟩⟩⟩⟩⟩⟩⟩
theorem lw_p32 : lw_okq (⟨"VolumeSetsModel", "open", "()V"⟩, 29) := ⟨⟨by decide +kernel, by decide +kernel⟩, List.mem_of_getElem? (i := 675) (by decide +kernel), List.mem_of_getElem? (i := 905) (by decide +kernel), List.mem_of_getElem? (i := 906) (by decide +kernel)⟩
theorem lw_p33 : lw_okq (⟨"VolumeSetsModel", "isKnown", "(I)Z"⟩, 29) := ⟨⟨by decide +kernel, by decide +kernel⟩, List.mem_of_getElem? (i := 675) (by decide +kernel), List.mem_of_getElem? (i := 909) (by decide +kernel), List.mem_of_getElem? (i := 910) (by decide +kernel)⟩
theorem lw_p34 : lw_okq (⟨"VolumeSetsModel", "isWhole", "(II)Z"⟩, 29) := ⟨⟨by decide +kernel, by decide +kernel⟩, List.mem_of_getElem? (i := 675) (by decide +kernel), List.mem_of_getElem? (i := 913) (by decide +kernel), List.mem_of_getElem? (i := 914) (by decide +kernel)⟩
def lw_privs_3 : List (MethodName × Nat) := [(⟨"VolumeSetsModel", "open", "()V"⟩, 29), (⟨"VolumeSetsModel", "isKnown", "(I)Z"⟩, 29), (⟨"VolumeSetsModel", "isWhole", "(II)Z"⟩, 29)]
theorem lw_r3 : ∀ q ∈ lw_privs_3, lw_okq q := List.forall_mem_cons.mpr ⟨lw_p32, List.forall_mem_cons.mpr ⟨lw_p33, List.forall_mem_cons.mpr ⟨lw_p34, fun _ h => absurd h List.not_mem_nil⟩⟩⟩
def lw_privs : List (MethodName × Nat) := lw_privs_1 ++ (lw_privs_2 ++ (lw_privs_3))
def lw_tbl : List Cond := k2_sels lw_privs ++ tables_1
theorem lw_privs_ok : ∀ q ∈ lw_privs, lw_okq q := by
  show ∀ q ∈ lw_privs_1 ++ (lw_privs_2 ++ (lw_privs_3)), lw_okq q
  exact List.forall_mem_append.mpr ⟨lw_r1, List.forall_mem_append.mpr ⟨lw_r2, lw_r3⟩⟩
end
section
/-! MINE: a small world. Cells at small numbers (0: the script; 1 and on: those that are made, in the order of their making), read and written by plain functions; the machine's own world is its picture. -/
abbrev mn_C : Type := (Nat × vp_A) ⊕ (Nat × List Value)
abbrev mn_H : Type := Nat × (Nat → mn_C)
/-- launch; numbers and slots of the classes; classes of the arrays; the script's cell; the last cell ahead of ours; the script's length; its ints -/
abbrev mn_En : Type := Launch × va_G × (Nat → ClassId) × Nat × Nat × Nat × (Nat → Int32)
/-- a method: its name, its bytes, its locals, its answer -/
abbrev mn_M : Type := MethodName × ByteArray × Nat × Option FieldType
abbrev mn_Z (E : mn_En) : Nat := E.2.2.2.2.1
abbrev mn_F (E : mn_En) : Nat → Prop := fun q => mn_Z E < q
def mn_ad (E : mn_En) (k : Nat) : Nat := if k = 0 then E.2.2.2.1 else mn_Z E + k
def mn_v (E : mn_En) (v : Value) : Value := match v with
  | .ref k => .ref (mn_ad E k)
  | w => w
def mn_A (E : mn_En) (x : vp_A) : vp_A := (x.1, match x.2 with
  | .inr (.inr (.inr (.inr f))) => .inr (.inr (.inr (.inr (fun i => (f i).map (mn_ad E)))))
  | y => y)
def mn_E (E : mn_En) (c : mn_C) : va_E := match c with
  | .inl q => .inl (E.2.2.1 q.1, mn_A E q.2)
  | .inr q => .inr (q.1, q.2.map (mn_v E))
def mn_ws (E : mn_En) (g : mn_H) : va_W := (List.range (g.1 - 1)).map (fun k => (mn_Z E + (k + 1), mn_E E (g.2 (k + 1))))
def mn_at (g : mn_H) (a : Nat) (c : mn_C) : Prop := 0 < a ∧ a < g.1 ∧ g.2 a = c
def mn_set (g : mn_H) (a : Nat) (c : mn_C) : mn_H := (g.1, fun q => if q = a then c else g.2 q)
def mn_push (g : mn_H) (c : mn_C) : mn_H := (g.1 + 1, fun q => if q = g.1 then c else g.2 q)
theorem mn_at.same {g : mn_H} {a : Nat} {c c' : mn_C} (h : mn_at g a c) : mn_at (mn_set g a c') a c' := ⟨h.1, h.2.1, if_pos rfl⟩
theorem mn_at.off {g : mn_H} {a b : Nat} {c c' : mn_C} (h : mn_at g b c) (hne : b ≠ a) : mn_at (mn_set g a c') b c := ⟨h.1, h.2.1, by show (if b = a then c' else g.2 b) = c; rw [if_neg hne]; exact h.2.2⟩
theorem mn_at.ne {g : mn_H} {a b : Nat} {c c' : mn_C} (h : mn_at g a c) (h' : mn_at g b c') (hc : c ≠ c') : a ≠ b := fun e => hc (by rw [← h.2.2, ← h'.2.2, e])
theorem mn_at.push {g : mn_H} {a : Nat} {c c' : mn_C} (h : mn_at g a c) : mn_at (mn_push g c') a c := ⟨h.1, Nat.lt_succ_of_lt h.2.1, by show (if a = g.1 then c' else g.2 a) = c; rw [if_neg (Nat.ne_of_lt h.2.1)]; exact h.2.2⟩
theorem mn_at_new {g : mn_H} {c : mn_C} (h : 0 < g.1) : mn_at (mn_push g c) g.1 c := ⟨h, Nat.lt_succ_self _, if_pos rfl⟩
theorem mn_at.inj {g : mn_H} {a : Nat} {c c' : mn_C} (h : mn_at g a c) (h' : mn_at g a c') : c = c' := h.2.2.symm.trans h'.2.2
theorem mn_set_set {g : mn_H} {a : Nat} {c c' : mn_C} : mn_set (mn_set g a c) a c' = mn_set g a c' := by
  unfold mn_set
  refine Prod.ext rfl ?_
  funext q
  by_cases h : q = a
  · simp [h]
  · simp [h]
theorem mn_set_id {g : mn_H} {a : Nat} {c : mn_C} (h : mn_at g a c) : mn_set g a c = g := by
  unfold mn_set
  refine Prod.ext rfl ?_
  funext q
  by_cases hq : q = a
  · subst hq; simp [h.2.2]
  · simp [hq]
theorem mn_set_comm {g : mn_H} {a b : Nat} {c c' : mn_C} (h : a ≠ b) : mn_set (mn_set g a c) b c' = mn_set (mn_set g b c') a c := by
  unfold mn_set
  refine Prod.ext rfl ?_
  funext q
  by_cases h1 : q = b
  · subst h1; simp [Ne.symm h]
  · by_cases h2 : q = a
    · subst h2; simp [h]
    · simp [h1, h2]
theorem mn_ad_pos {E : mn_En} {a : Nat} (h : 0 < a) : mn_ad E a = mn_Z E + a := by unfold mn_ad; rw [if_neg (by omega)]
theorem mn_ws_len {E : mn_En} {g : mn_H} : (mn_ws E g).length = g.1 - 1 := by simp [mn_ws]
theorem mn_ws_i {E : mn_En} {g : mn_H} {k : Nat} (h : k + 1 < g.1) : (mn_ws E g)[k]? = some (mn_Z E + (k + 1), mn_E E (g.2 (k + 1))) := by
  unfold mn_ws
  rw [List.getElem?_map, List.getElem?_range (by omega)]
  rfl
theorem mn_ws_n {E : mn_En} {g : mn_H} {k : Nat} (h : ¬ k + 1 < g.1) : (mn_ws E g)[k]? = none := by
  rw [List.getElem?_eq_none_iff, mn_ws_len]; omega
theorem mn_ws_get {E : mn_En} {g : mn_H} {a : Nat} {c : mn_C} (h : mn_at g a c) : (mn_ws E g)[a - 1]? = some (mn_ad E a, mn_E E c) := by
  obtain ⟨h0, h1, h2⟩ := h
  have e : a - 1 + 1 = a := by omega
  rw [mn_ws_i (by omega), e, h2, mn_ad_pos h0]
theorem mn_ws_inv {E : mn_En} {g : mn_H} {k : Nat} {q : Nat × va_E} (h : (mn_ws E g)[k]? = some q) : k + 1 < g.1 ∧ q = (mn_Z E + (k + 1), mn_E E (g.2 (k + 1))) := by
  by_cases hk : k + 1 < g.1
  · rw [mn_ws_i hk] at h
    exact ⟨hk, (Option.some.inj h).symm⟩
  · rw [mn_ws_n hk] at h
    cases h
theorem mn_ws_set {E : mn_En} {g : mn_H} {a : Nat} {c0 c : mn_C} (h : mn_at g a c0) : (mn_ws E g).set (a - 1) (mn_ad E a, mn_E E c) = mn_ws E (mn_set g a c) := by
  obtain ⟨h0, h1, -⟩ := h
  apply List.ext_getElem?
  intro i
  rw [List.getElem?_set]
  by_cases hi : i + 1 < g.1
  · by_cases ha : a - 1 = i
    · have e : i + 1 = a := by omega
      rw [if_pos ha, if_pos (by rw [mn_ws_len]; omega), mn_ws_i (g := mn_set g a c) hi, e, mn_ad_pos h0]
      show _ = some (mn_Z E + a, mn_E E (if a = a then c else g.2 a))
      rw [if_pos rfl]
    · rw [if_neg ha, mn_ws_i hi, mn_ws_i (g := mn_set g a c) hi]
      show _ = some (mn_Z E + (i + 1), mn_E E (if i + 1 = a then c else g.2 (i + 1)))
      rw [if_neg (by omega)]
  · rw [mn_ws_n (g := mn_set g a c) hi, if_neg (by omega), mn_ws_n hi]
theorem mn_ws_push {E : mn_En} {g : mn_H} {c : mn_C} (h : 0 < g.1) : mn_ws E (mn_push g c) = mn_ws E g ++ [(mn_Z E + g.1, mn_E E c)] := by
  apply List.ext_getElem?
  intro i
  by_cases hi : i + 1 < g.1
  · rw [List.getElem?_append_left (by rw [mn_ws_len]; omega), mn_ws_i hi, mn_ws_i (g := mn_push g c) (Nat.lt_succ_of_lt hi)]
    show some (_, mn_E E (if i + 1 = g.1 then c else g.2 (i + 1))) = _
    rw [if_neg (by omega)]
  · rw [List.getElem?_append_right (by rw [mn_ws_len]; omega), mn_ws_len]
    by_cases he : i + 1 = g.1
    · rw [mn_ws_i (g := mn_push g c) (by show i + 1 < g.1 + 1; omega), show i - (g.1 - 1) = 0 by omega]
      show some (mn_Z E + (i + 1), mn_E E (if i + 1 = g.1 then c else g.2 (i + 1))) = _
      rw [if_pos he, he]
      rfl
    · rw [mn_ws_n (g := mn_push g c) (by show ¬ i + 1 < g.1 + 1; omega), List.getElem?_eq_none (by simp; omega)]
theorem mn_ws_D {E : mn_En} {g : mn_H} : va_D (mn_F E) (mn_ws E g) := by
  refine ⟨fun i j p q hi hj hpq => ?_, fun k q hk => ?_⟩
  · have e1 := (mn_ws_inv hi).2
    have e2 := (mn_ws_inv hj).2
    rw [e1, e2] at hpq
    simp only at hpq
    omega
  · rw [(mn_ws_inv hk).2]
    show mn_Z E < mn_Z E + (k + 1)
    omega
end
section
/-! names: classes, fields, methods (by names.py) -/
def T_Eq : u_T := fun k => match k with
  | 0 => ("VolumeSets$Equations", "rows", "[[I", true)
  | 1 => ("VolumeSets$Equations", "numbers", "[I", true)
  | 2 => ("VolumeSets$Equations", "unknowns", "I", false)
  | _ => ("VolumeSets$Equations", "given", "I", false)
def ty_Eq : Nat → FieldType := fun k => match k with
  | 0 => .array (.array .int)
  | 1 => .array .int
  | 2 => .int
  | _ => .int
def T_Op : u_T := fun k => match k with
  | 0 => ("VolumeSets$Opening", "places", "[I", true)
  | 1 => ("VolumeSets$Opening", "lengths", "[I", true)
  | 2 => ("VolumeSets$Opening", "whole", "[I", true)
  | _ => ("VolumeSets$Opening", "told", "I", false)
def ty_Op : Nat → FieldType := fun k => match k with
  | 0 => .array .int
  | 1 => .array .int
  | 2 => .array .int
  | _ => .int
def T_Pc : u_T := fun k => match k with
  | 0 => ("VolumeSets$Pieces", "bytes", "[I", true)
  | 1 => ("VolumeSets$Pieces", "lengths", "[I", true)
  | 2 => ("VolumeSets$Pieces", "starts", "[I", true)
  | 3 => ("VolumeSets$Pieces", "many", "I", false)
  | _ => ("VolumeSets$Pieces", "width", "I", false)
def ty_Pc : Nat → FieldType := fun k => match k with
  | 0 => .array .int
  | 1 => .array .int
  | 2 => .array .int
  | 3 => .int
  | _ => .int
def T_Rd : u_T := fun k => match k with
  | 0 => ("VolumeSets$Reading", "pieces", "LVolumeSets$Pieces;", true)
  | 1 => ("VolumeSets$Reading", "places", "[I", true)
  | 2 => ("VolumeSets$Reading", "equations", "LVolumeSets$Equations;", true)
  | 3 => ("VolumeSets$Reading", "done", "Z", false)
  | 4 => ("VolumeSets$Reading", "size", "I", false)
  | 5 => ("VolumeSets$Reading", "repairs", "I", false)
  | 6 => ("VolumeSets$Reading", "present", "I", false)
  | _ => ("VolumeSets$Reading", "madeAgain", "I", false)
def ty_Rd : Nat → FieldType := fun k => match k with
  | 0 => .object "VolumeSets$Pieces"
  | 1 => .array .int
  | 2 => .object "VolumeSets$Equations"
  | 3 => .boolean
  | 4 => .int
  | 5 => .int
  | 6 => .int
  | _ => .int
def T_Ru : u_T := fun k => match k with
  | 0 => ("VolumeSets$Rules", "size", "I", false)
  | 1 => ("VolumeSets$Rules", "repairs", "I", false)
  | _ => ("VolumeSets$Rules", "set", "I", false)
def ty_Ru : Nat → FieldType := fun k => match k with
  | 0 => .int
  | 1 => .int
  | _ => .int
def T_Sl : u_T := fun k => match k with
  | _ => ("VolumeSets$Slots", "volumes", "[LVolumeSets$Volume;", true)
def ty_Sl : Nat → FieldType := fun k => match k with
  | _ => .array (.object "VolumeSets$Volume")
def T_St : u_T := fun k => match k with
  | 0 => ("VolumeSets$Stream", "pieces", "LVolumeSets$Pieces;", true)
  | 1 => ("VolumeSets$Stream", "beginnings", "[I", true)
  | 2 => ("VolumeSets$Stream", "entries", "I", false)
  | _ => ("VolumeSets$Stream", "length", "I", false)
def ty_St : Nat → FieldType := fun k => match k with
  | 0 => .object "VolumeSets$Pieces"
  | 1 => .array .int
  | 2 => .int
  | _ => .int
def T_Ta : u_T := fun k => match k with
  | 0 => ("VolumeSets$Tape", "bytes", "[I", true)
  | _ => ("VolumeSets$Tape", "length", "I", false)
def ty_Ta : Nat → FieldType := fun k => match k with
  | 0 => .array .int
  | _ => .int
def T_Vo : u_T := fun k => match k with
  | 0 => ("VolumeSets$Volume", "bytes", "[I", true)
  | _ => ("VolumeSets$Volume", "size", "I", false)
def ty_Vo : Nat → FieldType := fun k => match k with
  | 0 => .array .int
  | _ => .int
def T_Wr : u_T := fun k => match k with
  | _ => ("VolumeSets$Writer", "volume", "LVolumeSets$Volume;", true)
def ty_Wr : Nat → FieldType := fun k => match k with
  | _ => .object "VolumeSets$Volume"
def T_VS : u_T := fun k => match k with
  | 0 => ("VolumeSets", "tape", "LVolumeSets$Tape;", true)
  | 1 => ("VolumeSets", "stream", "LVolumeSets$Stream;", true)
  | 2 => ("VolumeSets", "rules", "LVolumeSets$Rules;", true)
  | 3 => ("VolumeSets", "writer", "LVolumeSets$Writer;", true)
  | 4 => ("VolumeSets", "slots", "LVolumeSets$Slots;", true)
  | 5 => ("VolumeSets", "reading", "LVolumeSets$Reading;", true)
  | _ => ("VolumeSets", "opening", "LVolumeSets$Opening;", true)
def ty_VS : Nat → FieldType := fun k => match k with
  | 0 => .object "VolumeSets$Tape"
  | 1 => .object "VolumeSets$Stream"
  | 2 => .object "VolumeSets$Rules"
  | 3 => .object "VolumeSets$Writer"
  | 4 => .object "VolumeSets$Slots"
  | 5 => .object "VolumeSets$Reading"
  | _ => .object "VolumeSets$Opening"
def T_Mo : u_T := fun k => match k with
  | 0 => ("VolumeSetsModel", "thrown", "I", false)
  | 1 => ("VolumeSetsModel", "tape", "[I", true)
  | 2 => ("VolumeSetsModel", "taped", "I", false)
  | 3 => ("VolumeSetsModel", "stream", "[I", true)
  | 4 => ("VolumeSetsModel", "begins", "[I", true)
  | 5 => ("VolumeSetsModel", "entries", "I", false)
  | 6 => ("VolumeSetsModel", "size", "I", false)
  | 7 => ("VolumeSetsModel", "repairs", "I", false)
  | 8 => ("VolumeSetsModel", "set", "I", false)
  | 9 => ("VolumeSetsModel", "slot", "[I", true)
  | 10 => ("VolumeSetsModel", "slotSize", "[I", true)
  | 11 => ("VolumeSetsModel", "volume", "[I", true)
  | 12 => ("VolumeSetsModel", "isRead", "Z", false)
  | 13 => ("VolumeSetsModel", "m", "I", false)
  | 14 => ("VolumeSetsModel", "\x72", "I", false)
  | 15 => ("VolumeSetsModel", "wide", "I", false)
  | 16 => ("VolumeSetsModel", "again", "I", false)
  | 17 => ("VolumeSetsModel", "place", "[I", true)
  | 18 => ("VolumeSetsModel", "lengths", "[I", true)
  | 19 => ("VolumeSetsModel", "starts", "[I", true)
  | 20 => ("VolumeSetsModel", "got", "[I", true)
  | 21 => ("VolumeSetsModel", "told", "I", false)
  | 22 => ("VolumeSetsModel", "openedMany", "I", false)
  | 23 => ("VolumeSetsModel", "tellAt", "[I", true)
  | 24 => ("VolumeSetsModel", "tellLength", "[I", true)
  | 25 => ("VolumeSetsModel", "tellOpen", "[I", true)
  | 26 => ("VolumeSetsModel", "lacks", "[I", true)
  | 27 => ("VolumeSetsModel", "by", "[I", true)
  | _ => ("VolumeSetsModel", "grid", "[I", true)
def ty_Mo : Nat → FieldType := fun k => match k with
  | 0 => .int
  | 1 => .array .int
  | 2 => .int
  | 3 => .array .int
  | 4 => .array .int
  | 5 => .int
  | 6 => .int
  | 7 => .int
  | 8 => .int
  | 9 => .array .int
  | 10 => .array .int
  | 11 => .array .int
  | 12 => .boolean
  | 13 => .int
  | 14 => .int
  | 15 => .int
  | 16 => .int
  | 17 => .array .int
  | 18 => .array .int
  | 19 => .array .int
  | 20 => .array .int
  | 21 => .int
  | 22 => .int
  | 23 => .array .int
  | 24 => .array .int
  | 25 => .array .int
  | 26 => .array .int
  | 27 => .array .int
  | _ => .array .int
abbrev vwCl : List vw_C := [("VolumeSets$Equations", T_Eq, 4), ("VolumeSets$Opening", T_Op, 4), ("VolumeSets$Pieces", T_Pc, 5), ("VolumeSets$Reading", T_Rd, 8), ("VolumeSets$Rules", T_Ru, 3), ("VolumeSets$Slots", T_Sl, 1), ("VolumeSets$Stream", T_St, 4), ("VolumeSets$Tape", T_Ta, 2), ("VolumeSets$Volume", T_Vo, 2), ("VolumeSets$Writer", T_Wr, 1), ("VolumeSets", T_VS, 7), ("VolumeSetsModel", T_Mo, 29)]
def mn_T : List FieldType := [.int, .object "VolumeSets$Volume", .array .int]
abbrev kVS_init : ByteArray := prog_1_method_1_code
def yVS_init : MethodName := ⟨"VolumeSets", "<init>", "()V"⟩
abbrev MVS_init : mn_M := (yVS_init, kVS_init, 1, none)
abbrev kTa_init : ByteArray := prog_10_method_1_code
def yTa_init : MethodName := ⟨"VolumeSets$Tape", "<init>", "()V"⟩
abbrev MTa_init : mn_M := (yTa_init, kTa_init, 1, none)
abbrev kSt_init : ByteArray := prog_9_method_1_code
def ySt_init : MethodName := ⟨"VolumeSets$Stream", "<init>", "()V"⟩
abbrev MSt_init : mn_M := (ySt_init, kSt_init, 1, none)
abbrev kPc_init : ByteArray := prog_5_method_1_code
def yPc_init : MethodName := ⟨"VolumeSets$Pieces", "<init>", "(I)V"⟩
abbrev MPc_init : mn_M := (yPc_init, kPc_init, 2, none)
abbrev kRu_init : ByteArray := prog_7_method_1_code
def yRu_init : MethodName := ⟨"VolumeSets$Rules", "<init>", "()V"⟩
abbrev MRu_init : mn_M := (yRu_init, kRu_init, 1, none)
abbrev kWr_init : ByteArray := prog_12_method_1_code
def yWr_init : MethodName := ⟨"VolumeSets$Writer", "<init>", "()V"⟩
abbrev MWr_init : mn_M := (yWr_init, kWr_init, 1, none)
abbrev kVo_init : ByteArray := prog_11_method_1_code
def yVo_init : MethodName := ⟨"VolumeSets$Volume", "<init>", "()V"⟩
abbrev MVo_init : mn_M := (yVo_init, kVo_init, 1, none)
abbrev kSl_init : ByteArray := prog_8_method_1_code
def ySl_init : MethodName := ⟨"VolumeSets$Slots", "<init>", "()V"⟩
abbrev MSl_init : mn_M := (ySl_init, kSl_init, 2, none)
abbrev kRd_init : ByteArray := prog_6_method_1_code
def yRd_init : MethodName := ⟨"VolumeSets$Reading", "<init>", "()V"⟩
abbrev MRd_init : mn_M := (yRd_init, kRd_init, 1, none)
abbrev kEq_init : ByteArray := prog_3_method_1_code
def yEq_init : MethodName := ⟨"VolumeSets$Equations", "<init>", "()V"⟩
abbrev MEq_init : mn_M := (yEq_init, kEq_init, 1, none)
abbrev kOp_init : ByteArray := prog_4_method_1_code
def yOp_init : MethodName := ⟨"VolumeSets$Opening", "<init>", "()V"⟩
abbrev MOp_init : mn_M := (yOp_init, kOp_init, 1, none)
abbrev kVS_feed : ByteArray := prog_1_method_2_code
def yVS_feed : MethodName := ⟨"VolumeSets", "feed", "(IIIII)I"⟩
abbrev MVS_feed : mn_M := (yVS_feed, kVS_feed, 6, (some .int))
abbrev kTa_addNumber : ByteArray := prog_10_method_2_code
def yTa_addNumber : MethodName := ⟨"VolumeSets$Tape", "addNumber", "(I)V"⟩
abbrev MTa_addNumber : mn_M := (yTa_addNumber, kTa_addNumber, 3, none)
abbrev kTa_add : ByteArray := prog_10_method_3_code
def yTa_add : MethodName := ⟨"VolumeSets$Tape", "add", "(I)V"⟩
abbrev MTa_add : mn_M := (yTa_add, kTa_add, 2, none)
abbrev kVS_end : ByteArray := prog_1_method_3_code
def yVS_end : MethodName := ⟨"VolumeSets", "end", "(I)I"⟩
abbrev MVS_end : mn_M := (yVS_end, kVS_end, 2, (some .int))
abbrev kVS_entry : ByteArray := prog_1_method_4_code
def yVS_entry : MethodName := ⟨"VolumeSets", "entry", "()I"⟩
abbrev MVS_entry : mn_M := (yVS_entry, kVS_entry, 1, (some .int))
abbrev kSt_append : ByteArray := prog_9_method_2_code
def ySt_append : MethodName := ⟨"VolumeSets$Stream", "append", "(LVolumeSets$Tape;)V"⟩
abbrev MSt_append : mn_M := (ySt_append, kSt_append, 4, none)
abbrev kTa_sum : ByteArray := prog_10_method_5_code
def yTa_sum : MethodName := ⟨"VolumeSets$Tape", "sum", "()I"⟩
abbrev MTa_sum : mn_M := (yTa_sum, kTa_sum, 1, (some .int))
abbrev kBy_sum : ByteArray := prog_2_method_2_code
def yBy_sum : MethodName := ⟨"VolumeSets$Bytes", "sum", "([III)I"⟩
abbrev MBy_sum : mn_M := (yBy_sum, kBy_sum, 5, (some .int))
abbrev kSt_add : ByteArray := prog_9_method_3_code
def ySt_add : MethodName := ⟨"VolumeSets$Stream", "add", "(I)V"⟩
abbrev MSt_add : mn_M := (ySt_add, kSt_add, 2, none)
abbrev kPc_put : ByteArray := prog_5_method_5_code
def yPc_put : MethodName := ⟨"VolumeSets$Pieces", "put", "(II)V"⟩
abbrev MPc_put : mn_M := (yPc_put, kPc_put, 3, none)
abbrev kTa_byteAt : ByteArray := prog_10_method_4_code
def yTa_byteAt : MethodName := ⟨"VolumeSets$Tape", "byteAt", "(I)I"⟩
abbrev MTa_byteAt : mn_M := (yTa_byteAt, kTa_byteAt, 2, (some .int))
abbrev kVS_clear : ByteArray := prog_1_method_5_code
def yVS_clear : MethodName := ⟨"VolumeSets", "clear", "()I"⟩
abbrev MVS_clear : mn_M := (yVS_clear, kVS_clear, 2, (some .int))
abbrev kSt_forgetAll : ByteArray := prog_9_method_4_code
def ySt_forgetAll : MethodName := ⟨"VolumeSets$Stream", "forgetAll", "()V"⟩
abbrev MSt_forgetAll : mn_M := (ySt_forgetAll, kSt_forgetAll, 1, none)
abbrev kPc_blank : ByteArray := prog_5_method_2_code
def yPc_blank : MethodName := ⟨"VolumeSets$Pieces", "blank", "()V"⟩
abbrev MPc_blank : mn_M := (yPc_blank, kPc_blank, 1, none)
abbrev kAr_fill : ByteArray := prog_17_method_103_code
def yAr_fill : MethodName := ⟨"java/util/Arrays", "fill", "([II)V"⟩
abbrev MAr_fill : mn_M := (yAr_fill, kAr_fill, 4, none)
abbrev kVS_rule : ByteArray := prog_1_method_6_code
def yVS_rule : MethodName := ⟨"VolumeSets", "rule", "(II)I"⟩
abbrev MVS_rule : mn_M := (yVS_rule, kVS_rule, 3, (some .int))
abbrev kRu_change : ByteArray := prog_7_method_3_code
def yRu_change : MethodName := ⟨"VolumeSets$Rules", "change", "(II)I"⟩
abbrev MRu_change : mn_M := (yRu_change, kRu_change, 3, (some .int))
abbrev kRu_changeSize : ByteArray := prog_7_method_4_code
def yRu_changeSize : MethodName := ⟨"VolumeSets$Rules", "changeSize", "(I)I"⟩
abbrev MRu_changeSize : mn_M := (yRu_changeSize, kRu_changeSize, 3, (some .int))
abbrev kRu_changeRepairs : ByteArray := prog_7_method_5_code
def yRu_changeRepairs : MethodName := ⟨"VolumeSets$Rules", "changeRepairs", "(I)I"⟩
abbrev MRu_changeRepairs : mn_M := (yRu_changeRepairs, kRu_changeRepairs, 3, (some .int))
abbrev kRu_changeSet : ByteArray := prog_7_method_6_code
def yRu_changeSet : MethodName := ⟨"VolumeSets$Rules", "changeSet", "(I)I"⟩
abbrev MRu_changeSet : mn_M := (yRu_changeSet, kRu_changeSet, 3, (some .int))
abbrev kVS_volumes : ByteArray := prog_1_method_7_code
def yVS_volumes : MethodName := ⟨"VolumeSets", "volumes", "()I"⟩
abbrev MVS_volumes : mn_M := (yVS_volumes, kVS_volumes, 2, (some .int))
abbrev kRu_width : ByteArray := prog_7_method_2_code
def yRu_width : MethodName := ⟨"VolumeSets$Rules", "width", "()I"⟩
abbrev MRu_width : mn_M := (yRu_width, kRu_width, 1, (some .int))
abbrev kSt_pieceCount : ByteArray := prog_9_method_5_code
def ySt_pieceCount : MethodName := ⟨"VolumeSets$Stream", "pieceCount", "(I)I"⟩
abbrev MSt_pieceCount : mn_M := (ySt_pieceCount, kSt_pieceCount, 2, (some .int))
abbrev kBy_quotient : ByteArray := prog_2_method_7_code
def yBy_quotient : MethodName := ⟨"VolumeSets$Bytes", "quotient", "(II)I"⟩
abbrev MBy_quotient : mn_M := (yBy_quotient, kBy_quotient, 2, (some .int))
abbrev kVS_byteOf : ByteArray := prog_1_method_8_code
def yVS_byteOf : MethodName := ⟨"VolumeSets", "byteOf", "(II)I"⟩
abbrev MVS_byteOf : mn_M := (yVS_byteOf, kVS_byteOf, 4, (some .int))
abbrev kSt_divide : ByteArray := prog_9_method_6_code
def ySt_divide : MethodName := ⟨"VolumeSets$Stream", "divide", "(I)V"⟩
abbrev MSt_divide : mn_M := (ySt_divide, kSt_divide, 3, none)
abbrev kPc_putPart : ByteArray := prog_5_method_8_code
def yPc_putPart : MethodName := ⟨"VolumeSets$Pieces", "putPart", "(III)V"⟩
abbrev MPc_putPart : mn_M := (yPc_putPart, kPc_putPart, 4, none)
abbrev kSt_startIn : ByteArray := prog_9_method_7_code
def ySt_startIn : MethodName := ⟨"VolumeSets$Stream", "startIn", "(II)I"⟩
abbrev MSt_startIn : mn_M := (ySt_startIn, kSt_startIn, 5, (some .int))
abbrev kWr_make : ByteArray := prog_12_method_2_code
def yWr_make : MethodName := ⟨"VolumeSets$Writer", "make", "(ILVolumeSets$Pieces;LVolumeSets$Rules;)V"⟩
abbrev MWr_make : mn_M := (yWr_make, kWr_make, 5, none)
abbrev kVo_put : ByteArray := prog_11_method_3_code
def yVo_put : MethodName := ⟨"VolumeSets$Volume", "put", "(II)V"⟩
abbrev MVo_put : mn_M := (yVo_put, kVo_put, 3, none)
abbrev kPc_part : ByteArray := prog_5_method_7_code
def yPc_part : MethodName := ⟨"VolumeSets$Pieces", "part", "(II)I"⟩
abbrev MPc_part : mn_M := (yPc_part, kPc_part, 3, (some .int))
abbrev kPc_byteAt : ByteArray := prog_5_method_4_code
def yPc_byteAt : MethodName := ⟨"VolumeSets$Pieces", "byteAt", "(I)I"⟩
abbrev MPc_byteAt : mn_M := (yPc_byteAt, kPc_byteAt, 2, (some .int))
abbrev kPc_mixed : ByteArray := prog_5_method_9_code
def yPc_mixed : MethodName := ⟨"VolumeSets$Pieces", "mixed", "(II)I"⟩
abbrev MPc_mixed : mn_M := (yPc_mixed, kPc_mixed, 5, (some .int))
abbrev kBy_raised : ByteArray := prog_2_method_5_code
def yBy_raised : MethodName := ⟨"VolumeSets$Bytes", "raised", "(II)I"⟩
abbrev MBy_raised : mn_M := (yBy_raised, kBy_raised, 4, (some .int))
abbrev kBy_twice : ByteArray := prog_2_method_3_code
def yBy_twice : MethodName := ⟨"VolumeSets$Bytes", "twice", "(I)I"⟩
abbrev MBy_twice : mn_M := (yBy_twice, kBy_twice, 2, (some .int))
abbrev kVo_seal : ByteArray := prog_11_method_6_code
def yVo_seal : MethodName := ⟨"VolumeSets$Volume", "seal", "()V"⟩
abbrev MVo_seal : mn_M := (yVo_seal, kVo_seal, 1, none)
abbrev kVo_putSum : ByteArray := prog_11_method_4_code
def yVo_putSum : MethodName := ⟨"VolumeSets$Volume", "putSum", "(II)V"⟩
abbrev MVo_putSum : mn_M := (yVo_putSum, kVo_putSum, 3, none)
abbrev kVo_byteAt : ByteArray := prog_11_method_2_code
def yVo_byteAt : MethodName := ⟨"VolumeSets$Volume", "byteAt", "(I)I"⟩
abbrev MVo_byteAt : mn_M := (yVo_byteAt, kVo_byteAt, 2, (some .int))
abbrev kVS_write : ByteArray := prog_1_method_9_code
def yVS_write : MethodName := ⟨"VolumeSets", "write", "(I)I"⟩
abbrev MVS_write : mn_M := (yVS_write, kVS_write, 4, (some .int))
abbrev kWr_missingIn : ByteArray := prog_12_method_3_code
def yWr_missingIn : MethodName := ⟨"VolumeSets$Writer", "missingIn", "(LVolumeSets$Slots;LVolumeSets$Pieces;LVolumeSets$Rules;)I"⟩
abbrev MWr_missingIn : mn_M := (yWr_missingIn, kWr_missingIn, 6, (some .int))
abbrev kSl_hold : ByteArray := prog_8_method_7_code
def ySl_hold : MethodName := ⟨"VolumeSets$Slots", "hold", "(LVolumeSets$Volume;)Z"⟩
abbrev MSl_hold : mn_M := (ySl_hold, kSl_hold, 3, (some .boolean))
abbrev kVo_hasJustTheBytesOf : ByteArray := prog_11_method_9_code
def yVo_hasJustTheBytesOf : MethodName := ⟨"VolumeSets$Volume", "hasJustTheBytesOf", "(LVolumeSets$Volume;)Z"⟩
abbrev MVo_hasJustTheBytesOf : mn_M := (yVo_hasJustTheBytesOf, kVo_hasJustTheBytesOf, 3, (some .boolean))
abbrev kSl_filled : ByteArray := prog_8_method_4_code
def ySl_filled : MethodName := ⟨"VolumeSets$Slots", "filled", "()I"⟩
abbrev MSl_filled : mn_M := (ySl_filled, kSl_filled, 3, (some .int))
abbrev kWr_fill : ByteArray := prog_12_method_4_code
def yWr_fill : MethodName := ⟨"VolumeSets$Writer", "fill", "(LVolumeSets$Slots;LVolumeSets$Pieces;LVolumeSets$Rules;I)I"⟩
abbrev MWr_fill : mn_M := (yWr_fill, kWr_fill, 7, (some .int))
abbrev kVo_cutOff : ByteArray := prog_11_method_7_code
def yVo_cutOff : MethodName := ⟨"VolumeSets$Volume", "cutOff", "()V"⟩
abbrev MVo_cutOff : mn_M := (yVo_cutOff, kVo_cutOff, 2, none)
abbrev kSl_putIntoLeastEmpty : ByteArray := prog_8_method_8_code
def ySl_putIntoLeastEmpty : MethodName := ⟨"VolumeSets$Slots", "putIntoLeastEmpty", "(LVolumeSets$Volume;)V"⟩
abbrev MSl_putIntoLeastEmpty : mn_M := (ySl_putIntoLeastEmpty, kSl_putIntoLeastEmpty, 3, none)
abbrev kVo_become : ByteArray := prog_11_method_8_code
def yVo_become : MethodName := ⟨"VolumeSets$Volume", "become", "(LVolumeSets$Volume;)V"⟩
abbrev MVo_become : mn_M := (yVo_become, kVo_become, 2, none)
abbrev kVS_lose : ByteArray := prog_1_method_10_code
def yVS_lose : MethodName := ⟨"VolumeSets", "lose", "(I)I"⟩
abbrev MVS_lose : mn_M := (yVS_lose, kVS_lose, 4, (some .int))
abbrev kSl_at : ByteArray := prog_8_method_2_code
def ySl_at : MethodName := ⟨"VolumeSets$Slots", "at", "(I)LVolumeSets$Volume;"⟩
abbrev MSl_at : mn_M := (ySl_at, kSl_at, 2, (some (.object "VolumeSets$Volume")))
abbrev kVS_poke : ByteArray := prog_1_method_11_code
def yVS_poke : MethodName := ⟨"VolumeSets", "poke", "(III)I"⟩
abbrev MVS_poke : mn_M := (yVS_poke, kVS_poke, 5, (some .int))
abbrev kVS_swap : ByteArray := prog_1_method_12_code
def yVS_swap : MethodName := ⟨"VolumeSets", "swap", "(II)I"⟩
abbrev MVS_swap : mn_M := (yVS_swap, kVS_swap, 3, (some .int))
abbrev kSl_exchange : ByteArray := prog_8_method_3_code
def ySl_exchange : MethodName := ⟨"VolumeSets$Slots", "exchange", "(II)V"⟩
abbrev MSl_exchange : mn_M := (ySl_exchange, kSl_exchange, 5, none)
abbrev kVS_copy : ByteArray := prog_1_method_13_code
def yVS_copy : MethodName := ⟨"VolumeSets", "copy", "(II)I"⟩
abbrev MVS_copy : mn_M := (yVS_copy, kVS_copy, 5, (some .int))
abbrev kVS_slot : ByteArray := prog_1_method_14_code
def yVS_slot : MethodName := ⟨"VolumeSets", "slot", "(II)I"⟩
abbrev MVS_slot : mn_M := (yVS_slot, kVS_slot, 4, (some .int))
abbrev kVo_state : ByteArray := prog_11_method_11_code
def yVo_state : MethodName := ⟨"VolumeSets$Volume", "state", "()I"⟩
abbrev MVo_state : mn_M := (yVo_state, kVo_state, 1, (some .int))
abbrev kVo_hasHead : ByteArray := prog_11_method_10_code
def yVo_hasHead : MethodName := ⟨"VolumeSets$Volume", "hasHead", "()Z"⟩
abbrev MVo_hasHead : mn_M := (yVo_hasHead, kVo_hasHead, 3, (some .boolean))
abbrev kVo_sumAt : ByteArray := prog_11_method_5_code
def yVo_sumAt : MethodName := ⟨"VolumeSets$Volume", "sumAt", "(I)I"⟩
abbrev MVo_sumAt : mn_M := (yVo_sumAt, kVo_sumAt, 2, (some .int))
abbrev kVS_read : ByteArray := prog_1_method_15_code
def yVS_read : MethodName := ⟨"VolumeSets", "read", "(I)I"⟩
abbrev MVS_read : mn_M := (yVS_read, kVS_read, 3, (some .int))
abbrev kRd_gather : ByteArray := prog_6_method_2_code
def yRd_gather : MethodName := ⟨"VolumeSets$Reading", "gather", "(LVolumeSets$Slots;I)I"⟩
abbrev MRd_gather : mn_M := (yRd_gather, kRd_gather, 6, (some .int))
abbrev kSl_firstGood : ByteArray := prog_8_method_6_code
def ySl_firstGood : MethodName := ⟨"VolumeSets$Slots", "firstGood", "(I)LVolumeSets$Volume;"⟩
abbrev MSl_firstGood : mn_M := (ySl_firstGood, kSl_firstGood, 3, (some (.object "VolumeSets$Volume")))
abbrev kVo_isGoodOf : ByteArray := prog_11_method_12_code
def yVo_isGoodOf : MethodName := ⟨"VolumeSets$Volume", "isGoodOf", "(I)Z"⟩
abbrev MVo_isGoodOf : mn_M := (yVo_isGoodOf, kVo_isGoodOf, 2, (some .boolean))
abbrev kRd_begin : ByteArray := prog_6_method_3_code
def yRd_begin : MethodName := ⟨"VolumeSets$Reading", "begin", "(LVolumeSets$Volume;)V"⟩
abbrev MRd_begin : mn_M := (yRd_begin, kRd_begin, 2, none)
abbrev kVo_isAsWideAndManyAs : ByteArray := prog_11_method_13_code
def yVo_isAsWideAndManyAs : MethodName := ⟨"VolumeSets$Volume", "isAsWideAndManyAs", "(LVolumeSets$Volume;)Z"⟩
abbrev MVo_isAsWideAndManyAs : mn_M := (yVo_isAsWideAndManyAs, kVo_isAsWideAndManyAs, 2, (some .boolean))
abbrev kRd_take : ByteArray := prog_6_method_4_code
def yRd_take : MethodName := ⟨"VolumeSets$Reading", "take", "(LVolumeSets$Volume;I)V"⟩
abbrev MRd_take : mn_M := (yRd_take, kRd_take, 5, none)
abbrev kRd_placeOf : ByteArray := prog_6_method_5_code
def yRd_placeOf : MethodName := ⟨"VolumeSets$Reading", "placeOf", "(I)I"⟩
abbrev MRd_placeOf : mn_M := (yRd_placeOf, kRd_placeOf, 2, (some .int))
abbrev kRd_setPlace : ByteArray := prog_6_method_6_code
def yRd_setPlace : MethodName := ⟨"VolumeSets$Reading", "setPlace", "(II)V"⟩
abbrev MRd_setPlace : mn_M := (yRd_setPlace, kRd_setPlace, 3, none)
abbrev kRd_makeAgain : ByteArray := prog_6_method_7_code
def yRd_makeAgain : MethodName := ⟨"VolumeSets$Reading", "makeAgain", "(LVolumeSets$Slots;)V"⟩
abbrev MRd_makeAgain : mn_M := (yRd_makeAgain, kRd_makeAgain, 5, none)
abbrev kRd_repairsOfIt : ByteArray := prog_6_method_8_code
def yRd_repairsOfIt : MethodName := ⟨"VolumeSets$Reading", "repairsOfIt", "()I"⟩
abbrev MRd_repairsOfIt : mn_M := (yRd_repairsOfIt, kRd_repairsOfIt, 3, (some .int))
abbrev kEq_forgetAll : ByteArray := prog_3_method_2_code
def yEq_forgetAll : MethodName := ⟨"VolumeSets$Equations", "forgetAll", "()V"⟩
abbrev MEq_forgetAll : mn_M := (yEq_forgetAll, kEq_forgetAll, 1, none)
abbrev kEq_addUnknown : ByteArray := prog_3_method_3_code
def yEq_addUnknown : MethodName := ⟨"VolumeSets$Equations", "addUnknown", "(I)V"⟩
abbrev MEq_addUnknown : mn_M := (yEq_addUnknown, kEq_addUnknown, 2, none)
abbrev kEq_addRepair : ByteArray := prog_3_method_4_code
def yEq_addRepair : MethodName := ⟨"VolumeSets$Equations", "addRepair", "(ILVolumeSets$Volume;LVolumeSets$Pieces;)V"⟩
abbrev MEq_addRepair : mn_M := (yEq_addRepair, kEq_addRepair, 6, none)
abbrev kEq_solve : ByteArray := prog_3_method_5_code
def yEq_solve : MethodName := ⟨"VolumeSets$Equations", "solve", "()V"⟩
abbrev MEq_solve : mn_M := (yEq_solve, kEq_solve, 3, none)
abbrev kBy_inverse : ByteArray := prog_2_method_6_code
def yBy_inverse : MethodName := ⟨"VolumeSets$Bytes", "inverse", "(I)I"⟩
abbrev MBy_inverse : mn_M := (yBy_inverse, kBy_inverse, 2, (some .int))
abbrev kBy_product : ByteArray := prog_2_method_4_code
def yBy_product : MethodName := ⟨"VolumeSets$Bytes", "product", "(II)I"⟩
abbrev MBy_product : mn_M := (yBy_product, kBy_product, 5, (some .int))
abbrev kEq_scale : ByteArray := prog_3_method_6_code
def yEq_scale : MethodName := ⟨"VolumeSets$Equations", "scale", "(II)V"⟩
abbrev MEq_scale : mn_M := (yEq_scale, kEq_scale, 5, none)
abbrev kEq_addTo : ByteArray := prog_3_method_7_code
def yEq_addTo : MethodName := ⟨"VolumeSets$Equations", "addTo", "(III)V"⟩
abbrev MEq_addTo : mn_M := (yEq_addTo, kEq_addTo, 6, none)
abbrev kRd_takeUnknowns : ByteArray := prog_6_method_9_code
def yRd_takeUnknowns : MethodName := ⟨"VolumeSets$Reading", "takeUnknowns", "()V"⟩
abbrev MRd_takeUnknowns : mn_M := (yRd_takeUnknowns, kRd_takeUnknowns, 4, none)
abbrev kEq_numberOf : ByteArray := prog_3_method_8_code
def yEq_numberOf : MethodName := ⟨"VolumeSets$Equations", "numberOf", "(I)I"⟩
abbrev MEq_numberOf : mn_M := (yEq_numberOf, kEq_numberOf, 2, (some .int))
abbrev kEq_byteOfUnknown : ByteArray := prog_3_method_9_code
def yEq_byteOfUnknown : MethodName := ⟨"VolumeSets$Equations", "byteOfUnknown", "(II)I"⟩
abbrev MEq_byteOfUnknown : mn_M := (yEq_byteOfUnknown, kEq_byteOfUnknown, 3, (some .int))
abbrev kOp_open : ByteArray := prog_4_method_2_code
def yOp_open : MethodName := ⟨"VolumeSets$Opening", "open", "(LVolumeSets$Pieces;)V"⟩
abbrev MOp_open : mn_M := (yOp_open, kOp_open, 5, none)
abbrev kPc_nextKnown : ByteArray := prog_5_method_12_code
def yPc_nextKnown : MethodName := ⟨"VolumeSets$Pieces", "nextKnown", "(I)I"⟩
abbrev MPc_nextKnown : mn_M := (yPc_nextKnown, kPc_nextKnown, 4, (some .int))
abbrev kPc_isKnown : ByteArray := prog_5_method_10_code
def yPc_isKnown : MethodName := ⟨"VolumeSets$Pieces", "isKnown", "(I)Z"⟩
abbrev MPc_isKnown : mn_M := (yPc_isKnown, kPc_isKnown, 3, (some .boolean))
abbrev kPc_room : ByteArray := prog_5_method_3_code
def yPc_room : MethodName := ⟨"VolumeSets$Pieces", "room", "()I"⟩
abbrev MPc_room : mn_M := (yPc_room, kPc_room, 1, (some .int))
abbrev kPc_startBehind : ByteArray := prog_5_method_13_code
def yPc_startBehind : MethodName := ⟨"VolumeSets$Pieces", "startBehind", "(I)I"⟩
abbrev MPc_startBehind : mn_M := (yPc_startBehind, kPc_startBehind, 4, (some .int))
abbrev kOp_isWhole : ByteArray := prog_4_method_3_code
def yOp_isWhole : MethodName := ⟨"VolumeSets$Opening", "isWhole", "(LVolumeSets$Pieces;II)Z"⟩
abbrev MOp_isWhole : mn_M := (yOp_isWhole, kOp_isWhole, 6, (some .boolean))
abbrev kPc_areKnown : ByteArray := prog_5_method_11_code
def yPc_areKnown : MethodName := ⟨"VolumeSets$Pieces", "areKnown", "(II)Z"⟩
abbrev MPc_areKnown : mn_M := (yPc_areKnown, kPc_areKnown, 4, (some .boolean))
abbrev kPc_sum : ByteArray := prog_5_method_6_code
def yPc_sum : MethodName := ⟨"VolumeSets$Pieces", "sum", "(II)I"⟩
abbrev MPc_sum : mn_M := (yPc_sum, kPc_sum, 3, (some .int))
abbrev kVS_found : ByteArray := prog_1_method_16_code
def yVS_found : MethodName := ⟨"VolumeSets", "found", "(I)I"⟩
abbrev MVS_found : mn_M := (yVS_found, kVS_found, 2, (some .int))
abbrev kOp_openedOnes : ByteArray := prog_4_method_4_code
def yOp_openedOnes : MethodName := ⟨"VolumeSets$Opening", "openedOnes", "()I"⟩
abbrev MOp_openedOnes : mn_M := (yOp_openedOnes, kOp_openedOnes, 3, (some .int))
abbrev kVS_where : ByteArray := prog_1_method_17_code
def yVS_where : MethodName := ⟨"VolumeSets", "where", "(I)I"⟩
abbrev MVS_where : mn_M := (yVS_where, kVS_where, 2, (some .int))
abbrev kVS_got : ByteArray := prog_1_method_18_code
def yVS_got : MethodName := ⟨"VolumeSets", "got", "(I)I"⟩
abbrev MVS_got : mn_M := (yVS_got, kVS_got, 2, (some .int))
abbrev kVS_opened : ByteArray := prog_1_method_19_code
def yVS_opened : MethodName := ⟨"VolumeSets", "opened", "(II)I"⟩
abbrev MVS_opened : mn_M := (yVS_opened, kVS_opened, 3, (some .int))
abbrev kOp_tellOf : ByteArray := prog_4_method_5_code
def yOp_tellOf : MethodName := ⟨"VolumeSets$Opening", "tellOf", "(II)I"⟩
abbrev MOp_tellOf : mn_M := (yOp_tellOf, kOp_tellOf, 3, (some .int))
abbrev kVS_count : ByteArray := prog_1_method_20_code
def yVS_count : MethodName := ⟨"VolumeSets", "count", "(I)I"⟩
abbrev MVS_count : mn_M := (yVS_count, kVS_count, 2, (some .int))
abbrev kSl_inState : ByteArray := prog_8_method_5_code
def ySl_inState : MethodName := ⟨"VolumeSets$Slots", "inState", "(I)I"⟩
abbrev MSl_inState : mn_M := (ySl_inState, kSl_inState, 4, (some .int))
abbrev kMo_init : ByteArray := prog_14_method_3_code
def yMo_init : MethodName := ⟨"VolumeSetsModel", "<init>", "()V"⟩
abbrev MMo_init : mn_M := (yMo_init, kMo_init, 1, none)
abbrev kMo_feed : ByteArray := prog_14_method_4_code
def yMo_feed : MethodName := ⟨"VolumeSetsModel", "feed", "(IIIII)I"⟩
abbrev MMo_feed : mn_M := (yMo_feed, kMo_feed, 8, (some .int))
abbrev kMo_end : ByteArray := prog_14_method_5_code
def yMo_end : MethodName := ⟨"VolumeSetsModel", "end", "(I)I"⟩
abbrev MMo_end : mn_M := (yMo_end, kMo_end, 2, (some .int))
abbrev kMo_in : ByteArray := prog_14_method_2_code
def yMo_in : MethodName := ⟨"VolumeSetsModel", "in", "(III)Z"⟩
abbrev MMo_in : mn_M := (yMo_in, kMo_in, 3, (some .boolean))
abbrev kMo_entry : ByteArray := prog_14_method_8_code
def yMo_entry : MethodName := ⟨"VolumeSetsModel", "entry", "()I"⟩
abbrev MMo_entry : mn_M := (yMo_entry, kMo_entry, 4, (some .int))
abbrev kMo_sum : ByteArray := prog_14_method_7_code
def yMo_sum : MethodName := ⟨"VolumeSetsModel", "sum", "([III)I"⟩
abbrev MMo_sum : mn_M := (yMo_sum, kMo_sum, 5, (some .int))
abbrev kMo_step : ByteArray := prog_14_method_6_code
def yMo_step : MethodName := ⟨"VolumeSetsModel", "step", "(II)I"⟩
abbrev MMo_step : mn_M := (yMo_step, kMo_step, 2, (some .int))
abbrev kMo_clear : ByteArray := prog_14_method_9_code
def yMo_clear : MethodName := ⟨"VolumeSetsModel", "clear", "()I"⟩
abbrev MMo_clear : mn_M := (yMo_clear, kMo_clear, 2, (some .int))
abbrev kMo_rule : ByteArray := prog_14_method_10_code
def yMo_rule : MethodName := ⟨"VolumeSetsModel", "rule", "(II)I"⟩
abbrev MMo_rule : mn_M := (yMo_rule, kMo_rule, 5, (some .int))
abbrev kMo_volumes : ByteArray := prog_14_method_14_code
def yMo_volumes : MethodName := ⟨"VolumeSetsModel", "volumes", "()I"⟩
abbrev MMo_volumes : mn_M := (yMo_volumes, kMo_volumes, 1, (some .int))
abbrev kMo_pieces : ByteArray := prog_14_method_13_code
def yMo_pieces : MethodName := ⟨"VolumeSetsModel", "pieces", "()I"⟩
abbrev MMo_pieces : mn_M := (yMo_pieces, kMo_pieces, 1, (some .int))
abbrev kMo_length : ByteArray := prog_14_method_11_code
def yMo_length : MethodName := ⟨"VolumeSetsModel", "length", "()I"⟩
abbrev MMo_length : mn_M := (yMo_length, kMo_length, 1, (some .int))
abbrev kMo_piece : ByteArray := prog_14_method_12_code
def yMo_piece : MethodName := ⟨"VolumeSetsModel", "piece", "()I"⟩
abbrev MMo_piece : mn_M := (yMo_piece, kMo_piece, 1, (some .int))
abbrev kMo_byteOf : ByteArray := prog_14_method_21_code
def yMo_byteOf : MethodName := ⟨"VolumeSetsModel", "byteOf", "(II)I"⟩
abbrev MMo_byteOf : mn_M := (yMo_byteOf, kMo_byteOf, 4, (some .int))
abbrev kMo_make : ByteArray := prog_14_method_20_code
def yMo_make : MethodName := ⟨"VolumeSetsModel", "make", "(I)V"⟩
abbrev MMo_make : mn_M := (yMo_make, kMo_make, 4, none)
abbrev kMo_ofVolume : ByteArray := prog_14_method_19_code
def yMo_ofVolume : MethodName := ⟨"VolumeSetsModel", "ofVolume", "(II)I"⟩
abbrev MMo_ofVolume : mn_M := (yMo_ofVolume, kMo_ofVolume, 8, (some .int))
abbrev kMo_ofPiece : ByteArray := prog_14_method_18_code
def yMo_ofPiece : MethodName := ⟨"VolumeSetsModel", "ofPiece", "(II)I"⟩
abbrev MMo_ofPiece : mn_M := (yMo_ofPiece, kMo_ofPiece, 7, (some .int))
abbrev kMo_power : ByteArray := prog_14_method_16_code
def yMo_power : MethodName := ⟨"VolumeSetsModel", "power", "(I)I"⟩
abbrev MMo_power : mn_M := (yMo_power, kMo_power, 3, (some .int))
abbrev kMo_times : ByteArray := prog_14_method_15_code
def yMo_times : MethodName := ⟨"VolumeSetsModel", "times", "(II)I"⟩
abbrev MMo_times : mn_M := (yMo_times, kMo_times, 5, (some .int))
abbrev kMo_write : ByteArray := prog_14_method_25_code
def yMo_write : MethodName := ⟨"VolumeSetsModel", "write", "(I)I"⟩
abbrev MMo_write : mn_M := (yMo_write, kMo_write, 7, (some .int))
abbrev kMo_isThere : ByteArray := prog_14_method_22_code
def yMo_isThere : MethodName := ⟨"VolumeSetsModel", "isThere", "()Z"⟩
abbrev MMo_isThere : mn_M := (yMo_isThere, kMo_isThere, 4, (some .boolean))
abbrev kMo_emptySlots : ByteArray := prog_14_method_23_code
def yMo_emptySlots : MethodName := ⟨"VolumeSetsModel", "emptySlots", "()I"⟩
abbrev MMo_emptySlots : mn_M := (yMo_emptySlots, kMo_emptySlots, 3, (some .int))
abbrev kMo_lay : ByteArray := prog_14_method_24_code
def yMo_lay : MethodName := ⟨"VolumeSetsModel", "lay", "(I)V"⟩
abbrev MMo_lay : mn_M := (yMo_lay, kMo_lay, 4, none)
abbrev kMo_lose : ByteArray := prog_14_method_27_code
def yMo_lose : MethodName := ⟨"VolumeSetsModel", "lose", "(I)I"⟩
abbrev MMo_lose : mn_M := (yMo_lose, kMo_lose, 3, (some .int))
abbrev kMo_noSlot : ByteArray := prog_14_method_26_code
def yMo_noSlot : MethodName := ⟨"VolumeSetsModel", "noSlot", "(I)Z"⟩
abbrev MMo_noSlot : mn_M := (yMo_noSlot, kMo_noSlot, 2, (some .boolean))
abbrev kMo_poke : ByteArray := prog_14_method_28_code
def yMo_poke : MethodName := ⟨"VolumeSetsModel", "poke", "(III)I"⟩
abbrev MMo_poke : mn_M := (yMo_poke, kMo_poke, 4, (some .int))
abbrev kMo_swap : ByteArray := prog_14_method_29_code
def yMo_swap : MethodName := ⟨"VolumeSetsModel", "swap", "(II)I"⟩
abbrev MMo_swap : mn_M := (yMo_swap, kMo_swap, 6, (some .int))
abbrev kMo_copy : ByteArray := prog_14_method_30_code
def yMo_copy : MethodName := ⟨"VolumeSetsModel", "copy", "(II)I"⟩
abbrev MMo_copy : mn_M := (yMo_copy, kMo_copy, 4, (some .int))
abbrev kMo_slot : ByteArray := prog_14_method_33_code
def yMo_slot : MethodName := ⟨"VolumeSetsModel", "slot", "(II)I"⟩
abbrev MMo_slot : mn_M := (yMo_slot, kMo_slot, 4, (some .int))
abbrev kMo_state : ByteArray := prog_14_method_32_code
def yMo_state : MethodName := ⟨"VolumeSetsModel", "state", "(I)I"⟩
abbrev MMo_state : mn_M := (yMo_state, kMo_state, 4, (some .int))
abbrev kMo_two : ByteArray := prog_14_method_31_code
def yMo_two : MethodName := ⟨"VolumeSetsModel", "two", "(I)I"⟩
abbrev MMo_two : mn_M := (yMo_two, kMo_two, 2, (some .int))
abbrev kMo_read : ByteArray := prog_14_method_34_code
def yMo_read : MethodName := ⟨"VolumeSetsModel", "read", "(I)I"⟩
abbrev MMo_read : mn_M := (yMo_read, kMo_read, 4, (some .int))
abbrev kMo_makeAgain : ByteArray := prog_14_method_35_code
def yMo_makeAgain : MethodName := ⟨"VolumeSetsModel", "makeAgain", "()V"⟩
abbrev MMo_makeAgain : mn_M := (yMo_makeAgain, kMo_makeAgain, 4, none)
abbrev kMo_solve : ByteArray := prog_14_method_37_code
def yMo_solve : MethodName := ⟨"VolumeSetsModel", "solve", "(II)V"⟩
abbrev MMo_solve : mn_M := (yMo_solve, kMo_solve, 9, none)
abbrev kMo_known : ByteArray := prog_14_method_36_code
def yMo_known : MethodName := ⟨"VolumeSetsModel", "known", "(II)I"⟩
abbrev MMo_known : mn_M := (yMo_known, kMo_known, 3, (some .int))
abbrev kMo_over : ByteArray := prog_14_method_17_code
def yMo_over : MethodName := ⟨"VolumeSetsModel", "over", "(I)I"⟩
abbrev MMo_over : mn_M := (yMo_over, kMo_over, 3, (some .int))
abbrev kMo_open : ByteArray := prog_14_method_40_code
def yMo_open : MethodName := ⟨"VolumeSetsModel", "open", "()V"⟩
abbrev MMo_open : mn_M := (yMo_open, kMo_open, 4, none)
abbrev kMo_isKnown : ByteArray := prog_14_method_38_code
def yMo_isKnown : MethodName := ⟨"VolumeSetsModel", "isKnown", "(I)Z"⟩
abbrev MMo_isKnown : mn_M := (yMo_isKnown, kMo_isKnown, 3, (some .boolean))
abbrev kMo_isWhole : ByteArray := prog_14_method_39_code
def yMo_isWhole : MethodName := ⟨"VolumeSetsModel", "isWhole", "(II)Z"⟩
abbrev MMo_isWhole : mn_M := (yMo_isWhole, kMo_isWhole, 5, (some .boolean))
abbrev kMo_found : ByteArray := prog_14_method_41_code
def yMo_found : MethodName := ⟨"VolumeSetsModel", "found", "(I)I"⟩
abbrev MMo_found : mn_M := (yMo_found, kMo_found, 2, (some .int))
abbrev kMo_where : ByteArray := prog_14_method_42_code
def yMo_where : MethodName := ⟨"VolumeSetsModel", "where", "(I)I"⟩
abbrev MMo_where : mn_M := (yMo_where, kMo_where, 2, (some .int))
abbrev kMo_got : ByteArray := prog_14_method_43_code
def yMo_got : MethodName := ⟨"VolumeSetsModel", "got", "(I)I"⟩
abbrev MMo_got : mn_M := (yMo_got, kMo_got, 2, (some .int))
abbrev kMo_opened : ByteArray := prog_14_method_44_code
def yMo_opened : MethodName := ⟨"VolumeSetsModel", "opened", "(II)I"⟩
abbrev MMo_opened : mn_M := (yMo_opened, kMo_opened, 3, (some .int))
abbrev kMo_count : ByteArray := prog_14_method_45_code
def yMo_count : MethodName := ⟨"VolumeSetsModel", "count", "(I)I"⟩
abbrev MMo_count : mn_M := (yMo_count, kMo_count, 4, (some .int))
abbrev kLa_law : ByteArray := code
def yLa_law : MethodName := ⟨"VolumeSetsLaw", "law", "([I)Z"⟩
abbrev MLa_law : mn_M := (yLa_law, kLa_law, 4, (some .boolean))
end
section
theorem dBy_sum_0 : decode kBy_sum 0 = .ok (.sipush 5381, 3) := by decide +kernel
theorem dBy_sum_3 : decode kBy_sum 3 = .ok (.istore_n 3, 1) := by decide +kernel
theorem dBy_sum_4 : decode kBy_sum 4 = .ok (.iconst 0, 1) := by decide +kernel
theorem dBy_sum_5 : decode kBy_sum 5 = .ok (.iload_n 1, 1) := by decide +kernel
theorem dBy_sum_6 : decode kBy_sum 6 = .ok (.invokestatic 7, 3) := by decide +kernel
theorem dBy_sum_9 : decode kBy_sum 9 = .ok (.istore 4, 2) := by decide +kernel
theorem dBy_sum_11 : decode kBy_sum 11 = .ok (.iload 4, 2) := by decide +kernel
theorem dBy_sum_13 : decode kBy_sum 13 = .ok (.iload_n 2, 1) := by decide +kernel
theorem dBy_sum_14 : decode kBy_sum 14 = .ok (.if_icmp .ge 29, 3) := by decide +kernel
theorem dBy_sum_17 : decode kBy_sum 17 = .ok (.iload 4, 2) := by decide +kernel
theorem dBy_sum_19 : decode kBy_sum 19 = .ok (.aload_n 0, 1) := by decide +kernel
theorem dBy_sum_20 : decode kBy_sum 20 = .ok (.arraylength, 1) := by decide +kernel
theorem dBy_sum_21 : decode kBy_sum 21 = .ok (.if_icmp .ge 22, 3) := by decide +kernel
theorem dBy_sum_24 : decode kBy_sum 24 = .ok (.bipush 33, 2) := by decide +kernel
theorem dBy_sum_26 : decode kBy_sum 26 = .ok (.iload_n 3, 1) := by decide +kernel
theorem dBy_sum_27 : decode kBy_sum 27 = .ok (.imul, 1) := by decide +kernel
theorem dBy_sum_28 : decode kBy_sum 28 = .ok (.aload_n 0, 1) := by decide +kernel
theorem dBy_sum_29 : decode kBy_sum 29 = .ok (.iload 4, 2) := by decide +kernel
theorem dBy_sum_31 : decode kBy_sum 31 = .ok (.iaload, 1) := by decide +kernel
theorem dBy_sum_32 : decode kBy_sum 32 = .ok (.ixor, 1) := by decide +kernel
theorem dBy_sum_33 : decode kBy_sum 33 = .ok (.ldc 13, 2) := by decide +kernel
theorem dBy_sum_35 : decode kBy_sum 35 = .ok (.iand, 1) := by decide +kernel
theorem dBy_sum_36 : decode kBy_sum 36 = .ok (.istore_n 3, 1) := by decide +kernel
theorem dBy_sum_37 : decode kBy_sum 37 = .ok (.iinc 4 1, 3) := by decide +kernel
theorem dBy_sum_40 : decode kBy_sum 40 = .ok (.goto (-29), 3) := by decide +kernel
theorem dBy_sum_43 : decode kBy_sum 43 = .ok (.iload_n 3, 1) := by decide +kernel
theorem dBy_sum_44 : decode kBy_sum 44 = .ok (.ireturn, 1) := by decide +kernel
theorem dBy_twice_0 : decode kBy_twice 0 = .ok (.iload_n 0, 1) := by decide +kernel
theorem dBy_twice_1 : decode kBy_twice 1 = .ok (.iconst 1, 1) := by decide +kernel
theorem dBy_twice_2 : decode kBy_twice 2 = .ok (.ishl, 1) := by decide +kernel
theorem dBy_twice_3 : decode kBy_twice 3 = .ok (.istore_n 1, 1) := by decide +kernel
theorem dBy_twice_4 : decode kBy_twice 4 = .ok (.iload_n 1, 1) := by decide +kernel
theorem dBy_twice_5 : decode kBy_twice 5 = .ok (.sipush 255, 3) := by decide +kernel
theorem dBy_twice_8 : decode kBy_twice 8 = .ok (.if_icmp .le 11, 3) := by decide +kernel
theorem dBy_twice_11 : decode kBy_twice 11 = .ok (.iload_n 1, 1) := by decide +kernel
theorem dBy_twice_12 : decode kBy_twice 12 = .ok (.sipush 285, 3) := by decide +kernel
theorem dBy_twice_15 : decode kBy_twice 15 = .ok (.ixor, 1) := by decide +kernel
theorem dBy_twice_16 : decode kBy_twice 16 = .ok (.goto 4, 3) := by decide +kernel
theorem dBy_twice_19 : decode kBy_twice 19 = .ok (.iload_n 1, 1) := by decide +kernel
theorem dBy_twice_20 : decode kBy_twice 20 = .ok (.ireturn, 1) := by decide +kernel
theorem dBy_product_0 : decode kBy_product 0 = .ok (.iconst 0, 1) := by decide +kernel
theorem dBy_product_1 : decode kBy_product 1 = .ok (.istore_n 2, 1) := by decide +kernel
theorem dBy_product_2 : decode kBy_product 2 = .ok (.iload_n 0, 1) := by decide +kernel
theorem dBy_product_3 : decode kBy_product 3 = .ok (.istore_n 3, 1) := by decide +kernel
theorem dBy_product_4 : decode kBy_product 4 = .ok (.iconst 0, 1) := by decide +kernel
theorem dBy_product_5 : decode kBy_product 5 = .ok (.istore 4, 2) := by decide +kernel
theorem dBy_product_7 : decode kBy_product 7 = .ok (.iload 4, 2) := by decide +kernel
theorem dBy_product_9 : decode kBy_product 9 = .ok (.bipush 8, 2) := by decide +kernel
theorem dBy_product_11 : decode kBy_product 11 = .ok (.if_icmp .ge 27, 3) := by decide +kernel
theorem dBy_product_14 : decode kBy_product 14 = .ok (.iload_n 1, 1) := by decide +kernel
theorem dBy_product_15 : decode kBy_product 15 = .ok (.iload 4, 2) := by decide +kernel
theorem dBy_product_17 : decode kBy_product 17 = .ok (.iushr, 1) := by decide +kernel
theorem dBy_product_18 : decode kBy_product 18 = .ok (.iconst 1, 1) := by decide +kernel
theorem dBy_product_19 : decode kBy_product 19 = .ok (.iand, 1) := by decide +kernel
theorem dBy_product_20 : decode kBy_product 20 = .ok (.ifCond .eq 7, 3) := by decide +kernel
theorem dBy_product_23 : decode kBy_product 23 = .ok (.iload_n 2, 1) := by decide +kernel
theorem dBy_product_24 : decode kBy_product 24 = .ok (.iload_n 3, 1) := by decide +kernel
theorem dBy_product_25 : decode kBy_product 25 = .ok (.ixor, 1) := by decide +kernel
theorem dBy_product_26 : decode kBy_product 26 = .ok (.istore_n 2, 1) := by decide +kernel
theorem dBy_product_27 : decode kBy_product 27 = .ok (.iload_n 3, 1) := by decide +kernel
theorem dBy_product_28 : decode kBy_product 28 = .ok (.invokestatic 16, 3) := by decide +kernel
theorem dBy_product_31 : decode kBy_product 31 = .ok (.istore_n 3, 1) := by decide +kernel
theorem dBy_product_32 : decode kBy_product 32 = .ok (.iinc 4 1, 3) := by decide +kernel
theorem dBy_product_35 : decode kBy_product 35 = .ok (.goto (-28), 3) := by decide +kernel
theorem dBy_product_38 : decode kBy_product 38 = .ok (.iload_n 2, 1) := by decide +kernel
theorem dBy_product_39 : decode kBy_product 39 = .ok (.ireturn, 1) := by decide +kernel
theorem dBy_raised_0 : decode kBy_raised 0 = .ok (.iload_n 0, 1) := by decide +kernel
theorem dBy_raised_1 : decode kBy_raised 1 = .ok (.istore_n 2, 1) := by decide +kernel
theorem dBy_raised_2 : decode kBy_raised 2 = .ok (.iconst 0, 1) := by decide +kernel
theorem dBy_raised_3 : decode kBy_raised 3 = .ok (.istore_n 3, 1) := by decide +kernel
theorem dBy_raised_4 : decode kBy_raised 4 = .ok (.iload_n 3, 1) := by decide +kernel
theorem dBy_raised_5 : decode kBy_raised 5 = .ok (.iload_n 1, 1) := by decide +kernel
theorem dBy_raised_6 : decode kBy_raised 6 = .ok (.if_icmp .ge 14, 3) := by decide +kernel
theorem dBy_raised_9 : decode kBy_raised 9 = .ok (.iload_n 2, 1) := by decide +kernel
theorem dBy_raised_10 : decode kBy_raised 10 = .ok (.invokestatic 16, 3) := by decide +kernel
theorem dBy_raised_13 : decode kBy_raised 13 = .ok (.istore_n 2, 1) := by decide +kernel
theorem dBy_raised_14 : decode kBy_raised 14 = .ok (.iinc 3 1, 3) := by decide +kernel
theorem dBy_raised_17 : decode kBy_raised 17 = .ok (.goto (-13), 3) := by decide +kernel
theorem dBy_raised_20 : decode kBy_raised 20 = .ok (.iload_n 2, 1) := by decide +kernel
theorem dBy_raised_21 : decode kBy_raised 21 = .ok (.ireturn, 1) := by decide +kernel
theorem dBy_inverse_0 : decode kBy_inverse 0 = .ok (.iconst 1, 1) := by decide +kernel
theorem dBy_inverse_1 : decode kBy_inverse 1 = .ok (.istore_n 1, 1) := by decide +kernel
theorem dBy_inverse_2 : decode kBy_inverse 2 = .ok (.iload_n 1, 1) := by decide +kernel
theorem dBy_inverse_3 : decode kBy_inverse 3 = .ok (.sipush 256, 3) := by decide +kernel
theorem dBy_inverse_6 : decode kBy_inverse 6 = .ok (.if_icmp .ge 20, 3) := by decide +kernel
theorem dBy_inverse_9 : decode kBy_inverse 9 = .ok (.iload_n 0, 1) := by decide +kernel
theorem dBy_inverse_10 : decode kBy_inverse 10 = .ok (.iload_n 1, 1) := by decide +kernel
theorem dBy_inverse_11 : decode kBy_inverse 11 = .ok (.invokestatic 20, 3) := by decide +kernel
theorem dBy_inverse_14 : decode kBy_inverse 14 = .ok (.iconst 1, 1) := by decide +kernel
theorem dBy_inverse_15 : decode kBy_inverse 15 = .ok (.if_icmp .ne 5, 3) := by decide +kernel
theorem dBy_inverse_18 : decode kBy_inverse 18 = .ok (.iload_n 1, 1) := by decide +kernel
theorem dBy_inverse_19 : decode kBy_inverse 19 = .ok (.ireturn, 1) := by decide +kernel
theorem dBy_inverse_20 : decode kBy_inverse 20 = .ok (.iinc 1 1, 3) := by decide +kernel
theorem dBy_inverse_23 : decode kBy_inverse 23 = .ok (.goto (-21), 3) := by decide +kernel
theorem dBy_inverse_26 : decode kBy_inverse 26 = .ok (.iconst 0, 1) := by decide +kernel
theorem dBy_inverse_27 : decode kBy_inverse 27 = .ok (.ireturn, 1) := by decide +kernel
theorem dBy_quotient_0 : decode kBy_quotient 0 = .ok (.iload_n 1, 1) := by decide +kernel
theorem dBy_quotient_1 : decode kBy_quotient 1 = .ok (.ifCond .gt 7, 3) := by decide +kernel
theorem dBy_quotient_4 : decode kBy_quotient 4 = .ok (.iconst 0, 1) := by decide +kernel
theorem dBy_quotient_5 : decode kBy_quotient 5 = .ok (.goto 6, 3) := by decide +kernel
theorem dBy_quotient_8 : decode kBy_quotient 8 = .ok (.iload_n 0, 1) := by decide +kernel
theorem dBy_quotient_9 : decode kBy_quotient 9 = .ok (.iload_n 1, 1) := by decide +kernel
theorem dBy_quotient_10 : decode kBy_quotient 10 = .ok (.idiv, 1) := by decide +kernel
theorem dBy_quotient_11 : decode kBy_quotient 11 = .ok (.ireturn, 1) := by decide +kernel
theorem dTa_init_0 : decode kTa_init 0 = .ok (.aload_n 0, 1) := by decide +kernel
theorem dTa_init_1 : decode kTa_init 1 = .ok (.invokespecial 3, 3) := by decide +kernel
theorem dTa_init_4 : decode kTa_init 4 = .ok (.aload_n 0, 1) := by decide +kernel
theorem dTa_init_5 : decode kTa_init 5 = .ok (.bipush 60, 2) := by decide +kernel
theorem dTa_init_7 : decode kTa_init 7 = .ok (.newarray .int, 2) := by decide +kernel
theorem dTa_init_9 : decode kTa_init 9 = .ok (.putfield 9, 3) := by decide +kernel
theorem dTa_init_12 : decode kTa_init 12 = .ok (.return_, 1) := by decide +kernel
theorem dTa_addNumber_0 : decode kTa_addNumber 0 = .ok (.bipush 24, 2) := by decide +kernel
theorem dTa_addNumber_2 : decode kTa_addNumber 2 = .ok (.istore_n 2, 1) := by decide +kernel
theorem dTa_addNumber_3 : decode kTa_addNumber 3 = .ok (.iload_n 2, 1) := by decide +kernel
theorem dTa_addNumber_4 : decode kTa_addNumber 4 = .ok (.ifCond .lt 20, 3) := by decide +kernel
theorem dTa_addNumber_7 : decode kTa_addNumber 7 = .ok (.aload_n 0, 1) := by decide +kernel
theorem dTa_addNumber_8 : decode kTa_addNumber 8 = .ok (.iload_n 1, 1) := by decide +kernel
theorem dTa_addNumber_9 : decode kTa_addNumber 9 = .ok (.iload_n 2, 1) := by decide +kernel
theorem dTa_addNumber_10 : decode kTa_addNumber 10 = .ok (.iushr, 1) := by decide +kernel
theorem dTa_addNumber_11 : decode kTa_addNumber 11 = .ok (.sipush 255, 3) := by decide +kernel
theorem dTa_addNumber_14 : decode kTa_addNumber 14 = .ok (.iand, 1) := by decide +kernel
theorem dTa_addNumber_15 : decode kTa_addNumber 15 = .ok (.invokevirtual 15, 3) := by decide +kernel
theorem dTa_addNumber_18 : decode kTa_addNumber 18 = .ok (.iinc 2 (-8), 3) := by decide +kernel
theorem dTa_addNumber_21 : decode kTa_addNumber 21 = .ok (.goto (-18), 3) := by decide +kernel
theorem dTa_addNumber_24 : decode kTa_addNumber 24 = .ok (.return_, 1) := by decide +kernel
theorem dTa_add_0 : decode kTa_add 0 = .ok (.aload_n 0, 1) := by decide +kernel
theorem dTa_add_1 : decode kTa_add 1 = .ok (.getfield 19, 3) := by decide +kernel
theorem dTa_add_4 : decode kTa_add 4 = .ok (.ifCond .lt 32, 3) := by decide +kernel
theorem dTa_add_7 : decode kTa_add 7 = .ok (.aload_n 0, 1) := by decide +kernel
theorem dTa_add_8 : decode kTa_add 8 = .ok (.getfield 19, 3) := by decide +kernel
theorem dTa_add_11 : decode kTa_add 11 = .ok (.bipush 60, 2) := by decide +kernel
theorem dTa_add_13 : decode kTa_add 13 = .ok (.if_icmp .ge 23, 3) := by decide +kernel
theorem dTa_add_16 : decode kTa_add 16 = .ok (.aload_n 0, 1) := by decide +kernel
theorem dTa_add_17 : decode kTa_add 17 = .ok (.getfield 9, 3) := by decide +kernel
theorem dTa_add_20 : decode kTa_add 20 = .ok (.aload_n 0, 1) := by decide +kernel
theorem dTa_add_21 : decode kTa_add 21 = .ok (.getfield 19, 3) := by decide +kernel
theorem dTa_add_24 : decode kTa_add 24 = .ok (.iload_n 1, 1) := by decide +kernel
theorem dTa_add_25 : decode kTa_add 25 = .ok (.iastore, 1) := by decide +kernel
theorem dTa_add_26 : decode kTa_add 26 = .ok (.aload_n 0, 1) := by decide +kernel
theorem dTa_add_27 : decode kTa_add 27 = .ok (.dup, 1) := by decide +kernel
theorem dTa_add_28 : decode kTa_add 28 = .ok (.getfield 19, 3) := by decide +kernel
theorem dTa_add_31 : decode kTa_add 31 = .ok (.iconst 1, 1) := by decide +kernel
theorem dTa_add_32 : decode kTa_add 32 = .ok (.iadd, 1) := by decide +kernel
theorem dTa_add_33 : decode kTa_add 33 = .ok (.putfield 19, 3) := by decide +kernel
theorem dTa_add_36 : decode kTa_add 36 = .ok (.return_, 1) := by decide +kernel
theorem dTa_byteAt_0 : decode kTa_byteAt 0 = .ok (.iload_n 1, 1) := by decide +kernel
theorem dTa_byteAt_1 : decode kTa_byteAt 1 = .ok (.ifCond .lt 9, 3) := by decide +kernel
theorem dTa_byteAt_4 : decode kTa_byteAt 4 = .ok (.iload_n 1, 1) := by decide +kernel
theorem dTa_byteAt_5 : decode kTa_byteAt 5 = .ok (.bipush 60, 2) := by decide +kernel
theorem dTa_byteAt_7 : decode kTa_byteAt 7 = .ok (.if_icmp .lt 7, 3) := by decide +kernel
theorem dTa_byteAt_10 : decode kTa_byteAt 10 = .ok (.iconst 0, 1) := by decide +kernel
theorem dTa_byteAt_11 : decode kTa_byteAt 11 = .ok (.goto 9, 3) := by decide +kernel
theorem dTa_byteAt_14 : decode kTa_byteAt 14 = .ok (.aload_n 0, 1) := by decide +kernel
theorem dTa_byteAt_15 : decode kTa_byteAt 15 = .ok (.getfield 9, 3) := by decide +kernel
theorem dTa_byteAt_18 : decode kTa_byteAt 18 = .ok (.iload_n 1, 1) := by decide +kernel
theorem dTa_byteAt_19 : decode kTa_byteAt 19 = .ok (.iaload, 1) := by decide +kernel
theorem dTa_byteAt_20 : decode kTa_byteAt 20 = .ok (.ireturn, 1) := by decide +kernel
theorem dTa_sum_0 : decode kTa_sum 0 = .ok (.aload_n 0, 1) := by decide +kernel
theorem dTa_sum_1 : decode kTa_sum 1 = .ok (.getfield 9, 3) := by decide +kernel
theorem dTa_sum_4 : decode kTa_sum 4 = .ok (.iconst 0, 1) := by decide +kernel
theorem dTa_sum_5 : decode kTa_sum 5 = .ok (.aload_n 0, 1) := by decide +kernel
theorem dTa_sum_6 : decode kTa_sum 6 = .ok (.getfield 19, 3) := by decide +kernel
theorem dTa_sum_9 : decode kTa_sum 9 = .ok (.invokestatic 23, 3) := by decide +kernel
theorem dTa_sum_12 : decode kTa_sum 12 = .ok (.ireturn, 1) := by decide +kernel
theorem dRu_init_0 : decode kRu_init 0 = .ok (.aload_n 0, 1) := by decide +kernel
theorem dRu_init_1 : decode kRu_init 1 = .ok (.invokespecial 3, 3) := by decide +kernel
theorem dRu_init_4 : decode kRu_init 4 = .ok (.aload_n 0, 1) := by decide +kernel
theorem dRu_init_5 : decode kRu_init 5 = .ok (.bipush 32, 2) := by decide +kernel
theorem dRu_init_7 : decode kRu_init 7 = .ok (.putfield 9, 3) := by decide +kernel
theorem dRu_init_10 : decode kRu_init 10 = .ok (.return_, 1) := by decide +kernel
theorem dRu_width_0 : decode kRu_width 0 = .ok (.aload_n 0, 1) := by decide +kernel
theorem dRu_width_1 : decode kRu_width 1 = .ok (.getfield 9, 3) := by decide +kernel
theorem dRu_width_4 : decode kRu_width 4 = .ok (.bipush 12, 2) := by decide +kernel
theorem dRu_width_6 : decode kRu_width 6 = .ok (.isub, 1) := by decide +kernel
theorem dRu_width_7 : decode kRu_width 7 = .ok (.ireturn, 1) := by decide +kernel
theorem dRu_change_0 : decode kRu_change 0 = .ok (.iload_n 1, 1) := by decide +kernel
theorem dRu_change_1 : decode kRu_change 1 = .ok (.tableswitch 45 0 2 #[27, 33, 39], 27) := by decide +kernel
theorem dRu_change_28 : decode kRu_change 28 = .ok (.aload_n 0, 1) := by decide +kernel
theorem dRu_change_29 : decode kRu_change 29 = .ok (.iload_n 2, 1) := by decide +kernel
theorem dRu_change_30 : decode kRu_change 30 = .ok (.invokevirtual 15, 3) := by decide +kernel
theorem dRu_change_33 : decode kRu_change 33 = .ok (.ireturn, 1) := by decide +kernel
theorem dRu_change_34 : decode kRu_change 34 = .ok (.aload_n 0, 1) := by decide +kernel
theorem dRu_change_35 : decode kRu_change 35 = .ok (.iload_n 2, 1) := by decide +kernel
theorem dRu_change_36 : decode kRu_change 36 = .ok (.invokevirtual 19, 3) := by decide +kernel
theorem dRu_change_39 : decode kRu_change 39 = .ok (.ireturn, 1) := by decide +kernel
theorem dRu_change_40 : decode kRu_change 40 = .ok (.aload_n 0, 1) := by decide +kernel
theorem dRu_change_41 : decode kRu_change 41 = .ok (.iload_n 2, 1) := by decide +kernel
theorem dRu_change_42 : decode kRu_change 42 = .ok (.invokevirtual 22, 3) := by decide +kernel
theorem dRu_change_45 : decode kRu_change 45 = .ok (.ireturn, 1) := by decide +kernel
theorem dRu_change_46 : decode kRu_change 46 = .ok (.iconst (-1), 1) := by decide +kernel
theorem dRu_change_47 : decode kRu_change 47 = .ok (.ireturn, 1) := by decide +kernel
theorem dRu_changeSize_0 : decode kRu_changeSize 0 = .ok (.iload_n 1, 1) := by decide +kernel
theorem dRu_changeSize_1 : decode kRu_changeSize 1 = .ok (.bipush 20, 2) := by decide +kernel
theorem dRu_changeSize_3 : decode kRu_changeSize 3 = .ok (.if_icmp .lt 9, 3) := by decide +kernel
theorem dRu_changeSize_6 : decode kRu_changeSize 6 = .ok (.iload_n 1, 1) := by decide +kernel
theorem dRu_changeSize_7 : decode kRu_changeSize 7 = .ok (.bipush 80, 2) := by decide +kernel
theorem dRu_changeSize_9 : decode kRu_changeSize 9 = .ok (.if_icmp .le 5, 3) := by decide +kernel
theorem dRu_changeSize_12 : decode kRu_changeSize 12 = .ok (.iconst (-1), 1) := by decide +kernel
theorem dRu_changeSize_13 : decode kRu_changeSize 13 = .ok (.ireturn, 1) := by decide +kernel
theorem dRu_changeSize_14 : decode kRu_changeSize 14 = .ok (.aload_n 0, 1) := by decide +kernel
theorem dRu_changeSize_15 : decode kRu_changeSize 15 = .ok (.getfield 9, 3) := by decide +kernel
theorem dRu_changeSize_18 : decode kRu_changeSize 18 = .ok (.istore_n 2, 1) := by decide +kernel
theorem dRu_changeSize_19 : decode kRu_changeSize 19 = .ok (.aload_n 0, 1) := by decide +kernel
theorem dRu_changeSize_20 : decode kRu_changeSize 20 = .ok (.iload_n 1, 1) := by decide +kernel
theorem dRu_changeSize_21 : decode kRu_changeSize 21 = .ok (.putfield 9, 3) := by decide +kernel
theorem dRu_changeSize_24 : decode kRu_changeSize 24 = .ok (.iload_n 2, 1) := by decide +kernel
theorem dRu_changeSize_25 : decode kRu_changeSize 25 = .ok (.ireturn, 1) := by decide +kernel
theorem dRu_changeRepairs_0 : decode kRu_changeRepairs 0 = .ok (.iload_n 1, 1) := by decide +kernel
theorem dRu_changeRepairs_1 : decode kRu_changeRepairs 1 = .ok (.ifCond .lt 8, 3) := by decide +kernel
theorem dRu_changeRepairs_4 : decode kRu_changeRepairs 4 = .ok (.iload_n 1, 1) := by decide +kernel
theorem dRu_changeRepairs_5 : decode kRu_changeRepairs 5 = .ok (.iconst 3, 1) := by decide +kernel
theorem dRu_changeRepairs_6 : decode kRu_changeRepairs 6 = .ok (.if_icmp .le 5, 3) := by decide +kernel
theorem dRu_changeRepairs_9 : decode kRu_changeRepairs 9 = .ok (.iconst (-1), 1) := by decide +kernel
theorem dRu_changeRepairs_10 : decode kRu_changeRepairs 10 = .ok (.ireturn, 1) := by decide +kernel
theorem dRu_changeRepairs_11 : decode kRu_changeRepairs 11 = .ok (.aload_n 0, 1) := by decide +kernel
theorem dRu_changeRepairs_12 : decode kRu_changeRepairs 12 = .ok (.getfield 25, 3) := by decide +kernel
theorem dRu_changeRepairs_15 : decode kRu_changeRepairs 15 = .ok (.istore_n 2, 1) := by decide +kernel
theorem dRu_changeRepairs_16 : decode kRu_changeRepairs 16 = .ok (.aload_n 0, 1) := by decide +kernel
theorem dRu_changeRepairs_17 : decode kRu_changeRepairs 17 = .ok (.iload_n 1, 1) := by decide +kernel
theorem dRu_changeRepairs_18 : decode kRu_changeRepairs 18 = .ok (.putfield 25, 3) := by decide +kernel
theorem dRu_changeRepairs_21 : decode kRu_changeRepairs 21 = .ok (.iload_n 2, 1) := by decide +kernel
theorem dRu_changeRepairs_22 : decode kRu_changeRepairs 22 = .ok (.ireturn, 1) := by decide +kernel
theorem dRu_changeSet_0 : decode kRu_changeSet 0 = .ok (.iload_n 1, 1) := by decide +kernel
theorem dRu_changeSet_1 : decode kRu_changeSet 1 = .ok (.ifCond .lt 10, 3) := by decide +kernel
theorem dRu_changeSet_4 : decode kRu_changeSet 4 = .ok (.iload_n 1, 1) := by decide +kernel
theorem dRu_changeSet_5 : decode kRu_changeSet 5 = .ok (.sipush 255, 3) := by decide +kernel
theorem dRu_changeSet_8 : decode kRu_changeSet 8 = .ok (.if_icmp .le 5, 3) := by decide +kernel
theorem dRu_changeSet_11 : decode kRu_changeSet 11 = .ok (.iconst (-1), 1) := by decide +kernel
theorem dRu_changeSet_12 : decode kRu_changeSet 12 = .ok (.ireturn, 1) := by decide +kernel
theorem dRu_changeSet_13 : decode kRu_changeSet 13 = .ok (.aload_n 0, 1) := by decide +kernel
theorem dRu_changeSet_14 : decode kRu_changeSet 14 = .ok (.getfield 28, 3) := by decide +kernel
theorem dRu_changeSet_17 : decode kRu_changeSet 17 = .ok (.istore_n 2, 1) := by decide +kernel
theorem dRu_changeSet_18 : decode kRu_changeSet 18 = .ok (.aload_n 0, 1) := by decide +kernel
theorem dRu_changeSet_19 : decode kRu_changeSet 19 = .ok (.iload_n 1, 1) := by decide +kernel
theorem dRu_changeSet_20 : decode kRu_changeSet 20 = .ok (.putfield 28, 3) := by decide +kernel
theorem dRu_changeSet_23 : decode kRu_changeSet 23 = .ok (.iload_n 2, 1) := by decide +kernel
theorem dRu_changeSet_24 : decode kRu_changeSet 24 = .ok (.ireturn, 1) := by decide +kernel
theorem dVo_init_0 : decode kVo_init 0 = .ok (.aload_n 0, 1) := by decide +kernel
theorem dVo_init_1 : decode kVo_init 1 = .ok (.invokespecial 3, 3) := by decide +kernel
theorem dVo_init_4 : decode kVo_init 4 = .ok (.aload_n 0, 1) := by decide +kernel
theorem dVo_init_5 : decode kVo_init 5 = .ok (.bipush 80, 2) := by decide +kernel
theorem dVo_init_7 : decode kVo_init 7 = .ok (.newarray .int, 2) := by decide +kernel
theorem dVo_init_9 : decode kVo_init 9 = .ok (.putfield 9, 3) := by decide +kernel
theorem dVo_init_12 : decode kVo_init 12 = .ok (.return_, 1) := by decide +kernel
theorem dVo_byteAt_0 : decode kVo_byteAt 0 = .ok (.iload_n 1, 1) := by decide +kernel
theorem dVo_byteAt_1 : decode kVo_byteAt 1 = .ok (.ifCond .lt 9, 3) := by decide +kernel
theorem dVo_byteAt_4 : decode kVo_byteAt 4 = .ok (.iload_n 1, 1) := by decide +kernel
theorem dVo_byteAt_5 : decode kVo_byteAt 5 = .ok (.bipush 80, 2) := by decide +kernel
theorem dVo_byteAt_7 : decode kVo_byteAt 7 = .ok (.if_icmp .lt 7, 3) := by decide +kernel
theorem dVo_byteAt_10 : decode kVo_byteAt 10 = .ok (.iconst 0, 1) := by decide +kernel
theorem dVo_byteAt_11 : decode kVo_byteAt 11 = .ok (.goto 9, 3) := by decide +kernel
theorem dVo_byteAt_14 : decode kVo_byteAt 14 = .ok (.aload_n 0, 1) := by decide +kernel
theorem dVo_byteAt_15 : decode kVo_byteAt 15 = .ok (.getfield 9, 3) := by decide +kernel
theorem dVo_byteAt_18 : decode kVo_byteAt 18 = .ok (.iload_n 1, 1) := by decide +kernel
theorem dVo_byteAt_19 : decode kVo_byteAt 19 = .ok (.iaload, 1) := by decide +kernel
theorem dVo_byteAt_20 : decode kVo_byteAt 20 = .ok (.ireturn, 1) := by decide +kernel
theorem dVo_put_0 : decode kVo_put 0 = .ok (.iload_n 1, 1) := by decide +kernel
theorem dVo_put_1 : decode kVo_put 1 = .ok (.ifCond .lt 16, 3) := by decide +kernel
theorem dVo_put_4 : decode kVo_put 4 = .ok (.iload_n 1, 1) := by decide +kernel
theorem dVo_put_5 : decode kVo_put 5 = .ok (.bipush 80, 2) := by decide +kernel
theorem dVo_put_7 : decode kVo_put 7 = .ok (.if_icmp .ge 10, 3) := by decide +kernel
theorem dVo_put_10 : decode kVo_put 10 = .ok (.aload_n 0, 1) := by decide +kernel
theorem dVo_put_11 : decode kVo_put 11 = .ok (.getfield 9, 3) := by decide +kernel
theorem dVo_put_14 : decode kVo_put 14 = .ok (.iload_n 1, 1) := by decide +kernel
theorem dVo_put_15 : decode kVo_put 15 = .ok (.iload_n 2, 1) := by decide +kernel
theorem dVo_put_16 : decode kVo_put 16 = .ok (.iastore, 1) := by decide +kernel
theorem dVo_put_17 : decode kVo_put 17 = .ok (.return_, 1) := by decide +kernel
theorem dVo_putSum_0 : decode kVo_putSum 0 = .ok (.aload_n 0, 1) := by decide +kernel
theorem dVo_putSum_1 : decode kVo_putSum 1 = .ok (.iload_n 1, 1) := by decide +kernel
theorem dVo_putSum_2 : decode kVo_putSum 2 = .ok (.iload_n 2, 1) := by decide +kernel
theorem dVo_putSum_3 : decode kVo_putSum 3 = .ok (.sipush 255, 3) := by decide +kernel
theorem dVo_putSum_6 : decode kVo_putSum 6 = .ok (.iand, 1) := by decide +kernel
theorem dVo_putSum_7 : decode kVo_putSum 7 = .ok (.invokevirtual 15, 3) := by decide +kernel
theorem dVo_putSum_10 : decode kVo_putSum 10 = .ok (.aload_n 0, 1) := by decide +kernel
theorem dVo_putSum_11 : decode kVo_putSum 11 = .ok (.iload_n 1, 1) := by decide +kernel
theorem dVo_putSum_12 : decode kVo_putSum 12 = .ok (.iconst 1, 1) := by decide +kernel
theorem dVo_putSum_13 : decode kVo_putSum 13 = .ok (.iadd, 1) := by decide +kernel
theorem dVo_putSum_14 : decode kVo_putSum 14 = .ok (.iload_n 2, 1) := by decide +kernel
theorem dVo_putSum_15 : decode kVo_putSum 15 = .ok (.bipush 8, 2) := by decide +kernel
theorem dVo_putSum_17 : decode kVo_putSum 17 = .ok (.iushr, 1) := by decide +kernel
theorem dVo_putSum_18 : decode kVo_putSum 18 = .ok (.invokevirtual 15, 3) := by decide +kernel
theorem dVo_putSum_21 : decode kVo_putSum 21 = .ok (.return_, 1) := by decide +kernel
theorem dVo_sumAt_0 : decode kVo_sumAt 0 = .ok (.aload_n 0, 1) := by decide +kernel
theorem dVo_sumAt_1 : decode kVo_sumAt 1 = .ok (.iload_n 1, 1) := by decide +kernel
theorem dVo_sumAt_2 : decode kVo_sumAt 2 = .ok (.invokevirtual 19, 3) := by decide +kernel
theorem dVo_sumAt_5 : decode kVo_sumAt 5 = .ok (.aload_n 0, 1) := by decide +kernel
theorem dVo_sumAt_6 : decode kVo_sumAt 6 = .ok (.iload_n 1, 1) := by decide +kernel
theorem dVo_sumAt_7 : decode kVo_sumAt 7 = .ok (.iconst 1, 1) := by decide +kernel
theorem dVo_sumAt_8 : decode kVo_sumAt 8 = .ok (.iadd, 1) := by decide +kernel
theorem dVo_sumAt_9 : decode kVo_sumAt 9 = .ok (.invokevirtual 19, 3) := by decide +kernel
theorem dVo_sumAt_12 : decode kVo_sumAt 12 = .ok (.bipush 8, 2) := by decide +kernel
theorem dVo_sumAt_14 : decode kVo_sumAt 14 = .ok (.ishl, 1) := by decide +kernel
theorem dVo_sumAt_15 : decode kVo_sumAt 15 = .ok (.iadd, 1) := by decide +kernel
theorem dVo_sumAt_16 : decode kVo_sumAt 16 = .ok (.ireturn, 1) := by decide +kernel
theorem dVo_seal_0 : decode kVo_seal 0 = .ok (.aload_n 0, 1) := by decide +kernel
theorem dVo_seal_1 : decode kVo_seal 1 = .ok (.bipush 8, 2) := by decide +kernel
theorem dVo_seal_3 : decode kVo_seal 3 = .ok (.aload_n 0, 1) := by decide +kernel
theorem dVo_seal_4 : decode kVo_seal 4 = .ok (.getfield 9, 3) := by decide +kernel
theorem dVo_seal_7 : decode kVo_seal 7 = .ok (.bipush 12, 2) := by decide +kernel
theorem dVo_seal_9 : decode kVo_seal 9 = .ok (.aload_n 0, 1) := by decide +kernel
theorem dVo_seal_10 : decode kVo_seal 10 = .ok (.getfield 23, 3) := by decide +kernel
theorem dVo_seal_13 : decode kVo_seal 13 = .ok (.invokestatic 27, 3) := by decide +kernel
theorem dVo_seal_16 : decode kVo_seal 16 = .ok (.invokevirtual 33, 3) := by decide +kernel
theorem dVo_seal_19 : decode kVo_seal 19 = .ok (.aload_n 0, 1) := by decide +kernel
theorem dVo_seal_20 : decode kVo_seal 20 = .ok (.bipush 10, 2) := by decide +kernel
theorem dVo_seal_22 : decode kVo_seal 22 = .ok (.aload_n 0, 1) := by decide +kernel
theorem dVo_seal_23 : decode kVo_seal 23 = .ok (.getfield 9, 3) := by decide +kernel
theorem dVo_seal_26 : decode kVo_seal 26 = .ok (.iconst 0, 1) := by decide +kernel
theorem dVo_seal_27 : decode kVo_seal 27 = .ok (.bipush 10, 2) := by decide +kernel
theorem dVo_seal_29 : decode kVo_seal 29 = .ok (.invokestatic 27, 3) := by decide +kernel
theorem dVo_seal_32 : decode kVo_seal 32 = .ok (.invokevirtual 33, 3) := by decide +kernel
theorem dVo_seal_35 : decode kVo_seal 35 = .ok (.return_, 1) := by decide +kernel
theorem dVo_cutOff_0 : decode kVo_cutOff 0 = .ok (.aload_n 0, 1) := by decide +kernel
theorem dVo_cutOff_1 : decode kVo_cutOff 1 = .ok (.getfield 23, 3) := by decide +kernel
theorem dVo_cutOff_4 : decode kVo_cutOff 4 = .ok (.iconst 2, 1) := by decide +kernel
theorem dVo_cutOff_5 : decode kVo_cutOff 5 = .ok (.idiv, 1) := by decide +kernel
theorem dVo_cutOff_6 : decode kVo_cutOff 6 = .ok (.istore_n 1, 1) := by decide +kernel
theorem dVo_cutOff_7 : decode kVo_cutOff 7 = .ok (.iload_n 1, 1) := by decide +kernel
theorem dVo_cutOff_8 : decode kVo_cutOff 8 = .ok (.aload_n 0, 1) := by decide +kernel
theorem dVo_cutOff_9 : decode kVo_cutOff 9 = .ok (.getfield 23, 3) := by decide +kernel
theorem dVo_cutOff_12 : decode kVo_cutOff 12 = .ok (.if_icmp .ge 15, 3) := by decide +kernel
theorem dVo_cutOff_15 : decode kVo_cutOff 15 = .ok (.aload_n 0, 1) := by decide +kernel
theorem dVo_cutOff_16 : decode kVo_cutOff 16 = .ok (.iload_n 1, 1) := by decide +kernel
theorem dVo_cutOff_17 : decode kVo_cutOff 17 = .ok (.iconst 0, 1) := by decide +kernel
theorem dVo_cutOff_18 : decode kVo_cutOff 18 = .ok (.invokevirtual 15, 3) := by decide +kernel
theorem dVo_cutOff_21 : decode kVo_cutOff 21 = .ok (.iinc 1 1, 3) := by decide +kernel
theorem dVo_cutOff_24 : decode kVo_cutOff 24 = .ok (.goto (-17), 3) := by decide +kernel
theorem dVo_cutOff_27 : decode kVo_cutOff 27 = .ok (.return_, 1) := by decide +kernel
theorem dVo_become_0 : decode kVo_become 0 = .ok (.aload_n 1, 1) := by decide +kernel
theorem dVo_become_1 : decode kVo_become 1 = .ok (.getfield 9, 3) := by decide +kernel
theorem dVo_become_4 : decode kVo_become 4 = .ok (.iconst 0, 1) := by decide +kernel
theorem dVo_become_5 : decode kVo_become 5 = .ok (.aload_n 0, 1) := by decide +kernel
theorem dVo_become_6 : decode kVo_become 6 = .ok (.getfield 9, 3) := by decide +kernel
theorem dVo_become_9 : decode kVo_become 9 = .ok (.iconst 0, 1) := by decide +kernel
theorem dVo_become_10 : decode kVo_become 10 = .ok (.bipush 80, 2) := by decide +kernel
theorem dVo_become_12 : decode kVo_become 12 = .ok (.invokestatic 36, 3) := by decide +kernel
theorem dVo_become_15 : decode kVo_become 15 = .ok (.aload_n 0, 1) := by decide +kernel
theorem dVo_become_16 : decode kVo_become 16 = .ok (.aload_n 1, 1) := by decide +kernel
theorem dVo_become_17 : decode kVo_become 17 = .ok (.getfield 23, 3) := by decide +kernel
theorem dVo_become_20 : decode kVo_become 20 = .ok (.putfield 23, 3) := by decide +kernel
theorem dVo_become_23 : decode kVo_become 23 = .ok (.return_, 1) := by decide +kernel
theorem dVo_hasJustTheBytesOf_0 : decode kVo_hasJustTheBytesOf 0 = .ok (.aload_n 0, 1) := by decide +kernel
theorem dVo_hasJustTheBytesOf_1 : decode kVo_hasJustTheBytesOf 1 = .ok (.getfield 23, 3) := by decide +kernel
theorem dVo_hasJustTheBytesOf_4 : decode kVo_hasJustTheBytesOf 4 = .ok (.aload_n 1, 1) := by decide +kernel
theorem dVo_hasJustTheBytesOf_5 : decode kVo_hasJustTheBytesOf 5 = .ok (.getfield 23, 3) := by decide +kernel
theorem dVo_hasJustTheBytesOf_8 : decode kVo_hasJustTheBytesOf 8 = .ok (.if_icmp .eq 5, 3) := by decide +kernel
theorem dVo_hasJustTheBytesOf_11 : decode kVo_hasJustTheBytesOf 11 = .ok (.iconst 0, 1) := by decide +kernel
theorem dVo_hasJustTheBytesOf_12 : decode kVo_hasJustTheBytesOf 12 = .ok (.ireturn, 1) := by decide +kernel
theorem dVo_hasJustTheBytesOf_13 : decode kVo_hasJustTheBytesOf 13 = .ok (.iconst 0, 1) := by decide +kernel
theorem dVo_hasJustTheBytesOf_14 : decode kVo_hasJustTheBytesOf 14 = .ok (.istore_n 2, 1) := by decide +kernel
theorem dVo_hasJustTheBytesOf_15 : decode kVo_hasJustTheBytesOf 15 = .ok (.iload_n 2, 1) := by decide +kernel
theorem dVo_hasJustTheBytesOf_16 : decode kVo_hasJustTheBytesOf 16 = .ok (.aload_n 0, 1) := by decide +kernel
theorem dVo_hasJustTheBytesOf_17 : decode kVo_hasJustTheBytesOf 17 = .ok (.getfield 23, 3) := by decide +kernel
theorem dVo_hasJustTheBytesOf_20 : decode kVo_hasJustTheBytesOf 20 = .ok (.if_icmp .ge 24, 3) := by decide +kernel
theorem dVo_hasJustTheBytesOf_23 : decode kVo_hasJustTheBytesOf 23 = .ok (.aload_n 0, 1) := by decide +kernel
theorem dVo_hasJustTheBytesOf_24 : decode kVo_hasJustTheBytesOf 24 = .ok (.iload_n 2, 1) := by decide +kernel
theorem dVo_hasJustTheBytesOf_25 : decode kVo_hasJustTheBytesOf 25 = .ok (.invokevirtual 19, 3) := by decide +kernel
theorem dVo_hasJustTheBytesOf_28 : decode kVo_hasJustTheBytesOf 28 = .ok (.aload_n 1, 1) := by decide +kernel
theorem dVo_hasJustTheBytesOf_29 : decode kVo_hasJustTheBytesOf 29 = .ok (.iload_n 2, 1) := by decide +kernel
theorem dVo_hasJustTheBytesOf_30 : decode kVo_hasJustTheBytesOf 30 = .ok (.invokevirtual 19, 3) := by decide +kernel
theorem dVo_hasJustTheBytesOf_33 : decode kVo_hasJustTheBytesOf 33 = .ok (.if_icmp .eq 5, 3) := by decide +kernel
theorem dVo_hasJustTheBytesOf_36 : decode kVo_hasJustTheBytesOf 36 = .ok (.iconst 0, 1) := by decide +kernel
theorem dVo_hasJustTheBytesOf_37 : decode kVo_hasJustTheBytesOf 37 = .ok (.ireturn, 1) := by decide +kernel
theorem dVo_hasJustTheBytesOf_38 : decode kVo_hasJustTheBytesOf 38 = .ok (.iinc 2 1, 3) := by decide +kernel
theorem dVo_hasJustTheBytesOf_41 : decode kVo_hasJustTheBytesOf 41 = .ok (.goto (-26), 3) := by decide +kernel
theorem dVo_hasJustTheBytesOf_44 : decode kVo_hasJustTheBytesOf 44 = .ok (.iconst 1, 1) := by decide +kernel
theorem dVo_hasJustTheBytesOf_45 : decode kVo_hasJustTheBytesOf 45 = .ok (.ireturn, 1) := by decide +kernel
theorem dVo_hasHead_0 : decode kVo_hasHead 0 = .ok (.aload_n 0, 1) := by decide +kernel
theorem dVo_hasHead_1 : decode kVo_hasHead 1 = .ok (.iconst 4, 1) := by decide +kernel
theorem dVo_hasHead_2 : decode kVo_hasHead 2 = .ok (.invokevirtual 19, 3) := by decide +kernel
theorem dVo_hasHead_5 : decode kVo_hasHead 5 = .ok (.istore_n 1, 1) := by decide +kernel
theorem dVo_hasHead_6 : decode kVo_hasHead 6 = .ok (.aload_n 0, 1) := by decide +kernel
theorem dVo_hasHead_7 : decode kVo_hasHead 7 = .ok (.iconst 5, 1) := by decide +kernel
theorem dVo_hasHead_8 : decode kVo_hasHead 8 = .ok (.invokevirtual 19, 3) := by decide +kernel
theorem dVo_hasHead_11 : decode kVo_hasHead 11 = .ok (.istore_n 2, 1) := by decide +kernel
theorem dVo_hasHead_12 : decode kVo_hasHead 12 = .ok (.aload_n 0, 1) := by decide +kernel
theorem dVo_hasHead_13 : decode kVo_hasHead 13 = .ok (.getfield 23, 3) := by decide +kernel
theorem dVo_hasHead_16 : decode kVo_hasHead 16 = .ok (.bipush 12, 2) := by decide +kernel
theorem dVo_hasHead_18 : decode kVo_hasHead 18 = .ok (.if_icmp .lt 73, 3) := by decide +kernel
theorem dVo_hasHead_21 : decode kVo_hasHead 21 = .ok (.aload_n 0, 1) := by decide +kernel
theorem dVo_hasHead_22 : decode kVo_hasHead 22 = .ok (.iconst 0, 1) := by decide +kernel
theorem dVo_hasHead_23 : decode kVo_hasHead 23 = .ok (.invokevirtual 19, 3) := by decide +kernel
theorem dVo_hasHead_26 : decode kVo_hasHead 26 = .ok (.bipush 86, 2) := by decide +kernel
theorem dVo_hasHead_28 : decode kVo_hasHead 28 = .ok (.if_icmp .ne 63, 3) := by decide +kernel
theorem dVo_hasHead_31 : decode kVo_hasHead 31 = .ok (.aload_n 0, 1) := by decide +kernel
theorem dVo_hasHead_32 : decode kVo_hasHead 32 = .ok (.iconst 1, 1) := by decide +kernel
theorem dVo_hasHead_33 : decode kVo_hasHead 33 = .ok (.invokevirtual 19, 3) := by decide +kernel
theorem dVo_hasHead_36 : decode kVo_hasHead 36 = .ok (.bipush 83, 2) := by decide +kernel
theorem dVo_hasHead_38 : decode kVo_hasHead 38 = .ok (.if_icmp .ne 53, 3) := by decide +kernel
theorem dVo_hasHead_41 : decode kVo_hasHead 41 = .ok (.aload_n 0, 1) := by decide +kernel
theorem dVo_hasHead_42 : decode kVo_hasHead 42 = .ok (.bipush 10, 2) := by decide +kernel
theorem dVo_hasHead_44 : decode kVo_hasHead 44 = .ok (.invokevirtual 42, 3) := by decide +kernel
theorem dVo_hasHead_47 : decode kVo_hasHead 47 = .ok (.aload_n 0, 1) := by decide +kernel
theorem dVo_hasHead_48 : decode kVo_hasHead 48 = .ok (.getfield 9, 3) := by decide +kernel
theorem dVo_hasHead_51 : decode kVo_hasHead 51 = .ok (.iconst 0, 1) := by decide +kernel
theorem dVo_hasHead_52 : decode kVo_hasHead 52 = .ok (.bipush 10, 2) := by decide +kernel
theorem dVo_hasHead_54 : decode kVo_hasHead 54 = .ok (.invokestatic 27, 3) := by decide +kernel
theorem dVo_hasHead_57 : decode kVo_hasHead 57 = .ok (.if_icmp .ne 34, 3) := by decide +kernel
theorem dVo_hasHead_60 : decode kVo_hasHead 60 = .ok (.iload_n 1, 1) := by decide +kernel
theorem dVo_hasHead_61 : decode kVo_hasHead 61 = .ok (.iconst 1, 1) := by decide +kernel
theorem dVo_hasHead_62 : decode kVo_hasHead 62 = .ok (.if_icmp .lt 29, 3) := by decide +kernel
theorem dVo_hasHead_65 : decode kVo_hasHead 65 = .ok (.iload_n 1, 1) := by decide +kernel
theorem dVo_hasHead_66 : decode kVo_hasHead 66 = .ok (.bipush 60, 2) := by decide +kernel
theorem dVo_hasHead_68 : decode kVo_hasHead 68 = .ok (.if_icmp .gt 23, 3) := by decide +kernel
theorem dVo_hasHead_71 : decode kVo_hasHead 71 = .ok (.iload_n 2, 1) := by decide +kernel
theorem dVo_hasHead_72 : decode kVo_hasHead 72 = .ok (.iconst 3, 1) := by decide +kernel
theorem dVo_hasHead_73 : decode kVo_hasHead 73 = .ok (.if_icmp .gt 18, 3) := by decide +kernel
theorem dVo_hasHead_76 : decode kVo_hasHead 76 = .ok (.aload_n 0, 1) := by decide +kernel
theorem dVo_hasHead_77 : decode kVo_hasHead 77 = .ok (.iconst 3, 1) := by decide +kernel
theorem dVo_hasHead_78 : decode kVo_hasHead 78 = .ok (.invokevirtual 19, 3) := by decide +kernel
theorem dVo_hasHead_81 : decode kVo_hasHead 81 = .ok (.iload_n 1, 1) := by decide +kernel
theorem dVo_hasHead_82 : decode kVo_hasHead 82 = .ok (.iload_n 2, 1) := by decide +kernel
theorem dVo_hasHead_83 : decode kVo_hasHead 83 = .ok (.iadd, 1) := by decide +kernel
theorem dVo_hasHead_84 : decode kVo_hasHead 84 = .ok (.if_icmp .ge 7, 3) := by decide +kernel
theorem dVo_hasHead_87 : decode kVo_hasHead 87 = .ok (.iconst 1, 1) := by decide +kernel
theorem dVo_hasHead_88 : decode kVo_hasHead 88 = .ok (.goto 4, 3) := by decide +kernel
theorem dVo_hasHead_91 : decode kVo_hasHead 91 = .ok (.iconst 0, 1) := by decide +kernel
theorem dVo_hasHead_92 : decode kVo_hasHead 92 = .ok (.ireturn, 1) := by decide +kernel
theorem dVo_state_0 : decode kVo_state 0 = .ok (.aload_n 0, 1) := by decide +kernel
theorem dVo_state_1 : decode kVo_state 1 = .ok (.getfield 23, 3) := by decide +kernel
theorem dVo_state_4 : decode kVo_state 4 = .ok (.ifCond .ne 5, 3) := by decide +kernel
theorem dVo_state_7 : decode kVo_state 7 = .ok (.iconst 0, 1) := by decide +kernel
theorem dVo_state_8 : decode kVo_state 8 = .ok (.ireturn, 1) := by decide +kernel
theorem dVo_state_9 : decode kVo_state 9 = .ok (.aload_n 0, 1) := by decide +kernel
theorem dVo_state_10 : decode kVo_state 10 = .ok (.invokevirtual 45, 3) := by decide +kernel
theorem dVo_state_13 : decode kVo_state 13 = .ok (.ifCond .ne 5, 3) := by decide +kernel
theorem dVo_state_16 : decode kVo_state 16 = .ok (.iconst 3, 1) := by decide +kernel
theorem dVo_state_17 : decode kVo_state 17 = .ok (.ireturn, 1) := by decide +kernel
theorem dVo_state_18 : decode kVo_state 18 = .ok (.aload_n 0, 1) := by decide +kernel
theorem dVo_state_19 : decode kVo_state 19 = .ok (.bipush 8, 2) := by decide +kernel
theorem dVo_state_21 : decode kVo_state 21 = .ok (.invokevirtual 42, 3) := by decide +kernel
theorem dVo_state_24 : decode kVo_state 24 = .ok (.aload_n 0, 1) := by decide +kernel
theorem dVo_state_25 : decode kVo_state 25 = .ok (.getfield 9, 3) := by decide +kernel
theorem dVo_state_28 : decode kVo_state 28 = .ok (.bipush 12, 2) := by decide +kernel
theorem dVo_state_30 : decode kVo_state 30 = .ok (.aload_n 0, 1) := by decide +kernel
theorem dVo_state_31 : decode kVo_state 31 = .ok (.getfield 23, 3) := by decide +kernel
theorem dVo_state_34 : decode kVo_state 34 = .ok (.invokestatic 27, 3) := by decide +kernel
theorem dVo_state_37 : decode kVo_state 37 = .ok (.if_icmp .ne 7, 3) := by decide +kernel
theorem dVo_state_40 : decode kVo_state 40 = .ok (.iconst 1, 1) := by decide +kernel
theorem dVo_state_41 : decode kVo_state 41 = .ok (.goto 4, 3) := by decide +kernel
theorem dVo_state_44 : decode kVo_state 44 = .ok (.iconst 2, 1) := by decide +kernel
theorem dVo_state_45 : decode kVo_state 45 = .ok (.ireturn, 1) := by decide +kernel
theorem dVo_isGoodOf_0 : decode kVo_isGoodOf 0 = .ok (.aload_n 0, 1) := by decide +kernel
theorem dVo_isGoodOf_1 : decode kVo_isGoodOf 1 = .ok (.iconst 2, 1) := by decide +kernel
theorem dVo_isGoodOf_2 : decode kVo_isGoodOf 2 = .ok (.invokevirtual 19, 3) := by decide +kernel
theorem dVo_isGoodOf_5 : decode kVo_isGoodOf 5 = .ok (.iload_n 1, 1) := by decide +kernel
theorem dVo_isGoodOf_6 : decode kVo_isGoodOf 6 = .ok (.if_icmp .ne 15, 3) := by decide +kernel
theorem dVo_isGoodOf_9 : decode kVo_isGoodOf 9 = .ok (.aload_n 0, 1) := by decide +kernel
theorem dVo_isGoodOf_10 : decode kVo_isGoodOf 10 = .ok (.invokevirtual 49, 3) := by decide +kernel
theorem dVo_isGoodOf_13 : decode kVo_isGoodOf 13 = .ok (.iconst 1, 1) := by decide +kernel
theorem dVo_isGoodOf_14 : decode kVo_isGoodOf 14 = .ok (.if_icmp .ne 7, 3) := by decide +kernel
theorem dVo_isGoodOf_17 : decode kVo_isGoodOf 17 = .ok (.iconst 1, 1) := by decide +kernel
theorem dVo_isGoodOf_18 : decode kVo_isGoodOf 18 = .ok (.goto 4, 3) := by decide +kernel
theorem dVo_isGoodOf_21 : decode kVo_isGoodOf 21 = .ok (.iconst 0, 1) := by decide +kernel
theorem dVo_isGoodOf_22 : decode kVo_isGoodOf 22 = .ok (.ireturn, 1) := by decide +kernel
theorem dVo_isAsWideAndManyAs_0 : decode kVo_isAsWideAndManyAs 0 = .ok (.aload_n 0, 1) := by decide +kernel
theorem dVo_isAsWideAndManyAs_1 : decode kVo_isAsWideAndManyAs 1 = .ok (.getfield 23, 3) := by decide +kernel
theorem dVo_isAsWideAndManyAs_4 : decode kVo_isAsWideAndManyAs 4 = .ok (.aload_n 1, 1) := by decide +kernel
theorem dVo_isAsWideAndManyAs_5 : decode kVo_isAsWideAndManyAs 5 = .ok (.getfield 23, 3) := by decide +kernel
theorem dVo_isAsWideAndManyAs_8 : decode kVo_isAsWideAndManyAs 8 = .ok (.if_icmp .ne 33, 3) := by decide +kernel
theorem dVo_isAsWideAndManyAs_11 : decode kVo_isAsWideAndManyAs 11 = .ok (.aload_n 0, 1) := by decide +kernel
theorem dVo_isAsWideAndManyAs_12 : decode kVo_isAsWideAndManyAs 12 = .ok (.iconst 4, 1) := by decide +kernel
theorem dVo_isAsWideAndManyAs_13 : decode kVo_isAsWideAndManyAs 13 = .ok (.invokevirtual 19, 3) := by decide +kernel
theorem dVo_isAsWideAndManyAs_16 : decode kVo_isAsWideAndManyAs 16 = .ok (.aload_n 1, 1) := by decide +kernel
theorem dVo_isAsWideAndManyAs_17 : decode kVo_isAsWideAndManyAs 17 = .ok (.iconst 4, 1) := by decide +kernel
theorem dVo_isAsWideAndManyAs_18 : decode kVo_isAsWideAndManyAs 18 = .ok (.invokevirtual 19, 3) := by decide +kernel
theorem dVo_isAsWideAndManyAs_21 : decode kVo_isAsWideAndManyAs 21 = .ok (.if_icmp .ne 20, 3) := by decide +kernel
theorem dVo_isAsWideAndManyAs_24 : decode kVo_isAsWideAndManyAs 24 = .ok (.aload_n 0, 1) := by decide +kernel
theorem dVo_isAsWideAndManyAs_25 : decode kVo_isAsWideAndManyAs 25 = .ok (.iconst 5, 1) := by decide +kernel
theorem dVo_isAsWideAndManyAs_26 : decode kVo_isAsWideAndManyAs 26 = .ok (.invokevirtual 19, 3) := by decide +kernel
theorem dVo_isAsWideAndManyAs_29 : decode kVo_isAsWideAndManyAs 29 = .ok (.aload_n 1, 1) := by decide +kernel
theorem dVo_isAsWideAndManyAs_30 : decode kVo_isAsWideAndManyAs 30 = .ok (.iconst 5, 1) := by decide +kernel
theorem dVo_isAsWideAndManyAs_31 : decode kVo_isAsWideAndManyAs 31 = .ok (.invokevirtual 19, 3) := by decide +kernel
theorem dVo_isAsWideAndManyAs_34 : decode kVo_isAsWideAndManyAs 34 = .ok (.if_icmp .ne 7, 3) := by decide +kernel
theorem dVo_isAsWideAndManyAs_37 : decode kVo_isAsWideAndManyAs 37 = .ok (.iconst 1, 1) := by decide +kernel
theorem dVo_isAsWideAndManyAs_38 : decode kVo_isAsWideAndManyAs 38 = .ok (.goto 4, 3) := by decide +kernel
theorem dVo_isAsWideAndManyAs_41 : decode kVo_isAsWideAndManyAs 41 = .ok (.iconst 0, 1) := by decide +kernel
theorem dVo_isAsWideAndManyAs_42 : decode kVo_isAsWideAndManyAs 42 = .ok (.ireturn, 1) := by decide +kernel
end
section
theorem dPc_init_0 : decode kPc_init 0 = .ok (.aload_n 0, 1) := by decide +kernel
theorem dPc_init_1 : decode kPc_init 1 = .ok (.invokespecial 3, 3) := by decide +kernel
theorem dPc_init_4 : decode kPc_init 4 = .ok (.aload_n 0, 1) := by decide +kernel
theorem dPc_init_5 : decode kPc_init 5 = .ok (.bipush 60, 2) := by decide +kernel
theorem dPc_init_7 : decode kPc_init 7 = .ok (.newarray .int, 2) := by decide +kernel
theorem dPc_init_9 : decode kPc_init 9 = .ok (.putfield 9, 3) := by decide +kernel
theorem dPc_init_12 : decode kPc_init 12 = .ok (.aload_n 0, 1) := by decide +kernel
theorem dPc_init_13 : decode kPc_init 13 = .ok (.bipush 60, 2) := by decide +kernel
theorem dPc_init_15 : decode kPc_init 15 = .ok (.newarray .int, 2) := by decide +kernel
theorem dPc_init_17 : decode kPc_init 17 = .ok (.putfield 15, 3) := by decide +kernel
theorem dPc_init_20 : decode kPc_init 20 = .ok (.aload_n 0, 1) := by decide +kernel
theorem dPc_init_21 : decode kPc_init 21 = .ok (.iconst 0, 1) := by decide +kernel
theorem dPc_init_22 : decode kPc_init 22 = .ok (.iload_n 1, 1) := by decide +kernel
theorem dPc_init_23 : decode kPc_init 23 = .ok (.invokestatic 18, 3) := by decide +kernel
theorem dPc_init_26 : decode kPc_init 26 = .ok (.newarray .int, 2) := by decide +kernel
theorem dPc_init_28 : decode kPc_init 28 = .ok (.putfield 24, 3) := by decide +kernel
theorem dPc_init_31 : decode kPc_init 31 = .ok (.return_, 1) := by decide +kernel
theorem dPc_blank_0 : decode kPc_blank 0 = .ok (.aload_n 0, 1) := by decide +kernel
theorem dPc_blank_1 : decode kPc_blank 1 = .ok (.getfield 24, 3) := by decide +kernel
theorem dPc_blank_4 : decode kPc_blank 4 = .ok (.iconst 0, 1) := by decide +kernel
theorem dPc_blank_5 : decode kPc_blank 5 = .ok (.invokestatic 27, 3) := by decide +kernel
theorem dPc_blank_8 : decode kPc_blank 8 = .ok (.aload_n 0, 1) := by decide +kernel
theorem dPc_blank_9 : decode kPc_blank 9 = .ok (.getfield 9, 3) := by decide +kernel
theorem dPc_blank_12 : decode kPc_blank 12 = .ok (.iconst 0, 1) := by decide +kernel
theorem dPc_blank_13 : decode kPc_blank 13 = .ok (.invokestatic 27, 3) := by decide +kernel
theorem dPc_blank_16 : decode kPc_blank 16 = .ok (.aload_n 0, 1) := by decide +kernel
theorem dPc_blank_17 : decode kPc_blank 17 = .ok (.getfield 15, 3) := by decide +kernel
theorem dPc_blank_20 : decode kPc_blank 20 = .ok (.iconst 0, 1) := by decide +kernel
theorem dPc_blank_21 : decode kPc_blank 21 = .ok (.invokestatic 27, 3) := by decide +kernel
theorem dPc_blank_24 : decode kPc_blank 24 = .ok (.return_, 1) := by decide +kernel
theorem dPc_room_0 : decode kPc_room 0 = .ok (.aload_n 0, 1) := by decide +kernel
theorem dPc_room_1 : decode kPc_room 1 = .ok (.getfield 33, 3) := by decide +kernel
theorem dPc_room_4 : decode kPc_room 4 = .ok (.aload_n 0, 1) := by decide +kernel
theorem dPc_room_5 : decode kPc_room 5 = .ok (.getfield 37, 3) := by decide +kernel
theorem dPc_room_8 : decode kPc_room 8 = .ok (.imul, 1) := by decide +kernel
theorem dPc_room_9 : decode kPc_room 9 = .ok (.ireturn, 1) := by decide +kernel
theorem dPc_byteAt_0 : decode kPc_byteAt 0 = .ok (.iload_n 1, 1) := by decide +kernel
theorem dPc_byteAt_1 : decode kPc_byteAt 1 = .ok (.ifCond .lt 12, 3) := by decide +kernel
theorem dPc_byteAt_4 : decode kPc_byteAt 4 = .ok (.iload_n 1, 1) := by decide +kernel
theorem dPc_byteAt_5 : decode kPc_byteAt 5 = .ok (.aload_n 0, 1) := by decide +kernel
theorem dPc_byteAt_6 : decode kPc_byteAt 6 = .ok (.getfield 24, 3) := by decide +kernel
theorem dPc_byteAt_9 : decode kPc_byteAt 9 = .ok (.arraylength, 1) := by decide +kernel
theorem dPc_byteAt_10 : decode kPc_byteAt 10 = .ok (.if_icmp .lt 7, 3) := by decide +kernel
theorem dPc_byteAt_13 : decode kPc_byteAt 13 = .ok (.iconst 0, 1) := by decide +kernel
theorem dPc_byteAt_14 : decode kPc_byteAt 14 = .ok (.goto 9, 3) := by decide +kernel
theorem dPc_byteAt_17 : decode kPc_byteAt 17 = .ok (.aload_n 0, 1) := by decide +kernel
theorem dPc_byteAt_18 : decode kPc_byteAt 18 = .ok (.getfield 24, 3) := by decide +kernel
theorem dPc_byteAt_21 : decode kPc_byteAt 21 = .ok (.iload_n 1, 1) := by decide +kernel
theorem dPc_byteAt_22 : decode kPc_byteAt 22 = .ok (.iaload, 1) := by decide +kernel
theorem dPc_byteAt_23 : decode kPc_byteAt 23 = .ok (.ireturn, 1) := by decide +kernel
theorem dPc_put_0 : decode kPc_put 0 = .ok (.iload_n 1, 1) := by decide +kernel
theorem dPc_put_1 : decode kPc_put 1 = .ok (.ifCond .lt 19, 3) := by decide +kernel
theorem dPc_put_4 : decode kPc_put 4 = .ok (.iload_n 1, 1) := by decide +kernel
theorem dPc_put_5 : decode kPc_put 5 = .ok (.aload_n 0, 1) := by decide +kernel
theorem dPc_put_6 : decode kPc_put 6 = .ok (.getfield 24, 3) := by decide +kernel
theorem dPc_put_9 : decode kPc_put 9 = .ok (.arraylength, 1) := by decide +kernel
theorem dPc_put_10 : decode kPc_put 10 = .ok (.if_icmp .ge 10, 3) := by decide +kernel
theorem dPc_put_13 : decode kPc_put 13 = .ok (.aload_n 0, 1) := by decide +kernel
theorem dPc_put_14 : decode kPc_put 14 = .ok (.getfield 24, 3) := by decide +kernel
theorem dPc_put_17 : decode kPc_put 17 = .ok (.iload_n 1, 1) := by decide +kernel
theorem dPc_put_18 : decode kPc_put 18 = .ok (.iload_n 2, 1) := by decide +kernel
theorem dPc_put_19 : decode kPc_put 19 = .ok (.iastore, 1) := by decide +kernel
theorem dPc_put_20 : decode kPc_put 20 = .ok (.return_, 1) := by decide +kernel
theorem dPc_sum_0 : decode kPc_sum 0 = .ok (.aload_n 0, 1) := by decide +kernel
theorem dPc_sum_1 : decode kPc_sum 1 = .ok (.getfield 24, 3) := by decide +kernel
theorem dPc_sum_4 : decode kPc_sum 4 = .ok (.iload_n 1, 1) := by decide +kernel
theorem dPc_sum_5 : decode kPc_sum 5 = .ok (.iload_n 2, 1) := by decide +kernel
theorem dPc_sum_6 : decode kPc_sum 6 = .ok (.invokestatic 40, 3) := by decide +kernel
theorem dPc_sum_9 : decode kPc_sum 9 = .ok (.ireturn, 1) := by decide +kernel
theorem dPc_part_0 : decode kPc_part 0 = .ok (.iload_n 1, 1) := by decide +kernel
theorem dPc_part_1 : decode kPc_part 1 = .ok (.ifCond .lt 9, 3) := by decide +kernel
theorem dPc_part_4 : decode kPc_part 4 = .ok (.iload_n 1, 1) := by decide +kernel
theorem dPc_part_5 : decode kPc_part 5 = .ok (.bipush 60, 2) := by decide +kernel
theorem dPc_part_7 : decode kPc_part 7 = .ok (.if_icmp .lt 5, 3) := by decide +kernel
theorem dPc_part_10 : decode kPc_part 10 = .ok (.iconst 0, 1) := by decide +kernel
theorem dPc_part_11 : decode kPc_part 11 = .ok (.ireturn, 1) := by decide +kernel
theorem dPc_part_12 : decode kPc_part 12 = .ok (.iload_n 2, 1) := by decide +kernel
theorem dPc_part_13 : decode kPc_part 13 = .ok (.bipush 6, 2) := by decide +kernel
theorem dPc_part_15 : decode kPc_part 15 = .ok (.if_icmp .ne 10, 3) := by decide +kernel
theorem dPc_part_18 : decode kPc_part 18 = .ok (.aload_n 0, 1) := by decide +kernel
theorem dPc_part_19 : decode kPc_part 19 = .ok (.getfield 9, 3) := by decide +kernel
theorem dPc_part_22 : decode kPc_part 22 = .ok (.iload_n 1, 1) := by decide +kernel
theorem dPc_part_23 : decode kPc_part 23 = .ok (.iaload, 1) := by decide +kernel
theorem dPc_part_24 : decode kPc_part 24 = .ok (.ireturn, 1) := by decide +kernel
theorem dPc_part_25 : decode kPc_part 25 = .ok (.iload_n 2, 1) := by decide +kernel
theorem dPc_part_26 : decode kPc_part 26 = .ok (.bipush 7, 2) := by decide +kernel
theorem dPc_part_28 : decode kPc_part 28 = .ok (.if_icmp .ne 10, 3) := by decide +kernel
theorem dPc_part_31 : decode kPc_part 31 = .ok (.aload_n 0, 1) := by decide +kernel
theorem dPc_part_32 : decode kPc_part 32 = .ok (.getfield 15, 3) := by decide +kernel
theorem dPc_part_35 : decode kPc_part 35 = .ok (.iload_n 1, 1) := by decide +kernel
theorem dPc_part_36 : decode kPc_part 36 = .ok (.iaload, 1) := by decide +kernel
theorem dPc_part_37 : decode kPc_part 37 = .ok (.ireturn, 1) := by decide +kernel
theorem dPc_part_38 : decode kPc_part 38 = .ok (.iload_n 2, 1) := by decide +kernel
theorem dPc_part_39 : decode kPc_part 39 = .ok (.bipush 12, 2) := by decide +kernel
theorem dPc_part_41 : decode kPc_part 41 = .ok (.if_icmp .ge 7, 3) := by decide +kernel
theorem dPc_part_44 : decode kPc_part 44 = .ok (.iconst 0, 1) := by decide +kernel
theorem dPc_part_45 : decode kPc_part 45 = .ok (.goto 18, 3) := by decide +kernel
theorem dPc_part_48 : decode kPc_part 48 = .ok (.aload_n 0, 1) := by decide +kernel
theorem dPc_part_49 : decode kPc_part 49 = .ok (.iload_n 1, 1) := by decide +kernel
theorem dPc_part_50 : decode kPc_part 50 = .ok (.aload_n 0, 1) := by decide +kernel
theorem dPc_part_51 : decode kPc_part 51 = .ok (.getfield 37, 3) := by decide +kernel
theorem dPc_part_54 : decode kPc_part 54 = .ok (.imul, 1) := by decide +kernel
theorem dPc_part_55 : decode kPc_part 55 = .ok (.iload_n 2, 1) := by decide +kernel
theorem dPc_part_56 : decode kPc_part 56 = .ok (.iadd, 1) := by decide +kernel
theorem dPc_part_57 : decode kPc_part 57 = .ok (.bipush 12, 2) := by decide +kernel
theorem dPc_part_59 : decode kPc_part 59 = .ok (.isub, 1) := by decide +kernel
theorem dPc_part_60 : decode kPc_part 60 = .ok (.invokevirtual 46, 3) := by decide +kernel
theorem dPc_part_63 : decode kPc_part 63 = .ok (.ireturn, 1) := by decide +kernel
theorem dPc_putPart_0 : decode kPc_putPart 0 = .ok (.iload_n 1, 1) := by decide +kernel
theorem dPc_putPart_1 : decode kPc_putPart 1 = .ok (.ifCond .lt 9, 3) := by decide +kernel
theorem dPc_putPart_4 : decode kPc_putPart 4 = .ok (.iload_n 1, 1) := by decide +kernel
theorem dPc_putPart_5 : decode kPc_putPart 5 = .ok (.bipush 60, 2) := by decide +kernel
theorem dPc_putPart_7 : decode kPc_putPart 7 = .ok (.if_icmp .lt 4, 3) := by decide +kernel
theorem dPc_putPart_10 : decode kPc_putPart 10 = .ok (.return_, 1) := by decide +kernel
theorem dPc_putPart_11 : decode kPc_putPart 11 = .ok (.iload_n 2, 1) := by decide +kernel
theorem dPc_putPart_12 : decode kPc_putPart 12 = .ok (.bipush 6, 2) := by decide +kernel
theorem dPc_putPart_14 : decode kPc_putPart 14 = .ok (.if_icmp .ne 13, 3) := by decide +kernel
theorem dPc_putPart_17 : decode kPc_putPart 17 = .ok (.aload_n 0, 1) := by decide +kernel
theorem dPc_putPart_18 : decode kPc_putPart 18 = .ok (.getfield 9, 3) := by decide +kernel
theorem dPc_putPart_21 : decode kPc_putPart 21 = .ok (.iload_n 1, 1) := by decide +kernel
theorem dPc_putPart_22 : decode kPc_putPart 22 = .ok (.iload_n 3, 1) := by decide +kernel
theorem dPc_putPart_23 : decode kPc_putPart 23 = .ok (.iastore, 1) := by decide +kernel
theorem dPc_putPart_24 : decode kPc_putPart 24 = .ok (.goto 41, 3) := by decide +kernel
theorem dPc_putPart_27 : decode kPc_putPart 27 = .ok (.iload_n 2, 1) := by decide +kernel
theorem dPc_putPart_28 : decode kPc_putPart 28 = .ok (.bipush 7, 2) := by decide +kernel
theorem dPc_putPart_30 : decode kPc_putPart 30 = .ok (.if_icmp .ne 13, 3) := by decide +kernel
theorem dPc_putPart_33 : decode kPc_putPart 33 = .ok (.aload_n 0, 1) := by decide +kernel
theorem dPc_putPart_34 : decode kPc_putPart 34 = .ok (.getfield 15, 3) := by decide +kernel
theorem dPc_putPart_37 : decode kPc_putPart 37 = .ok (.iload_n 1, 1) := by decide +kernel
theorem dPc_putPart_38 : decode kPc_putPart 38 = .ok (.iload_n 3, 1) := by decide +kernel
theorem dPc_putPart_39 : decode kPc_putPart 39 = .ok (.iastore, 1) := by decide +kernel
theorem dPc_putPart_40 : decode kPc_putPart 40 = .ok (.goto 25, 3) := by decide +kernel
theorem dPc_putPart_43 : decode kPc_putPart 43 = .ok (.iload_n 2, 1) := by decide +kernel
theorem dPc_putPart_44 : decode kPc_putPart 44 = .ok (.bipush 12, 2) := by decide +kernel
theorem dPc_putPart_46 : decode kPc_putPart 46 = .ok (.if_icmp .lt 19, 3) := by decide +kernel
theorem dPc_putPart_49 : decode kPc_putPart 49 = .ok (.aload_n 0, 1) := by decide +kernel
theorem dPc_putPart_50 : decode kPc_putPart 50 = .ok (.iload_n 1, 1) := by decide +kernel
theorem dPc_putPart_51 : decode kPc_putPart 51 = .ok (.aload_n 0, 1) := by decide +kernel
theorem dPc_putPart_52 : decode kPc_putPart 52 = .ok (.getfield 37, 3) := by decide +kernel
theorem dPc_putPart_55 : decode kPc_putPart 55 = .ok (.imul, 1) := by decide +kernel
theorem dPc_putPart_56 : decode kPc_putPart 56 = .ok (.iload_n 2, 1) := by decide +kernel
theorem dPc_putPart_57 : decode kPc_putPart 57 = .ok (.iadd, 1) := by decide +kernel
theorem dPc_putPart_58 : decode kPc_putPart 58 = .ok (.bipush 12, 2) := by decide +kernel
theorem dPc_putPart_60 : decode kPc_putPart 60 = .ok (.isub, 1) := by decide +kernel
theorem dPc_putPart_61 : decode kPc_putPart 61 = .ok (.iload_n 3, 1) := by decide +kernel
theorem dPc_putPart_62 : decode kPc_putPart 62 = .ok (.invokevirtual 50, 3) := by decide +kernel
theorem dPc_putPart_65 : decode kPc_putPart 65 = .ok (.return_, 1) := by decide +kernel
theorem dPc_mixed_0 : decode kPc_mixed 0 = .ok (.iconst 0, 1) := by decide +kernel
theorem dPc_mixed_1 : decode kPc_mixed 1 = .ok (.istore_n 3, 1) := by decide +kernel
theorem dPc_mixed_2 : decode kPc_mixed 2 = .ok (.aload_n 0, 1) := by decide +kernel
theorem dPc_mixed_3 : decode kPc_mixed 3 = .ok (.getfield 33, 3) := by decide +kernel
theorem dPc_mixed_6 : decode kPc_mixed 6 = .ok (.iconst 1, 1) := by decide +kernel
theorem dPc_mixed_7 : decode kPc_mixed 7 = .ok (.isub, 1) := by decide +kernel
theorem dPc_mixed_8 : decode kPc_mixed 8 = .ok (.istore 4, 2) := by decide +kernel
theorem dPc_mixed_10 : decode kPc_mixed 10 = .ok (.iload 4, 2) := by decide +kernel
theorem dPc_mixed_12 : decode kPc_mixed 12 = .ok (.ifCond .lt 23, 3) := by decide +kernel
theorem dPc_mixed_15 : decode kPc_mixed 15 = .ok (.iload_n 3, 1) := by decide +kernel
theorem dPc_mixed_16 : decode kPc_mixed 16 = .ok (.iload_n 1, 1) := by decide +kernel
theorem dPc_mixed_17 : decode kPc_mixed 17 = .ok (.invokestatic 54, 3) := by decide +kernel
theorem dPc_mixed_20 : decode kPc_mixed 20 = .ok (.aload_n 0, 1) := by decide +kernel
theorem dPc_mixed_21 : decode kPc_mixed 21 = .ok (.iload 4, 2) := by decide +kernel
theorem dPc_mixed_23 : decode kPc_mixed 23 = .ok (.iload_n 2, 1) := by decide +kernel
theorem dPc_mixed_24 : decode kPc_mixed 24 = .ok (.invokevirtual 57, 3) := by decide +kernel
theorem dPc_mixed_27 : decode kPc_mixed 27 = .ok (.ixor, 1) := by decide +kernel
theorem dPc_mixed_28 : decode kPc_mixed 28 = .ok (.istore_n 3, 1) := by decide +kernel
theorem dPc_mixed_29 : decode kPc_mixed 29 = .ok (.iinc 4 (-1), 3) := by decide +kernel
theorem dPc_mixed_32 : decode kPc_mixed 32 = .ok (.goto (-22), 3) := by decide +kernel
theorem dPc_mixed_35 : decode kPc_mixed 35 = .ok (.iload_n 3, 1) := by decide +kernel
theorem dPc_mixed_36 : decode kPc_mixed 36 = .ok (.ireturn, 1) := by decide +kernel
theorem dPc_isKnown_0 : decode kPc_isKnown 0 = .ok (.iload_n 1, 1) := by decide +kernel
theorem dPc_isKnown_1 : decode kPc_isKnown 1 = .ok (.ifCond .lt 11, 3) := by decide +kernel
theorem dPc_isKnown_4 : decode kPc_isKnown 4 = .ok (.iload_n 1, 1) := by decide +kernel
theorem dPc_isKnown_5 : decode kPc_isKnown 5 = .ok (.aload_n 0, 1) := by decide +kernel
theorem dPc_isKnown_6 : decode kPc_isKnown 6 = .ok (.invokevirtual 60, 3) := by decide +kernel
theorem dPc_isKnown_9 : decode kPc_isKnown 9 = .ok (.if_icmp .lt 5, 3) := by decide +kernel
theorem dPc_isKnown_12 : decode kPc_isKnown 12 = .ok (.iconst 0, 1) := by decide +kernel
theorem dPc_isKnown_13 : decode kPc_isKnown 13 = .ok (.ireturn, 1) := by decide +kernel
theorem dPc_isKnown_14 : decode kPc_isKnown 14 = .ok (.iload_n 1, 1) := by decide +kernel
theorem dPc_isKnown_15 : decode kPc_isKnown 15 = .ok (.aload_n 0, 1) := by decide +kernel
theorem dPc_isKnown_16 : decode kPc_isKnown 16 = .ok (.getfield 37, 3) := by decide +kernel
theorem dPc_isKnown_19 : decode kPc_isKnown 19 = .ok (.invokestatic 64, 3) := by decide +kernel
theorem dPc_isKnown_22 : decode kPc_isKnown 22 = .ok (.istore_n 2, 1) := by decide +kernel
theorem dPc_isKnown_23 : decode kPc_isKnown 23 = .ok (.iload_n 1, 1) := by decide +kernel
theorem dPc_isKnown_24 : decode kPc_isKnown 24 = .ok (.iload_n 2, 1) := by decide +kernel
theorem dPc_isKnown_25 : decode kPc_isKnown 25 = .ok (.aload_n 0, 1) := by decide +kernel
theorem dPc_isKnown_26 : decode kPc_isKnown 26 = .ok (.getfield 37, 3) := by decide +kernel
theorem dPc_isKnown_29 : decode kPc_isKnown 29 = .ok (.imul, 1) := by decide +kernel
theorem dPc_isKnown_30 : decode kPc_isKnown 30 = .ok (.isub, 1) := by decide +kernel
theorem dPc_isKnown_31 : decode kPc_isKnown 31 = .ok (.aload_n 0, 1) := by decide +kernel
theorem dPc_isKnown_32 : decode kPc_isKnown 32 = .ok (.iload_n 2, 1) := by decide +kernel
theorem dPc_isKnown_33 : decode kPc_isKnown 33 = .ok (.bipush 6, 2) := by decide +kernel
theorem dPc_isKnown_35 : decode kPc_isKnown 35 = .ok (.invokevirtual 57, 3) := by decide +kernel
theorem dPc_isKnown_38 : decode kPc_isKnown 38 = .ok (.if_icmp .ge 7, 3) := by decide +kernel
theorem dPc_isKnown_41 : decode kPc_isKnown 41 = .ok (.iconst 1, 1) := by decide +kernel
theorem dPc_isKnown_42 : decode kPc_isKnown 42 = .ok (.goto 4, 3) := by decide +kernel
theorem dPc_isKnown_45 : decode kPc_isKnown 45 = .ok (.iconst 0, 1) := by decide +kernel
theorem dPc_isKnown_46 : decode kPc_isKnown 46 = .ok (.ireturn, 1) := by decide +kernel
theorem dPc_areKnown_0 : decode kPc_areKnown 0 = .ok (.iload_n 1, 1) := by decide +kernel
theorem dPc_areKnown_1 : decode kPc_areKnown 1 = .ok (.istore_n 3, 1) := by decide +kernel
theorem dPc_areKnown_2 : decode kPc_areKnown 2 = .ok (.iload_n 3, 1) := by decide +kernel
theorem dPc_areKnown_3 : decode kPc_areKnown 3 = .ok (.iload_n 2, 1) := by decide +kernel
theorem dPc_areKnown_4 : decode kPc_areKnown 4 = .ok (.if_icmp .ge 19, 3) := by decide +kernel
theorem dPc_areKnown_7 : decode kPc_areKnown 7 = .ok (.aload_n 0, 1) := by decide +kernel
theorem dPc_areKnown_8 : decode kPc_areKnown 8 = .ok (.iload_n 3, 1) := by decide +kernel
theorem dPc_areKnown_9 : decode kPc_areKnown 9 = .ok (.invokevirtual 67, 3) := by decide +kernel
theorem dPc_areKnown_12 : decode kPc_areKnown 12 = .ok (.ifCond .ne 5, 3) := by decide +kernel
theorem dPc_areKnown_15 : decode kPc_areKnown 15 = .ok (.iconst 0, 1) := by decide +kernel
theorem dPc_areKnown_16 : decode kPc_areKnown 16 = .ok (.ireturn, 1) := by decide +kernel
theorem dPc_areKnown_17 : decode kPc_areKnown 17 = .ok (.iinc 3 1, 3) := by decide +kernel
theorem dPc_areKnown_20 : decode kPc_areKnown 20 = .ok (.goto (-18), 3) := by decide +kernel
theorem dPc_areKnown_23 : decode kPc_areKnown 23 = .ok (.iconst 1, 1) := by decide +kernel
theorem dPc_areKnown_24 : decode kPc_areKnown 24 = .ok (.ireturn, 1) := by decide +kernel
theorem dPc_nextKnown_0 : decode kPc_nextKnown 0 = .ok (.iload_n 1, 1) := by decide +kernel
theorem dPc_nextKnown_1 : decode kPc_nextKnown 1 = .ok (.istore_n 2, 1) := by decide +kernel
theorem dPc_nextKnown_2 : decode kPc_nextKnown 2 = .ok (.iconst 0, 1) := by decide +kernel
theorem dPc_nextKnown_3 : decode kPc_nextKnown 3 = .ok (.istore_n 3, 1) := by decide +kernel
theorem dPc_nextKnown_4 : decode kPc_nextKnown 4 = .ok (.iload_n 3, 1) := by decide +kernel
theorem dPc_nextKnown_5 : decode kPc_nextKnown 5 = .ok (.bipush 60, 2) := by decide +kernel
theorem dPc_nextKnown_7 : decode kPc_nextKnown 7 = .ok (.if_icmp .gt 29, 3) := by decide +kernel
theorem dPc_nextKnown_10 : decode kPc_nextKnown 10 = .ok (.iload_n 2, 1) := by decide +kernel
theorem dPc_nextKnown_11 : decode kPc_nextKnown 11 = .ok (.ifCond .lt 25, 3) := by decide +kernel
theorem dPc_nextKnown_14 : decode kPc_nextKnown 14 = .ok (.aload_n 0, 1) := by decide +kernel
theorem dPc_nextKnown_15 : decode kPc_nextKnown 15 = .ok (.iload_n 2, 1) := by decide +kernel
theorem dPc_nextKnown_16 : decode kPc_nextKnown 16 = .ok (.invokevirtual 67, 3) := by decide +kernel
theorem dPc_nextKnown_19 : decode kPc_nextKnown 19 = .ok (.ifCond .eq 5, 3) := by decide +kernel
theorem dPc_nextKnown_22 : decode kPc_nextKnown 22 = .ok (.iload_n 2, 1) := by decide +kernel
theorem dPc_nextKnown_23 : decode kPc_nextKnown 23 = .ok (.ireturn, 1) := by decide +kernel
theorem dPc_nextKnown_24 : decode kPc_nextKnown 24 = .ok (.aload_n 0, 1) := by decide +kernel
theorem dPc_nextKnown_25 : decode kPc_nextKnown 25 = .ok (.iload_n 2, 1) := by decide +kernel
theorem dPc_nextKnown_26 : decode kPc_nextKnown 26 = .ok (.invokevirtual 71, 3) := by decide +kernel
theorem dPc_nextKnown_29 : decode kPc_nextKnown 29 = .ok (.istore_n 2, 1) := by decide +kernel
theorem dPc_nextKnown_30 : decode kPc_nextKnown 30 = .ok (.iinc 3 1, 3) := by decide +kernel
theorem dPc_nextKnown_33 : decode kPc_nextKnown 33 = .ok (.goto (-29), 3) := by decide +kernel
theorem dPc_nextKnown_36 : decode kPc_nextKnown 36 = .ok (.bipush (-2), 2) := by decide +kernel
theorem dPc_nextKnown_38 : decode kPc_nextKnown 38 = .ok (.ireturn, 1) := by decide +kernel
theorem dPc_startBehind_0 : decode kPc_startBehind 0 = .ok (.iload_n 1, 1) := by decide +kernel
theorem dPc_startBehind_1 : decode kPc_startBehind 1 = .ok (.aload_n 0, 1) := by decide +kernel
theorem dPc_startBehind_2 : decode kPc_startBehind 2 = .ok (.getfield 37, 3) := by decide +kernel
theorem dPc_startBehind_5 : decode kPc_startBehind 5 = .ok (.invokestatic 64, 3) := by decide +kernel
theorem dPc_startBehind_8 : decode kPc_startBehind 8 = .ok (.iconst 1, 1) := by decide +kernel
theorem dPc_startBehind_9 : decode kPc_startBehind 9 = .ok (.iadd, 1) := by decide +kernel
theorem dPc_startBehind_10 : decode kPc_startBehind 10 = .ok (.istore_n 2, 1) := by decide +kernel
theorem dPc_startBehind_11 : decode kPc_startBehind 11 = .ok (.iload_n 2, 1) := by decide +kernel
theorem dPc_startBehind_12 : decode kPc_startBehind 12 = .ok (.aload_n 0, 1) := by decide +kernel
theorem dPc_startBehind_13 : decode kPc_startBehind 13 = .ok (.getfield 33, 3) := by decide +kernel
theorem dPc_startBehind_16 : decode kPc_startBehind 16 = .ok (.if_icmp .ge 37, 3) := by decide +kernel
theorem dPc_startBehind_19 : decode kPc_startBehind 19 = .ok (.aload_n 0, 1) := by decide +kernel
theorem dPc_startBehind_20 : decode kPc_startBehind 20 = .ok (.iload_n 2, 1) := by decide +kernel
theorem dPc_startBehind_21 : decode kPc_startBehind 21 = .ok (.bipush 7, 2) := by decide +kernel
theorem dPc_startBehind_23 : decode kPc_startBehind 23 = .ok (.invokevirtual 57, 3) := by decide +kernel
theorem dPc_startBehind_26 : decode kPc_startBehind 26 = .ok (.istore_n 3, 1) := by decide +kernel
theorem dPc_startBehind_27 : decode kPc_startBehind 27 = .ok (.iload_n 3, 1) := by decide +kernel
theorem dPc_startBehind_28 : decode kPc_startBehind 28 = .ok (.aload_n 0, 1) := by decide +kernel
theorem dPc_startBehind_29 : decode kPc_startBehind 29 = .ok (.iload_n 2, 1) := by decide +kernel
theorem dPc_startBehind_30 : decode kPc_startBehind 30 = .ok (.bipush 6, 2) := by decide +kernel
theorem dPc_startBehind_32 : decode kPc_startBehind 32 = .ok (.invokevirtual 57, 3) := by decide +kernel
theorem dPc_startBehind_35 : decode kPc_startBehind 35 = .ok (.if_icmp .ge 12, 3) := by decide +kernel
theorem dPc_startBehind_38 : decode kPc_startBehind 38 = .ok (.iload_n 2, 1) := by decide +kernel
theorem dPc_startBehind_39 : decode kPc_startBehind 39 = .ok (.aload_n 0, 1) := by decide +kernel
theorem dPc_startBehind_40 : decode kPc_startBehind 40 = .ok (.getfield 37, 3) := by decide +kernel
theorem dPc_startBehind_43 : decode kPc_startBehind 43 = .ok (.imul, 1) := by decide +kernel
theorem dPc_startBehind_44 : decode kPc_startBehind 44 = .ok (.iload_n 3, 1) := by decide +kernel
theorem dPc_startBehind_45 : decode kPc_startBehind 45 = .ok (.iadd, 1) := by decide +kernel
theorem dPc_startBehind_46 : decode kPc_startBehind 46 = .ok (.ireturn, 1) := by decide +kernel
theorem dPc_startBehind_47 : decode kPc_startBehind 47 = .ok (.iinc 2 1, 3) := by decide +kernel
theorem dPc_startBehind_50 : decode kPc_startBehind 50 = .ok (.goto (-39), 3) := by decide +kernel
theorem dPc_startBehind_53 : decode kPc_startBehind 53 = .ok (.bipush (-2), 2) := by decide +kernel
theorem dPc_startBehind_55 : decode kPc_startBehind 55 = .ok (.ireturn, 1) := by decide +kernel
theorem dSt_init_0 : decode kSt_init 0 = .ok (.aload_n 0, 1) := by decide +kernel
theorem dSt_init_1 : decode kSt_init 1 = .ok (.invokespecial 3, 3) := by decide +kernel
theorem dSt_init_4 : decode kSt_init 4 = .ok (.aload_n 0, 1) := by decide +kernel
theorem dSt_init_5 : decode kSt_init 5 = .ok (.new 9, 3) := by decide +kernel
theorem dSt_init_8 : decode kSt_init 8 = .ok (.dup, 1) := by decide +kernel
theorem dSt_init_9 : decode kSt_init 9 = .ok (.sipush 1340, 3) := by decide +kernel
theorem dSt_init_12 : decode kSt_init 12 = .ok (.invokespecial 13, 3) := by decide +kernel
theorem dSt_init_15 : decode kSt_init 15 = .ok (.putfield 16, 3) := by decide +kernel
theorem dSt_init_18 : decode kSt_init 18 = .ok (.aload_n 0, 1) := by decide +kernel
theorem dSt_init_19 : decode kSt_init 19 = .ok (.bipush 20, 2) := by decide +kernel
theorem dSt_init_21 : decode kSt_init 21 = .ok (.newarray .int, 2) := by decide +kernel
theorem dSt_init_23 : decode kSt_init 23 = .ok (.putfield 20, 3) := by decide +kernel
theorem dSt_init_26 : decode kSt_init 26 = .ok (.return_, 1) := by decide +kernel
theorem dSt_append_0 : decode kSt_append 0 = .ok (.aload_n 0, 1) := by decide +kernel
theorem dSt_append_1 : decode kSt_append 1 = .ok (.getfield 24, 3) := by decide +kernel
theorem dSt_append_4 : decode kSt_append 4 = .ok (.ifCond .lt 12, 3) := by decide +kernel
theorem dSt_append_7 : decode kSt_append 7 = .ok (.aload_n 0, 1) := by decide +kernel
theorem dSt_append_8 : decode kSt_append 8 = .ok (.getfield 24, 3) := by decide +kernel
theorem dSt_append_11 : decode kSt_append 11 = .ok (.bipush 20, 2) := by decide +kernel
theorem dSt_append_13 : decode kSt_append 13 = .ok (.if_icmp .lt 4, 3) := by decide +kernel
theorem dSt_append_16 : decode kSt_append 16 = .ok (.return_, 1) := by decide +kernel
theorem dSt_append_17 : decode kSt_append 17 = .ok (.aload_n 0, 1) := by decide +kernel
theorem dSt_append_18 : decode kSt_append 18 = .ok (.getfield 20, 3) := by decide +kernel
theorem dSt_append_21 : decode kSt_append 21 = .ok (.aload_n 0, 1) := by decide +kernel
theorem dSt_append_22 : decode kSt_append 22 = .ok (.getfield 24, 3) := by decide +kernel
theorem dSt_append_25 : decode kSt_append 25 = .ok (.aload_n 0, 1) := by decide +kernel
theorem dSt_append_26 : decode kSt_append 26 = .ok (.getfield 28, 3) := by decide +kernel
theorem dSt_append_29 : decode kSt_append 29 = .ok (.iastore, 1) := by decide +kernel
theorem dSt_append_30 : decode kSt_append 30 = .ok (.aload_n 0, 1) := by decide +kernel
theorem dSt_append_31 : decode kSt_append 31 = .ok (.dup, 1) := by decide +kernel
theorem dSt_append_32 : decode kSt_append 32 = .ok (.getfield 24, 3) := by decide +kernel
theorem dSt_append_35 : decode kSt_append 35 = .ok (.iconst 1, 1) := by decide +kernel
theorem dSt_append_36 : decode kSt_append 36 = .ok (.iadd, 1) := by decide +kernel
theorem dSt_append_37 : decode kSt_append 37 = .ok (.putfield 24, 3) := by decide +kernel
theorem dSt_append_40 : decode kSt_append 40 = .ok (.aload_n 1, 1) := by decide +kernel
theorem dSt_append_41 : decode kSt_append 41 = .ok (.invokevirtual 31, 3) := by decide +kernel
theorem dSt_append_44 : decode kSt_append 44 = .ok (.istore_n 2, 1) := by decide +kernel
theorem dSt_append_45 : decode kSt_append 45 = .ok (.aload_n 0, 1) := by decide +kernel
theorem dSt_append_46 : decode kSt_append 46 = .ok (.aload_n 1, 1) := by decide +kernel
theorem dSt_append_47 : decode kSt_append 47 = .ok (.getfield 37, 3) := by decide +kernel
theorem dSt_append_50 : decode kSt_append 50 = .ok (.invokevirtual 38, 3) := by decide +kernel
theorem dSt_append_53 : decode kSt_append 53 = .ok (.aload_n 0, 1) := by decide +kernel
theorem dSt_append_54 : decode kSt_append 54 = .ok (.iload_n 2, 1) := by decide +kernel
theorem dSt_append_55 : decode kSt_append 55 = .ok (.sipush 255, 3) := by decide +kernel
theorem dSt_append_58 : decode kSt_append 58 = .ok (.iand, 1) := by decide +kernel
theorem dSt_append_59 : decode kSt_append 59 = .ok (.invokevirtual 38, 3) := by decide +kernel
theorem dSt_append_62 : decode kSt_append 62 = .ok (.aload_n 0, 1) := by decide +kernel
theorem dSt_append_63 : decode kSt_append 63 = .ok (.iload_n 2, 1) := by decide +kernel
theorem dSt_append_64 : decode kSt_append 64 = .ok (.bipush 8, 2) := by decide +kernel
theorem dSt_append_66 : decode kSt_append 66 = .ok (.iushr, 1) := by decide +kernel
theorem dSt_append_67 : decode kSt_append 67 = .ok (.invokevirtual 38, 3) := by decide +kernel
theorem dSt_append_70 : decode kSt_append 70 = .ok (.iconst 0, 1) := by decide +kernel
theorem dSt_append_71 : decode kSt_append 71 = .ok (.istore_n 3, 1) := by decide +kernel
theorem dSt_append_72 : decode kSt_append 72 = .ok (.iload_n 3, 1) := by decide +kernel
theorem dSt_append_73 : decode kSt_append 73 = .ok (.aload_n 1, 1) := by decide +kernel
theorem dSt_append_74 : decode kSt_append 74 = .ok (.getfield 37, 3) := by decide +kernel
theorem dSt_append_77 : decode kSt_append 77 = .ok (.if_icmp .ge 18, 3) := by decide +kernel
theorem dSt_append_80 : decode kSt_append 80 = .ok (.aload_n 0, 1) := by decide +kernel
theorem dSt_append_81 : decode kSt_append 81 = .ok (.aload_n 1, 1) := by decide +kernel
theorem dSt_append_82 : decode kSt_append 82 = .ok (.iload_n 3, 1) := by decide +kernel
theorem dSt_append_83 : decode kSt_append 83 = .ok (.invokevirtual 41, 3) := by decide +kernel
theorem dSt_append_86 : decode kSt_append 86 = .ok (.invokevirtual 38, 3) := by decide +kernel
theorem dSt_append_89 : decode kSt_append 89 = .ok (.iinc 3 1, 3) := by decide +kernel
theorem dSt_append_92 : decode kSt_append 92 = .ok (.goto (-20), 3) := by decide +kernel
theorem dSt_append_95 : decode kSt_append 95 = .ok (.return_, 1) := by decide +kernel
theorem dSt_add_0 : decode kSt_add 0 = .ok (.aload_n 0, 1) := by decide +kernel
theorem dSt_add_1 : decode kSt_add 1 = .ok (.getfield 16, 3) := by decide +kernel
theorem dSt_add_4 : decode kSt_add 4 = .ok (.aload_n 0, 1) := by decide +kernel
theorem dSt_add_5 : decode kSt_add 5 = .ok (.getfield 28, 3) := by decide +kernel
theorem dSt_add_8 : decode kSt_add 8 = .ok (.iload_n 1, 1) := by decide +kernel
theorem dSt_add_9 : decode kSt_add 9 = .ok (.invokevirtual 45, 3) := by decide +kernel
theorem dSt_add_12 : decode kSt_add 12 = .ok (.aload_n 0, 1) := by decide +kernel
theorem dSt_add_13 : decode kSt_add 13 = .ok (.dup, 1) := by decide +kernel
theorem dSt_add_14 : decode kSt_add 14 = .ok (.getfield 28, 3) := by decide +kernel
theorem dSt_add_17 : decode kSt_add 17 = .ok (.iconst 1, 1) := by decide +kernel
theorem dSt_add_18 : decode kSt_add 18 = .ok (.iadd, 1) := by decide +kernel
theorem dSt_add_19 : decode kSt_add 19 = .ok (.putfield 28, 3) := by decide +kernel
theorem dSt_add_22 : decode kSt_add 22 = .ok (.return_, 1) := by decide +kernel
theorem dSt_forgetAll_0 : decode kSt_forgetAll 0 = .ok (.aload_n 0, 1) := by decide +kernel
theorem dSt_forgetAll_1 : decode kSt_forgetAll 1 = .ok (.getfield 16, 3) := by decide +kernel
theorem dSt_forgetAll_4 : decode kSt_forgetAll 4 = .ok (.invokevirtual 49, 3) := by decide +kernel
theorem dSt_forgetAll_7 : decode kSt_forgetAll 7 = .ok (.aload_n 0, 1) := by decide +kernel
theorem dSt_forgetAll_8 : decode kSt_forgetAll 8 = .ok (.iconst 0, 1) := by decide +kernel
theorem dSt_forgetAll_9 : decode kSt_forgetAll 9 = .ok (.putfield 24, 3) := by decide +kernel
theorem dSt_forgetAll_12 : decode kSt_forgetAll 12 = .ok (.aload_n 0, 1) := by decide +kernel
theorem dSt_forgetAll_13 : decode kSt_forgetAll 13 = .ok (.iconst 0, 1) := by decide +kernel
theorem dSt_forgetAll_14 : decode kSt_forgetAll 14 = .ok (.putfield 28, 3) := by decide +kernel
theorem dSt_forgetAll_17 : decode kSt_forgetAll 17 = .ok (.return_, 1) := by decide +kernel
theorem dSt_pieceCount_0 : decode kSt_pieceCount 0 = .ok (.iconst 1, 1) := by decide +kernel
theorem dSt_pieceCount_1 : decode kSt_pieceCount 1 = .ok (.aload_n 0, 1) := by decide +kernel
theorem dSt_pieceCount_2 : decode kSt_pieceCount 2 = .ok (.getfield 28, 3) := by decide +kernel
theorem dSt_pieceCount_5 : decode kSt_pieceCount 5 = .ok (.iload_n 1, 1) := by decide +kernel
theorem dSt_pieceCount_6 : decode kSt_pieceCount 6 = .ok (.iadd, 1) := by decide +kernel
theorem dSt_pieceCount_7 : decode kSt_pieceCount 7 = .ok (.iconst 1, 1) := by decide +kernel
theorem dSt_pieceCount_8 : decode kSt_pieceCount 8 = .ok (.isub, 1) := by decide +kernel
theorem dSt_pieceCount_9 : decode kSt_pieceCount 9 = .ok (.iload_n 1, 1) := by decide +kernel
theorem dSt_pieceCount_10 : decode kSt_pieceCount 10 = .ok (.invokestatic 52, 3) := by decide +kernel
theorem dSt_pieceCount_13 : decode kSt_pieceCount 13 = .ok (.invokestatic 58, 3) := by decide +kernel
theorem dSt_pieceCount_16 : decode kSt_pieceCount 16 = .ok (.ireturn, 1) := by decide +kernel
theorem dSt_divide_0 : decode kSt_divide 0 = .ok (.aload_n 0, 1) := by decide +kernel
theorem dSt_divide_1 : decode kSt_divide 1 = .ok (.getfield 16, 3) := by decide +kernel
theorem dSt_divide_4 : decode kSt_divide 4 = .ok (.bipush 60, 2) := by decide +kernel
theorem dSt_divide_6 : decode kSt_divide 6 = .ok (.aload_n 0, 1) := by decide +kernel
theorem dSt_divide_7 : decode kSt_divide 7 = .ok (.iload_n 1, 1) := by decide +kernel
theorem dSt_divide_8 : decode kSt_divide 8 = .ok (.invokevirtual 63, 3) := by decide +kernel
theorem dSt_divide_11 : decode kSt_divide 11 = .ok (.invokestatic 66, 3) := by decide +kernel
theorem dSt_divide_14 : decode kSt_divide 14 = .ok (.putfield 69, 3) := by decide +kernel
theorem dSt_divide_17 : decode kSt_divide 17 = .ok (.aload_n 0, 1) := by decide +kernel
theorem dSt_divide_18 : decode kSt_divide 18 = .ok (.getfield 16, 3) := by decide +kernel
theorem dSt_divide_21 : decode kSt_divide 21 = .ok (.iload_n 1, 1) := by decide +kernel
theorem dSt_divide_22 : decode kSt_divide 22 = .ok (.putfield 72, 3) := by decide +kernel
theorem dSt_divide_25 : decode kSt_divide 25 = .ok (.iconst 0, 1) := by decide +kernel
theorem dSt_divide_26 : decode kSt_divide 26 = .ok (.istore_n 2, 1) := by decide +kernel
theorem dSt_divide_27 : decode kSt_divide 27 = .ok (.iload_n 2, 1) := by decide +kernel
theorem dSt_divide_28 : decode kSt_divide 28 = .ok (.aload_n 0, 1) := by decide +kernel
theorem dSt_divide_29 : decode kSt_divide 29 = .ok (.getfield 16, 3) := by decide +kernel
theorem dSt_divide_32 : decode kSt_divide 32 = .ok (.getfield 69, 3) := by decide +kernel
theorem dSt_divide_35 : decode kSt_divide 35 = .ok (.if_icmp .ge 49, 3) := by decide +kernel
theorem dSt_divide_38 : decode kSt_divide 38 = .ok (.aload_n 0, 1) := by decide +kernel
theorem dSt_divide_39 : decode kSt_divide 39 = .ok (.getfield 16, 3) := by decide +kernel
theorem dSt_divide_42 : decode kSt_divide 42 = .ok (.iload_n 2, 1) := by decide +kernel
theorem dSt_divide_43 : decode kSt_divide 43 = .ok (.bipush 6, 2) := by decide +kernel
theorem dSt_divide_45 : decode kSt_divide 45 = .ok (.iload_n 1, 1) := by decide +kernel
theorem dSt_divide_46 : decode kSt_divide 46 = .ok (.aload_n 0, 1) := by decide +kernel
theorem dSt_divide_47 : decode kSt_divide 47 = .ok (.getfield 28, 3) := by decide +kernel
theorem dSt_divide_50 : decode kSt_divide 50 = .ok (.iload_n 2, 1) := by decide +kernel
theorem dSt_divide_51 : decode kSt_divide 51 = .ok (.iload_n 1, 1) := by decide +kernel
theorem dSt_divide_52 : decode kSt_divide 52 = .ok (.imul, 1) := by decide +kernel
theorem dSt_divide_53 : decode kSt_divide 53 = .ok (.isub, 1) := by decide +kernel
theorem dSt_divide_54 : decode kSt_divide 54 = .ok (.invokestatic 66, 3) := by decide +kernel
theorem dSt_divide_57 : decode kSt_divide 57 = .ok (.invokevirtual 75, 3) := by decide +kernel
theorem dSt_divide_60 : decode kSt_divide 60 = .ok (.aload_n 0, 1) := by decide +kernel
theorem dSt_divide_61 : decode kSt_divide 61 = .ok (.getfield 16, 3) := by decide +kernel
theorem dSt_divide_64 : decode kSt_divide 64 = .ok (.iload_n 2, 1) := by decide +kernel
theorem dSt_divide_65 : decode kSt_divide 65 = .ok (.bipush 7, 2) := by decide +kernel
theorem dSt_divide_67 : decode kSt_divide 67 = .ok (.aload_n 0, 1) := by decide +kernel
theorem dSt_divide_68 : decode kSt_divide 68 = .ok (.iload_n 2, 1) := by decide +kernel
theorem dSt_divide_69 : decode kSt_divide 69 = .ok (.iload_n 1, 1) := by decide +kernel
theorem dSt_divide_70 : decode kSt_divide 70 = .ok (.imul, 1) := by decide +kernel
theorem dSt_divide_71 : decode kSt_divide 71 = .ok (.iload_n 1, 1) := by decide +kernel
theorem dSt_divide_72 : decode kSt_divide 72 = .ok (.invokevirtual 79, 3) := by decide +kernel
theorem dSt_divide_75 : decode kSt_divide 75 = .ok (.invokevirtual 75, 3) := by decide +kernel
theorem dSt_divide_78 : decode kSt_divide 78 = .ok (.iinc 2 1, 3) := by decide +kernel
theorem dSt_divide_81 : decode kSt_divide 81 = .ok (.goto (-54), 3) := by decide +kernel
theorem dSt_divide_84 : decode kSt_divide 84 = .ok (.return_, 1) := by decide +kernel
theorem dSt_startIn_0 : decode kSt_startIn 0 = .ok (.iconst 0, 1) := by decide +kernel
theorem dSt_startIn_1 : decode kSt_startIn 1 = .ok (.istore_n 3, 1) := by decide +kernel
theorem dSt_startIn_2 : decode kSt_startIn 2 = .ok (.iload_n 3, 1) := by decide +kernel
theorem dSt_startIn_3 : decode kSt_startIn 3 = .ok (.aload_n 0, 1) := by decide +kernel
theorem dSt_startIn_4 : decode kSt_startIn 4 = .ok (.getfield 24, 3) := by decide +kernel
theorem dSt_startIn_7 : decode kSt_startIn 7 = .ok (.if_icmp .ge 39, 3) := by decide +kernel
theorem dSt_startIn_10 : decode kSt_startIn 10 = .ok (.iload_n 3, 1) := by decide +kernel
theorem dSt_startIn_11 : decode kSt_startIn 11 = .ok (.bipush 20, 2) := by decide +kernel
theorem dSt_startIn_13 : decode kSt_startIn 13 = .ok (.if_icmp .ge 33, 3) := by decide +kernel
theorem dSt_startIn_16 : decode kSt_startIn 16 = .ok (.aload_n 0, 1) := by decide +kernel
theorem dSt_startIn_17 : decode kSt_startIn 17 = .ok (.getfield 20, 3) := by decide +kernel
theorem dSt_startIn_20 : decode kSt_startIn 20 = .ok (.iload_n 3, 1) := by decide +kernel
theorem dSt_startIn_21 : decode kSt_startIn 21 = .ok (.iaload, 1) := by decide +kernel
theorem dSt_startIn_22 : decode kSt_startIn 22 = .ok (.iload_n 1, 1) := by decide +kernel
theorem dSt_startIn_23 : decode kSt_startIn 23 = .ok (.isub, 1) := by decide +kernel
theorem dSt_startIn_24 : decode kSt_startIn 24 = .ok (.istore 4, 2) := by decide +kernel
theorem dSt_startIn_26 : decode kSt_startIn 26 = .ok (.iload 4, 2) := by decide +kernel
theorem dSt_startIn_28 : decode kSt_startIn 28 = .ok (.ifCond .lt 12, 3) := by decide +kernel
theorem dSt_startIn_31 : decode kSt_startIn 31 = .ok (.iload 4, 2) := by decide +kernel
theorem dSt_startIn_33 : decode kSt_startIn 33 = .ok (.iload_n 2, 1) := by decide +kernel
theorem dSt_startIn_34 : decode kSt_startIn 34 = .ok (.if_icmp .ge 6, 3) := by decide +kernel
theorem dSt_startIn_37 : decode kSt_startIn 37 = .ok (.iload 4, 2) := by decide +kernel
theorem dSt_startIn_39 : decode kSt_startIn 39 = .ok (.ireturn, 1) := by decide +kernel
theorem dSt_startIn_40 : decode kSt_startIn 40 = .ok (.iinc 3 1, 3) := by decide +kernel
theorem dSt_startIn_43 : decode kSt_startIn 43 = .ok (.goto (-41), 3) := by decide +kernel
theorem dSt_startIn_46 : decode kSt_startIn 46 = .ok (.sipush 255, 3) := by decide +kernel
theorem dSt_startIn_49 : decode kSt_startIn 49 = .ok (.ireturn, 1) := by decide +kernel
theorem dSl_init_0 : decode kSl_init 0 = .ok (.aload_n 0, 1) := by decide +kernel
theorem dSl_init_1 : decode kSl_init 1 = .ok (.invokespecial 3, 3) := by decide +kernel
theorem dSl_init_4 : decode kSl_init 4 = .ok (.aload_n 0, 1) := by decide +kernel
theorem dSl_init_5 : decode kSl_init 5 = .ok (.bipush 60, 2) := by decide +kernel
theorem dSl_init_7 : decode kSl_init 7 = .ok (.anewarray 9, 3) := by decide +kernel
theorem dSl_init_10 : decode kSl_init 10 = .ok (.putfield 11, 3) := by decide +kernel
theorem dSl_init_13 : decode kSl_init 13 = .ok (.iconst 0, 1) := by decide +kernel
theorem dSl_init_14 : decode kSl_init 14 = .ok (.istore_n 1, 1) := by decide +kernel
theorem dSl_init_15 : decode kSl_init 15 = .ok (.iload_n 1, 1) := by decide +kernel
theorem dSl_init_16 : decode kSl_init 16 = .ok (.bipush 60, 2) := by decide +kernel
theorem dSl_init_18 : decode kSl_init 18 = .ok (.if_icmp .ge 22, 3) := by decide +kernel
theorem dSl_init_21 : decode kSl_init 21 = .ok (.aload_n 0, 1) := by decide +kernel
theorem dSl_init_22 : decode kSl_init 22 = .ok (.getfield 11, 3) := by decide +kernel
theorem dSl_init_25 : decode kSl_init 25 = .ok (.iload_n 1, 1) := by decide +kernel
theorem dSl_init_26 : decode kSl_init 26 = .ok (.new 9, 3) := by decide +kernel
theorem dSl_init_29 : decode kSl_init 29 = .ok (.dup, 1) := by decide +kernel
theorem dSl_init_30 : decode kSl_init 30 = .ok (.invokespecial 17, 3) := by decide +kernel
theorem dSl_init_33 : decode kSl_init 33 = .ok (.aastore, 1) := by decide +kernel
theorem dSl_init_34 : decode kSl_init 34 = .ok (.iinc 1 1, 3) := by decide +kernel
theorem dSl_init_37 : decode kSl_init 37 = .ok (.goto (-22), 3) := by decide +kernel
theorem dSl_init_40 : decode kSl_init 40 = .ok (.return_, 1) := by decide +kernel
theorem dSl_at_0 : decode kSl_at 0 = .ok (.iload_n 1, 1) := by decide +kernel
theorem dSl_at_1 : decode kSl_at 1 = .ok (.ifCond .lt 9, 3) := by decide +kernel
theorem dSl_at_4 : decode kSl_at 4 = .ok (.iload_n 1, 1) := by decide +kernel
theorem dSl_at_5 : decode kSl_at 5 = .ok (.bipush 60, 2) := by decide +kernel
theorem dSl_at_7 : decode kSl_at 7 = .ok (.if_icmp .lt 7, 3) := by decide +kernel
theorem dSl_at_10 : decode kSl_at 10 = .ok (.aconst_null, 1) := by decide +kernel
theorem dSl_at_11 : decode kSl_at 11 = .ok (.goto 9, 3) := by decide +kernel
theorem dSl_at_14 : decode kSl_at 14 = .ok (.aload_n 0, 1) := by decide +kernel
theorem dSl_at_15 : decode kSl_at 15 = .ok (.getfield 11, 3) := by decide +kernel
theorem dSl_at_18 : decode kSl_at 18 = .ok (.iload_n 1, 1) := by decide +kernel
theorem dSl_at_19 : decode kSl_at 19 = .ok (.aaload, 1) := by decide +kernel
theorem dSl_at_20 : decode kSl_at 20 = .ok (.areturn, 1) := by decide +kernel
theorem dSl_exchange_0 : decode kSl_exchange 0 = .ok (.aload_n 0, 1) := by decide +kernel
theorem dSl_exchange_1 : decode kSl_exchange 1 = .ok (.iload_n 1, 1) := by decide +kernel
theorem dSl_exchange_2 : decode kSl_exchange 2 = .ok (.invokevirtual 18, 3) := by decide +kernel
theorem dSl_exchange_5 : decode kSl_exchange 5 = .ok (.astore_n 3, 1) := by decide +kernel
theorem dSl_exchange_6 : decode kSl_exchange 6 = .ok (.aload_n 0, 1) := by decide +kernel
theorem dSl_exchange_7 : decode kSl_exchange 7 = .ok (.iload_n 2, 1) := by decide +kernel
theorem dSl_exchange_8 : decode kSl_exchange 8 = .ok (.invokevirtual 18, 3) := by decide +kernel
theorem dSl_exchange_11 : decode kSl_exchange 11 = .ok (.astore 4, 2) := by decide +kernel
theorem dSl_exchange_13 : decode kSl_exchange 13 = .ok (.aload_n 3, 1) := by decide +kernel
theorem dSl_exchange_14 : decode kSl_exchange 14 = .ok (.ifnull 23, 3) := by decide +kernel
theorem dSl_exchange_17 : decode kSl_exchange 17 = .ok (.aload 4, 2) := by decide +kernel
theorem dSl_exchange_19 : decode kSl_exchange 19 = .ok (.ifnull 18, 3) := by decide +kernel
theorem dSl_exchange_22 : decode kSl_exchange 22 = .ok (.aload_n 0, 1) := by decide +kernel
theorem dSl_exchange_23 : decode kSl_exchange 23 = .ok (.getfield 11, 3) := by decide +kernel
theorem dSl_exchange_26 : decode kSl_exchange 26 = .ok (.iload_n 1, 1) := by decide +kernel
theorem dSl_exchange_27 : decode kSl_exchange 27 = .ok (.aload 4, 2) := by decide +kernel
theorem dSl_exchange_29 : decode kSl_exchange 29 = .ok (.aastore, 1) := by decide +kernel
theorem dSl_exchange_30 : decode kSl_exchange 30 = .ok (.aload_n 0, 1) := by decide +kernel
theorem dSl_exchange_31 : decode kSl_exchange 31 = .ok (.getfield 11, 3) := by decide +kernel
theorem dSl_exchange_34 : decode kSl_exchange 34 = .ok (.iload_n 2, 1) := by decide +kernel
theorem dSl_exchange_35 : decode kSl_exchange 35 = .ok (.aload_n 3, 1) := by decide +kernel
theorem dSl_exchange_36 : decode kSl_exchange 36 = .ok (.aastore, 1) := by decide +kernel
theorem dSl_exchange_37 : decode kSl_exchange 37 = .ok (.return_, 1) := by decide +kernel
theorem dSl_filled_0 : decode kSl_filled 0 = .ok (.iconst 0, 1) := by decide +kernel
theorem dSl_filled_1 : decode kSl_filled 1 = .ok (.istore_n 1, 1) := by decide +kernel
theorem dSl_filled_2 : decode kSl_filled 2 = .ok (.iconst 0, 1) := by decide +kernel
theorem dSl_filled_3 : decode kSl_filled 3 = .ok (.istore_n 2, 1) := by decide +kernel
theorem dSl_filled_4 : decode kSl_filled 4 = .ok (.iload_n 2, 1) := by decide +kernel
theorem dSl_filled_5 : decode kSl_filled 5 = .ok (.bipush 60, 2) := by decide +kernel
theorem dSl_filled_7 : decode kSl_filled 7 = .ok (.if_icmp .ge 24, 3) := by decide +kernel
theorem dSl_filled_10 : decode kSl_filled 10 = .ok (.aload_n 0, 1) := by decide +kernel
theorem dSl_filled_11 : decode kSl_filled 11 = .ok (.getfield 11, 3) := by decide +kernel
theorem dSl_filled_14 : decode kSl_filled 14 = .ok (.iload_n 2, 1) := by decide +kernel
theorem dSl_filled_15 : decode kSl_filled 15 = .ok (.aaload, 1) := by decide +kernel
theorem dSl_filled_16 : decode kSl_filled 16 = .ok (.getfield 22, 3) := by decide +kernel
theorem dSl_filled_19 : decode kSl_filled 19 = .ok (.ifCond .eq 6, 3) := by decide +kernel
theorem dSl_filled_22 : decode kSl_filled 22 = .ok (.iinc 1 1, 3) := by decide +kernel
theorem dSl_filled_25 : decode kSl_filled 25 = .ok (.iinc 2 1, 3) := by decide +kernel
theorem dSl_filled_28 : decode kSl_filled 28 = .ok (.goto (-24), 3) := by decide +kernel
theorem dSl_filled_31 : decode kSl_filled 31 = .ok (.iload_n 1, 1) := by decide +kernel
theorem dSl_filled_32 : decode kSl_filled 32 = .ok (.ireturn, 1) := by decide +kernel
theorem dSl_inState_0 : decode kSl_inState 0 = .ok (.iconst 0, 1) := by decide +kernel
theorem dSl_inState_1 : decode kSl_inState 1 = .ok (.istore_n 2, 1) := by decide +kernel
theorem dSl_inState_2 : decode kSl_inState 2 = .ok (.iconst 0, 1) := by decide +kernel
theorem dSl_inState_3 : decode kSl_inState 3 = .ok (.istore_n 3, 1) := by decide +kernel
theorem dSl_inState_4 : decode kSl_inState 4 = .ok (.iload_n 3, 1) := by decide +kernel
theorem dSl_inState_5 : decode kSl_inState 5 = .ok (.bipush 60, 2) := by decide +kernel
theorem dSl_inState_7 : decode kSl_inState 7 = .ok (.if_icmp .ge 25, 3) := by decide +kernel
theorem dSl_inState_10 : decode kSl_inState 10 = .ok (.aload_n 0, 1) := by decide +kernel
theorem dSl_inState_11 : decode kSl_inState 11 = .ok (.getfield 11, 3) := by decide +kernel
theorem dSl_inState_14 : decode kSl_inState 14 = .ok (.iload_n 3, 1) := by decide +kernel
theorem dSl_inState_15 : decode kSl_inState 15 = .ok (.aaload, 1) := by decide +kernel
theorem dSl_inState_16 : decode kSl_inState 16 = .ok (.invokevirtual 26, 3) := by decide +kernel
theorem dSl_inState_19 : decode kSl_inState 19 = .ok (.iload_n 1, 1) := by decide +kernel
theorem dSl_inState_20 : decode kSl_inState 20 = .ok (.if_icmp .ne 6, 3) := by decide +kernel
theorem dSl_inState_23 : decode kSl_inState 23 = .ok (.iinc 2 1, 3) := by decide +kernel
theorem dSl_inState_26 : decode kSl_inState 26 = .ok (.iinc 3 1, 3) := by decide +kernel
theorem dSl_inState_29 : decode kSl_inState 29 = .ok (.goto (-25), 3) := by decide +kernel
theorem dSl_inState_32 : decode kSl_inState 32 = .ok (.iload_n 2, 1) := by decide +kernel
theorem dSl_inState_33 : decode kSl_inState 33 = .ok (.ireturn, 1) := by decide +kernel
theorem dSl_firstGood_0 : decode kSl_firstGood 0 = .ok (.iconst 0, 1) := by decide +kernel
theorem dSl_firstGood_1 : decode kSl_firstGood 1 = .ok (.istore_n 2, 1) := by decide +kernel
theorem dSl_firstGood_2 : decode kSl_firstGood 2 = .ok (.iload_n 2, 1) := by decide +kernel
theorem dSl_firstGood_3 : decode kSl_firstGood 3 = .ok (.bipush 60, 2) := by decide +kernel
theorem dSl_firstGood_5 : decode kSl_firstGood 5 = .ok (.if_icmp .ge 29, 3) := by decide +kernel
theorem dSl_firstGood_8 : decode kSl_firstGood 8 = .ok (.aload_n 0, 1) := by decide +kernel
theorem dSl_firstGood_9 : decode kSl_firstGood 9 = .ok (.getfield 11, 3) := by decide +kernel
theorem dSl_firstGood_12 : decode kSl_firstGood 12 = .ok (.iload_n 2, 1) := by decide +kernel
theorem dSl_firstGood_13 : decode kSl_firstGood 13 = .ok (.aaload, 1) := by decide +kernel
theorem dSl_firstGood_14 : decode kSl_firstGood 14 = .ok (.iload_n 1, 1) := by decide +kernel
theorem dSl_firstGood_15 : decode kSl_firstGood 15 = .ok (.invokevirtual 30, 3) := by decide +kernel
theorem dSl_firstGood_18 : decode kSl_firstGood 18 = .ok (.ifCond .eq 10, 3) := by decide +kernel
theorem dSl_firstGood_21 : decode kSl_firstGood 21 = .ok (.aload_n 0, 1) := by decide +kernel
theorem dSl_firstGood_22 : decode kSl_firstGood 22 = .ok (.getfield 11, 3) := by decide +kernel
theorem dSl_firstGood_25 : decode kSl_firstGood 25 = .ok (.iload_n 2, 1) := by decide +kernel
theorem dSl_firstGood_26 : decode kSl_firstGood 26 = .ok (.aaload, 1) := by decide +kernel
theorem dSl_firstGood_27 : decode kSl_firstGood 27 = .ok (.areturn, 1) := by decide +kernel
theorem dSl_firstGood_28 : decode kSl_firstGood 28 = .ok (.iinc 2 1, 3) := by decide +kernel
theorem dSl_firstGood_31 : decode kSl_firstGood 31 = .ok (.goto (-29), 3) := by decide +kernel
theorem dSl_firstGood_34 : decode kSl_firstGood 34 = .ok (.aconst_null, 1) := by decide +kernel
theorem dSl_firstGood_35 : decode kSl_firstGood 35 = .ok (.areturn, 1) := by decide +kernel
theorem dSl_hold_0 : decode kSl_hold 0 = .ok (.iconst 0, 1) := by decide +kernel
theorem dSl_hold_1 : decode kSl_hold 1 = .ok (.istore_n 2, 1) := by decide +kernel
theorem dSl_hold_2 : decode kSl_hold 2 = .ok (.iload_n 2, 1) := by decide +kernel
theorem dSl_hold_3 : decode kSl_hold 3 = .ok (.bipush 60, 2) := by decide +kernel
theorem dSl_hold_5 : decode kSl_hold 5 = .ok (.if_icmp .ge 24, 3) := by decide +kernel
theorem dSl_hold_8 : decode kSl_hold 8 = .ok (.aload_n 0, 1) := by decide +kernel
theorem dSl_hold_9 : decode kSl_hold 9 = .ok (.getfield 11, 3) := by decide +kernel
theorem dSl_hold_12 : decode kSl_hold 12 = .ok (.iload_n 2, 1) := by decide +kernel
theorem dSl_hold_13 : decode kSl_hold 13 = .ok (.aaload, 1) := by decide +kernel
theorem dSl_hold_14 : decode kSl_hold 14 = .ok (.aload_n 1, 1) := by decide +kernel
theorem dSl_hold_15 : decode kSl_hold 15 = .ok (.invokevirtual 34, 3) := by decide +kernel
theorem dSl_hold_18 : decode kSl_hold 18 = .ok (.ifCond .eq 5, 3) := by decide +kernel
theorem dSl_hold_21 : decode kSl_hold 21 = .ok (.iconst 1, 1) := by decide +kernel
theorem dSl_hold_22 : decode kSl_hold 22 = .ok (.ireturn, 1) := by decide +kernel
theorem dSl_hold_23 : decode kSl_hold 23 = .ok (.iinc 2 1, 3) := by decide +kernel
theorem dSl_hold_26 : decode kSl_hold 26 = .ok (.goto (-24), 3) := by decide +kernel
theorem dSl_hold_29 : decode kSl_hold 29 = .ok (.iconst 0, 1) := by decide +kernel
theorem dSl_hold_30 : decode kSl_hold 30 = .ok (.ireturn, 1) := by decide +kernel
theorem dSl_putIntoLeastEmpty_0 : decode kSl_putIntoLeastEmpty 0 = .ok (.iconst 0, 1) := by decide +kernel
theorem dSl_putIntoLeastEmpty_1 : decode kSl_putIntoLeastEmpty 1 = .ok (.istore_n 2, 1) := by decide +kernel
theorem dSl_putIntoLeastEmpty_2 : decode kSl_putIntoLeastEmpty 2 = .ok (.iload_n 2, 1) := by decide +kernel
theorem dSl_putIntoLeastEmpty_3 : decode kSl_putIntoLeastEmpty 3 = .ok (.bipush 60, 2) := by decide +kernel
theorem dSl_putIntoLeastEmpty_5 : decode kSl_putIntoLeastEmpty 5 = .ok (.if_icmp .ge 32, 3) := by decide +kernel
theorem dSl_putIntoLeastEmpty_8 : decode kSl_putIntoLeastEmpty 8 = .ok (.aload_n 0, 1) := by decide +kernel
theorem dSl_putIntoLeastEmpty_9 : decode kSl_putIntoLeastEmpty 9 = .ok (.getfield 11, 3) := by decide +kernel
theorem dSl_putIntoLeastEmpty_12 : decode kSl_putIntoLeastEmpty 12 = .ok (.iload_n 2, 1) := by decide +kernel
theorem dSl_putIntoLeastEmpty_13 : decode kSl_putIntoLeastEmpty 13 = .ok (.aaload, 1) := by decide +kernel
theorem dSl_putIntoLeastEmpty_14 : decode kSl_putIntoLeastEmpty 14 = .ok (.getfield 22, 3) := by decide +kernel
theorem dSl_putIntoLeastEmpty_17 : decode kSl_putIntoLeastEmpty 17 = .ok (.ifCond .ne 14, 3) := by decide +kernel
theorem dSl_putIntoLeastEmpty_20 : decode kSl_putIntoLeastEmpty 20 = .ok (.aload_n 0, 1) := by decide +kernel
theorem dSl_putIntoLeastEmpty_21 : decode kSl_putIntoLeastEmpty 21 = .ok (.getfield 11, 3) := by decide +kernel
theorem dSl_putIntoLeastEmpty_24 : decode kSl_putIntoLeastEmpty 24 = .ok (.iload_n 2, 1) := by decide +kernel
theorem dSl_putIntoLeastEmpty_25 : decode kSl_putIntoLeastEmpty 25 = .ok (.aaload, 1) := by decide +kernel
theorem dSl_putIntoLeastEmpty_26 : decode kSl_putIntoLeastEmpty 26 = .ok (.aload_n 1, 1) := by decide +kernel
theorem dSl_putIntoLeastEmpty_27 : decode kSl_putIntoLeastEmpty 27 = .ok (.invokevirtual 38, 3) := by decide +kernel
theorem dSl_putIntoLeastEmpty_30 : decode kSl_putIntoLeastEmpty 30 = .ok (.return_, 1) := by decide +kernel
theorem dSl_putIntoLeastEmpty_31 : decode kSl_putIntoLeastEmpty 31 = .ok (.iinc 2 1, 3) := by decide +kernel
theorem dSl_putIntoLeastEmpty_34 : decode kSl_putIntoLeastEmpty 34 = .ok (.goto (-32), 3) := by decide +kernel
theorem dSl_putIntoLeastEmpty_37 : decode kSl_putIntoLeastEmpty 37 = .ok (.return_, 1) := by decide +kernel
theorem dWr_init_0 : decode kWr_init 0 = .ok (.aload_n 0, 1) := by decide +kernel
theorem dWr_init_1 : decode kWr_init 1 = .ok (.invokespecial 3, 3) := by decide +kernel
theorem dWr_init_4 : decode kWr_init 4 = .ok (.aload_n 0, 1) := by decide +kernel
theorem dWr_init_5 : decode kWr_init 5 = .ok (.new 9, 3) := by decide +kernel
theorem dWr_init_8 : decode kWr_init 8 = .ok (.dup, 1) := by decide +kernel
theorem dWr_init_9 : decode kWr_init 9 = .ok (.invokespecial 11, 3) := by decide +kernel
theorem dWr_init_12 : decode kWr_init 12 = .ok (.putfield 12, 3) := by decide +kernel
theorem dWr_init_15 : decode kWr_init 15 = .ok (.return_, 1) := by decide +kernel
theorem dWr_make_0 : decode kWr_make 0 = .ok (.aload_n 0, 1) := by decide +kernel
theorem dWr_make_1 : decode kWr_make 1 = .ok (.getfield 12, 3) := by decide +kernel
theorem dWr_make_4 : decode kWr_make 4 = .ok (.aload_n 3, 1) := by decide +kernel
theorem dWr_make_5 : decode kWr_make 5 = .ok (.getfield 18, 3) := by decide +kernel
theorem dWr_make_8 : decode kWr_make 8 = .ok (.putfield 24, 3) := by decide +kernel
theorem dWr_make_11 : decode kWr_make 11 = .ok (.aload_n 0, 1) := by decide +kernel
theorem dWr_make_12 : decode kWr_make 12 = .ok (.getfield 12, 3) := by decide +kernel
theorem dWr_make_15 : decode kWr_make 15 = .ok (.iconst 0, 1) := by decide +kernel
theorem dWr_make_16 : decode kWr_make 16 = .ok (.bipush 86, 2) := by decide +kernel
theorem dWr_make_18 : decode kWr_make 18 = .ok (.invokevirtual 25, 3) := by decide +kernel
theorem dWr_make_21 : decode kWr_make 21 = .ok (.aload_n 0, 1) := by decide +kernel
theorem dWr_make_22 : decode kWr_make 22 = .ok (.getfield 12, 3) := by decide +kernel
theorem dWr_make_25 : decode kWr_make 25 = .ok (.iconst 1, 1) := by decide +kernel
theorem dWr_make_26 : decode kWr_make 26 = .ok (.bipush 83, 2) := by decide +kernel
theorem dWr_make_28 : decode kWr_make 28 = .ok (.invokevirtual 25, 3) := by decide +kernel
theorem dWr_make_31 : decode kWr_make 31 = .ok (.aload_n 0, 1) := by decide +kernel
theorem dWr_make_32 : decode kWr_make 32 = .ok (.getfield 12, 3) := by decide +kernel
theorem dWr_make_35 : decode kWr_make 35 = .ok (.iconst 2, 1) := by decide +kernel
theorem dWr_make_36 : decode kWr_make 36 = .ok (.aload_n 3, 1) := by decide +kernel
theorem dWr_make_37 : decode kWr_make 37 = .ok (.getfield 29, 3) := by decide +kernel
theorem dWr_make_40 : decode kWr_make 40 = .ok (.invokevirtual 25, 3) := by decide +kernel
theorem dWr_make_43 : decode kWr_make 43 = .ok (.aload_n 0, 1) := by decide +kernel
theorem dWr_make_44 : decode kWr_make 44 = .ok (.getfield 12, 3) := by decide +kernel
theorem dWr_make_47 : decode kWr_make 47 = .ok (.iconst 3, 1) := by decide +kernel
theorem dWr_make_48 : decode kWr_make 48 = .ok (.iload_n 1, 1) := by decide +kernel
theorem dWr_make_49 : decode kWr_make 49 = .ok (.invokevirtual 25, 3) := by decide +kernel
theorem dWr_make_52 : decode kWr_make 52 = .ok (.aload_n 0, 1) := by decide +kernel
theorem dWr_make_53 : decode kWr_make 53 = .ok (.getfield 12, 3) := by decide +kernel
theorem dWr_make_56 : decode kWr_make 56 = .ok (.iconst 4, 1) := by decide +kernel
theorem dWr_make_57 : decode kWr_make 57 = .ok (.aload_n 2, 1) := by decide +kernel
theorem dWr_make_58 : decode kWr_make 58 = .ok (.getfield 32, 3) := by decide +kernel
theorem dWr_make_61 : decode kWr_make 61 = .ok (.invokevirtual 25, 3) := by decide +kernel
theorem dWr_make_64 : decode kWr_make 64 = .ok (.aload_n 0, 1) := by decide +kernel
theorem dWr_make_65 : decode kWr_make 65 = .ok (.getfield 12, 3) := by decide +kernel
theorem dWr_make_68 : decode kWr_make 68 = .ok (.iconst 5, 1) := by decide +kernel
theorem dWr_make_69 : decode kWr_make 69 = .ok (.aload_n 3, 1) := by decide +kernel
theorem dWr_make_70 : decode kWr_make 70 = .ok (.getfield 37, 3) := by decide +kernel
theorem dWr_make_73 : decode kWr_make 73 = .ok (.invokevirtual 25, 3) := by decide +kernel
theorem dWr_make_76 : decode kWr_make 76 = .ok (.bipush 6, 2) := by decide +kernel
theorem dWr_make_78 : decode kWr_make 78 = .ok (.istore 4, 2) := by decide +kernel
theorem dWr_make_80 : decode kWr_make 80 = .ok (.iload 4, 2) := by decide +kernel
theorem dWr_make_82 : decode kWr_make 82 = .ok (.aload_n 3, 1) := by decide +kernel
theorem dWr_make_83 : decode kWr_make 83 = .ok (.getfield 18, 3) := by decide +kernel
theorem dWr_make_86 : decode kWr_make 86 = .ok (.if_icmp .ge 48, 3) := by decide +kernel
theorem dWr_make_89 : decode kWr_make 89 = .ok (.aload_n 0, 1) := by decide +kernel
theorem dWr_make_90 : decode kWr_make 90 = .ok (.getfield 12, 3) := by decide +kernel
theorem dWr_make_93 : decode kWr_make 93 = .ok (.iload 4, 2) := by decide +kernel
theorem dWr_make_95 : decode kWr_make 95 = .ok (.iload_n 1, 1) := by decide +kernel
theorem dWr_make_96 : decode kWr_make 96 = .ok (.aload_n 2, 1) := by decide +kernel
theorem dWr_make_97 : decode kWr_make 97 = .ok (.getfield 32, 3) := by decide +kernel
theorem dWr_make_100 : decode kWr_make 100 = .ok (.if_icmp .ge 13, 3) := by decide +kernel
theorem dWr_make_103 : decode kWr_make 103 = .ok (.aload_n 2, 1) := by decide +kernel
theorem dWr_make_104 : decode kWr_make 104 = .ok (.iload_n 1, 1) := by decide +kernel
theorem dWr_make_105 : decode kWr_make 105 = .ok (.iload 4, 2) := by decide +kernel
theorem dWr_make_107 : decode kWr_make 107 = .ok (.invokevirtual 40, 3) := by decide +kernel
theorem dWr_make_110 : decode kWr_make 110 = .ok (.goto 15, 3) := by decide +kernel
theorem dWr_make_113 : decode kWr_make 113 = .ok (.aload_n 2, 1) := by decide +kernel
theorem dWr_make_114 : decode kWr_make 114 = .ok (.iload_n 1, 1) := by decide +kernel
theorem dWr_make_115 : decode kWr_make 115 = .ok (.aload_n 2, 1) := by decide +kernel
theorem dWr_make_116 : decode kWr_make 116 = .ok (.getfield 32, 3) := by decide +kernel
theorem dWr_make_119 : decode kWr_make 119 = .ok (.isub, 1) := by decide +kernel
theorem dWr_make_120 : decode kWr_make 120 = .ok (.iload 4, 2) := by decide +kernel
theorem dWr_make_122 : decode kWr_make 122 = .ok (.invokevirtual 44, 3) := by decide +kernel
theorem dWr_make_125 : decode kWr_make 125 = .ok (.invokevirtual 25, 3) := by decide +kernel
theorem dWr_make_128 : decode kWr_make 128 = .ok (.iinc 4 1, 3) := by decide +kernel
theorem dWr_make_131 : decode kWr_make 131 = .ok (.goto (-51), 3) := by decide +kernel
theorem dWr_make_134 : decode kWr_make 134 = .ok (.aload_n 0, 1) := by decide +kernel
theorem dWr_make_135 : decode kWr_make 135 = .ok (.getfield 12, 3) := by decide +kernel
theorem dWr_make_138 : decode kWr_make 138 = .ok (.invokevirtual 47, 3) := by decide +kernel
theorem dWr_make_141 : decode kWr_make 141 = .ok (.return_, 1) := by decide +kernel
theorem dWr_missingIn_0 : decode kWr_missingIn 0 = .ok (.iconst 0, 1) := by decide +kernel
theorem dWr_missingIn_1 : decode kWr_missingIn 1 = .ok (.istore 4, 2) := by decide +kernel
theorem dWr_missingIn_3 : decode kWr_missingIn 3 = .ok (.iconst 0, 1) := by decide +kernel
theorem dWr_missingIn_4 : decode kWr_missingIn 4 = .ok (.istore 5, 2) := by decide +kernel
theorem dWr_missingIn_6 : decode kWr_missingIn 6 = .ok (.iload 5, 2) := by decide +kernel
theorem dWr_missingIn_8 : decode kWr_missingIn 8 = .ok (.aload_n 2, 1) := by decide +kernel
theorem dWr_missingIn_9 : decode kWr_missingIn 9 = .ok (.getfield 32, 3) := by decide +kernel
theorem dWr_missingIn_12 : decode kWr_missingIn 12 = .ok (.aload_n 3, 1) := by decide +kernel
theorem dWr_missingIn_13 : decode kWr_missingIn 13 = .ok (.getfield 37, 3) := by decide +kernel
theorem dWr_missingIn_16 : decode kWr_missingIn 16 = .ok (.iadd, 1) := by decide +kernel
theorem dWr_missingIn_17 : decode kWr_missingIn 17 = .ok (.if_icmp .ge 31, 3) := by decide +kernel
theorem dWr_missingIn_20 : decode kWr_missingIn 20 = .ok (.aload_n 0, 1) := by decide +kernel
theorem dWr_missingIn_21 : decode kWr_missingIn 21 = .ok (.iload 5, 2) := by decide +kernel
theorem dWr_missingIn_23 : decode kWr_missingIn 23 = .ok (.aload_n 2, 1) := by decide +kernel
theorem dWr_missingIn_24 : decode kWr_missingIn 24 = .ok (.aload_n 3, 1) := by decide +kernel
theorem dWr_missingIn_25 : decode kWr_missingIn 25 = .ok (.invokevirtual 50, 3) := by decide +kernel
theorem dWr_missingIn_28 : decode kWr_missingIn 28 = .ok (.aload_n 1, 1) := by decide +kernel
theorem dWr_missingIn_29 : decode kWr_missingIn 29 = .ok (.aload_n 0, 1) := by decide +kernel
theorem dWr_missingIn_30 : decode kWr_missingIn 30 = .ok (.getfield 12, 3) := by decide +kernel
theorem dWr_missingIn_33 : decode kWr_missingIn 33 = .ok (.invokevirtual 54, 3) := by decide +kernel
theorem dWr_missingIn_36 : decode kWr_missingIn 36 = .ok (.ifCond .ne 6, 3) := by decide +kernel
theorem dWr_missingIn_39 : decode kWr_missingIn 39 = .ok (.iinc 4 1, 3) := by decide +kernel
theorem dWr_missingIn_42 : decode kWr_missingIn 42 = .ok (.iinc 5 1, 3) := by decide +kernel
theorem dWr_missingIn_45 : decode kWr_missingIn 45 = .ok (.goto (-39), 3) := by decide +kernel
theorem dWr_missingIn_48 : decode kWr_missingIn 48 = .ok (.iload 4, 2) := by decide +kernel
theorem dWr_missingIn_50 : decode kWr_missingIn 50 = .ok (.ireturn, 1) := by decide +kernel
theorem dWr_fill_0 : decode kWr_fill 0 = .ok (.iconst 0, 1) := by decide +kernel
theorem dWr_fill_1 : decode kWr_fill 1 = .ok (.istore 5, 2) := by decide +kernel
theorem dWr_fill_3 : decode kWr_fill 3 = .ok (.iconst 0, 1) := by decide +kernel
theorem dWr_fill_4 : decode kWr_fill 4 = .ok (.istore 6, 2) := by decide +kernel
theorem dWr_fill_6 : decode kWr_fill 6 = .ok (.iload 6, 2) := by decide +kernel
theorem dWr_fill_8 : decode kWr_fill 8 = .ok (.aload_n 2, 1) := by decide +kernel
theorem dWr_fill_9 : decode kWr_fill 9 = .ok (.getfield 32, 3) := by decide +kernel
theorem dWr_fill_12 : decode kWr_fill 12 = .ok (.aload_n 3, 1) := by decide +kernel
theorem dWr_fill_13 : decode kWr_fill 13 = .ok (.getfield 37, 3) := by decide +kernel
theorem dWr_fill_16 : decode kWr_fill 16 = .ok (.iadd, 1) := by decide +kernel
theorem dWr_fill_17 : decode kWr_fill 17 = .ok (.if_icmp .ge 67, 3) := by decide +kernel
theorem dWr_fill_20 : decode kWr_fill 20 = .ok (.aload_n 0, 1) := by decide +kernel
theorem dWr_fill_21 : decode kWr_fill 21 = .ok (.iload 6, 2) := by decide +kernel
theorem dWr_fill_23 : decode kWr_fill 23 = .ok (.aload_n 2, 1) := by decide +kernel
theorem dWr_fill_24 : decode kWr_fill 24 = .ok (.aload_n 3, 1) := by decide +kernel
theorem dWr_fill_25 : decode kWr_fill 25 = .ok (.invokevirtual 50, 3) := by decide +kernel
theorem dWr_fill_28 : decode kWr_fill 28 = .ok (.aload_n 1, 1) := by decide +kernel
theorem dWr_fill_29 : decode kWr_fill 29 = .ok (.aload_n 0, 1) := by decide +kernel
theorem dWr_fill_30 : decode kWr_fill 30 = .ok (.getfield 12, 3) := by decide +kernel
theorem dWr_fill_33 : decode kWr_fill 33 = .ok (.invokevirtual 54, 3) := by decide +kernel
theorem dWr_fill_36 : decode kWr_fill 36 = .ok (.ifCond .eq 6, 3) := by decide +kernel
theorem dWr_fill_39 : decode kWr_fill 39 = .ok (.goto 39, 3) := by decide +kernel
theorem dWr_fill_42 : decode kWr_fill 42 = .ok (.iload 5, 2) := by decide +kernel
theorem dWr_fill_44 : decode kWr_fill 44 = .ok (.iload 4, 2) := by decide +kernel
theorem dWr_fill_46 : decode kWr_fill 46 = .ok (.if_icmp .ne 21, 3) := by decide +kernel
theorem dWr_fill_49 : decode kWr_fill 49 = .ok (.aload_n 0, 1) := by decide +kernel
theorem dWr_fill_50 : decode kWr_fill 50 = .ok (.getfield 12, 3) := by decide +kernel
theorem dWr_fill_53 : decode kWr_fill 53 = .ok (.invokevirtual 60, 3) := by decide +kernel
theorem dWr_fill_56 : decode kWr_fill 56 = .ok (.aload_n 1, 1) := by decide +kernel
theorem dWr_fill_57 : decode kWr_fill 57 = .ok (.aload_n 0, 1) := by decide +kernel
theorem dWr_fill_58 : decode kWr_fill 58 = .ok (.getfield 12, 3) := by decide +kernel
theorem dWr_fill_61 : decode kWr_fill 61 = .ok (.invokevirtual 63, 3) := by decide +kernel
theorem dWr_fill_64 : decode kWr_fill 64 = .ok (.goto 20, 3) := by decide +kernel
theorem dWr_fill_67 : decode kWr_fill 67 = .ok (.aload_n 1, 1) := by decide +kernel
theorem dWr_fill_68 : decode kWr_fill 68 = .ok (.aload_n 0, 1) := by decide +kernel
theorem dWr_fill_69 : decode kWr_fill 69 = .ok (.getfield 12, 3) := by decide +kernel
theorem dWr_fill_72 : decode kWr_fill 72 = .ok (.invokevirtual 63, 3) := by decide +kernel
theorem dWr_fill_75 : decode kWr_fill 75 = .ok (.iinc 5 1, 3) := by decide +kernel
theorem dWr_fill_78 : decode kWr_fill 78 = .ok (.iinc 6 1, 3) := by decide +kernel
theorem dWr_fill_81 : decode kWr_fill 81 = .ok (.goto (-75), 3) := by decide +kernel
theorem dWr_fill_84 : decode kWr_fill 84 = .ok (.iload 5, 2) := by decide +kernel
theorem dWr_fill_86 : decode kWr_fill 86 = .ok (.ireturn, 1) := by decide +kernel
end
section
theorem dEq_init_0 : decode kEq_init 0 = .ok (.aload_n 0, 1) := by decide +kernel
theorem dEq_init_1 : decode kEq_init 1 = .ok (.invokespecial 3, 3) := by decide +kernel
theorem dEq_init_4 : decode kEq_init 4 = .ok (.aload_n 0, 1) := by decide +kernel
theorem dEq_init_5 : decode kEq_init 5 = .ok (.iconst 3, 1) := by decide +kernel
theorem dEq_init_6 : decode kEq_init 6 = .ok (.bipush 83, 2) := by decide +kernel
theorem dEq_init_8 : decode kEq_init 8 = .ok (.multianewarray 9 2, 4) := by decide +kernel
theorem dEq_init_12 : decode kEq_init 12 = .ok (.putfield 11, 3) := by decide +kernel
theorem dEq_init_15 : decode kEq_init 15 = .ok (.aload_n 0, 1) := by decide +kernel
theorem dEq_init_16 : decode kEq_init 16 = .ok (.iconst 3, 1) := by decide +kernel
theorem dEq_init_17 : decode kEq_init 17 = .ok (.newarray .int, 2) := by decide +kernel
theorem dEq_init_19 : decode kEq_init 19 = .ok (.putfield 16, 3) := by decide +kernel
theorem dEq_init_22 : decode kEq_init 22 = .ok (.return_, 1) := by decide +kernel
theorem dEq_forgetAll_0 : decode kEq_forgetAll 0 = .ok (.aload_n 0, 1) := by decide +kernel
theorem dEq_forgetAll_1 : decode kEq_forgetAll 1 = .ok (.iconst 0, 1) := by decide +kernel
theorem dEq_forgetAll_2 : decode kEq_forgetAll 2 = .ok (.putfield 20, 3) := by decide +kernel
theorem dEq_forgetAll_5 : decode kEq_forgetAll 5 = .ok (.aload_n 0, 1) := by decide +kernel
theorem dEq_forgetAll_6 : decode kEq_forgetAll 6 = .ok (.iconst 0, 1) := by decide +kernel
theorem dEq_forgetAll_7 : decode kEq_forgetAll 7 = .ok (.putfield 24, 3) := by decide +kernel
theorem dEq_forgetAll_10 : decode kEq_forgetAll 10 = .ok (.return_, 1) := by decide +kernel
theorem dEq_addUnknown_0 : decode kEq_addUnknown 0 = .ok (.aload_n 0, 1) := by decide +kernel
theorem dEq_addUnknown_1 : decode kEq_addUnknown 1 = .ok (.getfield 20, 3) := by decide +kernel
theorem dEq_addUnknown_4 : decode kEq_addUnknown 4 = .ok (.iconst 3, 1) := by decide +kernel
theorem dEq_addUnknown_5 : decode kEq_addUnknown 5 = .ok (.if_icmp .ge 23, 3) := by decide +kernel
theorem dEq_addUnknown_8 : decode kEq_addUnknown 8 = .ok (.aload_n 0, 1) := by decide +kernel
theorem dEq_addUnknown_9 : decode kEq_addUnknown 9 = .ok (.getfield 16, 3) := by decide +kernel
theorem dEq_addUnknown_12 : decode kEq_addUnknown 12 = .ok (.aload_n 0, 1) := by decide +kernel
theorem dEq_addUnknown_13 : decode kEq_addUnknown 13 = .ok (.getfield 20, 3) := by decide +kernel
theorem dEq_addUnknown_16 : decode kEq_addUnknown 16 = .ok (.iload_n 1, 1) := by decide +kernel
theorem dEq_addUnknown_17 : decode kEq_addUnknown 17 = .ok (.iastore, 1) := by decide +kernel
theorem dEq_addUnknown_18 : decode kEq_addUnknown 18 = .ok (.aload_n 0, 1) := by decide +kernel
theorem dEq_addUnknown_19 : decode kEq_addUnknown 19 = .ok (.dup, 1) := by decide +kernel
theorem dEq_addUnknown_20 : decode kEq_addUnknown 20 = .ok (.getfield 20, 3) := by decide +kernel
theorem dEq_addUnknown_23 : decode kEq_addUnknown 23 = .ok (.iconst 1, 1) := by decide +kernel
theorem dEq_addUnknown_24 : decode kEq_addUnknown 24 = .ok (.iadd, 1) := by decide +kernel
theorem dEq_addUnknown_25 : decode kEq_addUnknown 25 = .ok (.putfield 20, 3) := by decide +kernel
theorem dEq_addUnknown_28 : decode kEq_addUnknown 28 = .ok (.return_, 1) := by decide +kernel
theorem dEq_addRepair_0 : decode kEq_addRepair 0 = .ok (.aload_n 0, 1) := by decide +kernel
theorem dEq_addRepair_1 : decode kEq_addRepair 1 = .ok (.getfield 24, 3) := by decide +kernel
theorem dEq_addRepair_4 : decode kEq_addRepair 4 = .ok (.iconst 3, 1) := by decide +kernel
theorem dEq_addRepair_5 : decode kEq_addRepair 5 = .ok (.if_icmp .lt 4, 3) := by decide +kernel
theorem dEq_addRepair_8 : decode kEq_addRepair 8 = .ok (.return_, 1) := by decide +kernel
theorem dEq_addRepair_9 : decode kEq_addRepair 9 = .ok (.aload_n 0, 1) := by decide +kernel
theorem dEq_addRepair_10 : decode kEq_addRepair 10 = .ok (.getfield 11, 3) := by decide +kernel
theorem dEq_addRepair_13 : decode kEq_addRepair 13 = .ok (.aload_n 0, 1) := by decide +kernel
theorem dEq_addRepair_14 : decode kEq_addRepair 14 = .ok (.getfield 24, 3) := by decide +kernel
theorem dEq_addRepair_17 : decode kEq_addRepair 17 = .ok (.aaload, 1) := by decide +kernel
theorem dEq_addRepair_18 : decode kEq_addRepair 18 = .ok (.astore 4, 2) := by decide +kernel
theorem dEq_addRepair_20 : decode kEq_addRepair 20 = .ok (.iconst 0, 1) := by decide +kernel
theorem dEq_addRepair_21 : decode kEq_addRepair 21 = .ok (.istore 5, 2) := by decide +kernel
theorem dEq_addRepair_23 : decode kEq_addRepair 23 = .ok (.iload 5, 2) := by decide +kernel
theorem dEq_addRepair_25 : decode kEq_addRepair 25 = .ok (.aload_n 0, 1) := by decide +kernel
theorem dEq_addRepair_26 : decode kEq_addRepair 26 = .ok (.getfield 20, 3) := by decide +kernel
theorem dEq_addRepair_29 : decode kEq_addRepair 29 = .ok (.if_icmp .ge 27, 3) := by decide +kernel
theorem dEq_addRepair_32 : decode kEq_addRepair 32 = .ok (.aload 4, 2) := by decide +kernel
theorem dEq_addRepair_34 : decode kEq_addRepair 34 = .ok (.iload 5, 2) := by decide +kernel
theorem dEq_addRepair_36 : decode kEq_addRepair 36 = .ok (.iconst 1, 1) := by decide +kernel
theorem dEq_addRepair_37 : decode kEq_addRepair 37 = .ok (.iload_n 1, 1) := by decide +kernel
theorem dEq_addRepair_38 : decode kEq_addRepair 38 = .ok (.aload_n 0, 1) := by decide +kernel
theorem dEq_addRepair_39 : decode kEq_addRepair 39 = .ok (.getfield 16, 3) := by decide +kernel
theorem dEq_addRepair_42 : decode kEq_addRepair 42 = .ok (.iload 5, 2) := by decide +kernel
theorem dEq_addRepair_44 : decode kEq_addRepair 44 = .ok (.iaload, 1) := by decide +kernel
theorem dEq_addRepair_45 : decode kEq_addRepair 45 = .ok (.imul, 1) := by decide +kernel
theorem dEq_addRepair_46 : decode kEq_addRepair 46 = .ok (.invokestatic 27, 3) := by decide +kernel
theorem dEq_addRepair_49 : decode kEq_addRepair 49 = .ok (.iastore, 1) := by decide +kernel
theorem dEq_addRepair_50 : decode kEq_addRepair 50 = .ok (.iinc 5 1, 3) := by decide +kernel
theorem dEq_addRepair_53 : decode kEq_addRepair 53 = .ok (.goto (-30), 3) := by decide +kernel
theorem dEq_addRepair_56 : decode kEq_addRepair 56 = .ok (.bipush 6, 2) := by decide +kernel
theorem dEq_addRepair_58 : decode kEq_addRepair 58 = .ok (.istore 5, 2) := by decide +kernel
theorem dEq_addRepair_60 : decode kEq_addRepair 60 = .ok (.iload 5, 2) := by decide +kernel
theorem dEq_addRepair_62 : decode kEq_addRepair 62 = .ok (.aload_n 2, 1) := by decide +kernel
theorem dEq_addRepair_63 : decode kEq_addRepair 63 = .ok (.getfield 33, 3) := by decide +kernel
theorem dEq_addRepair_66 : decode kEq_addRepair 66 = .ok (.if_icmp .ge 37, 3) := by decide +kernel
theorem dEq_addRepair_69 : decode kEq_addRepair 69 = .ok (.iload 5, 2) := by decide +kernel
theorem dEq_addRepair_71 : decode kEq_addRepair 71 = .ok (.bipush 80, 2) := by decide +kernel
theorem dEq_addRepair_73 : decode kEq_addRepair 73 = .ok (.if_icmp .ge 30, 3) := by decide +kernel
theorem dEq_addRepair_76 : decode kEq_addRepair 76 = .ok (.aload 4, 2) := by decide +kernel
theorem dEq_addRepair_78 : decode kEq_addRepair 78 = .ok (.iconst 3, 1) := by decide +kernel
theorem dEq_addRepair_79 : decode kEq_addRepair 79 = .ok (.iload 5, 2) := by decide +kernel
theorem dEq_addRepair_81 : decode kEq_addRepair 81 = .ok (.iadd, 1) := by decide +kernel
theorem dEq_addRepair_82 : decode kEq_addRepair 82 = .ok (.aload_n 2, 1) := by decide +kernel
theorem dEq_addRepair_83 : decode kEq_addRepair 83 = .ok (.iload 5, 2) := by decide +kernel
theorem dEq_addRepair_85 : decode kEq_addRepair 85 = .ok (.invokevirtual 38, 3) := by decide +kernel
theorem dEq_addRepair_88 : decode kEq_addRepair 88 = .ok (.aload_n 3, 1) := by decide +kernel
theorem dEq_addRepair_89 : decode kEq_addRepair 89 = .ok (.iload_n 1, 1) := by decide +kernel
theorem dEq_addRepair_90 : decode kEq_addRepair 90 = .ok (.iload 5, 2) := by decide +kernel
theorem dEq_addRepair_92 : decode kEq_addRepair 92 = .ok (.invokevirtual 42, 3) := by decide +kernel
theorem dEq_addRepair_95 : decode kEq_addRepair 95 = .ok (.ixor, 1) := by decide +kernel
theorem dEq_addRepair_96 : decode kEq_addRepair 96 = .ok (.iastore, 1) := by decide +kernel
theorem dEq_addRepair_97 : decode kEq_addRepair 97 = .ok (.iinc 5 1, 3) := by decide +kernel
theorem dEq_addRepair_100 : decode kEq_addRepair 100 = .ok (.goto (-40), 3) := by decide +kernel
theorem dEq_addRepair_103 : decode kEq_addRepair 103 = .ok (.aload_n 0, 1) := by decide +kernel
theorem dEq_addRepair_104 : decode kEq_addRepair 104 = .ok (.dup, 1) := by decide +kernel
theorem dEq_addRepair_105 : decode kEq_addRepair 105 = .ok (.getfield 24, 3) := by decide +kernel
theorem dEq_addRepair_108 : decode kEq_addRepair 108 = .ok (.iconst 1, 1) := by decide +kernel
theorem dEq_addRepair_109 : decode kEq_addRepair 109 = .ok (.iadd, 1) := by decide +kernel
theorem dEq_addRepair_110 : decode kEq_addRepair 110 = .ok (.putfield 24, 3) := by decide +kernel
theorem dEq_addRepair_113 : decode kEq_addRepair 113 = .ok (.return_, 1) := by decide +kernel
theorem dEq_solve_0 : decode kEq_solve 0 = .ok (.iconst 0, 1) := by decide +kernel
theorem dEq_solve_1 : decode kEq_solve 1 = .ok (.istore_n 1, 1) := by decide +kernel
theorem dEq_solve_2 : decode kEq_solve 2 = .ok (.iload_n 1, 1) := by decide +kernel
theorem dEq_solve_3 : decode kEq_solve 3 = .ok (.aload_n 0, 1) := by decide +kernel
theorem dEq_solve_4 : decode kEq_solve 4 = .ok (.getfield 20, 3) := by decide +kernel
theorem dEq_solve_7 : decode kEq_solve 7 = .ok (.if_icmp .ge 60, 3) := by decide +kernel
theorem dEq_solve_10 : decode kEq_solve 10 = .ok (.aload_n 0, 1) := by decide +kernel
theorem dEq_solve_11 : decode kEq_solve 11 = .ok (.iload_n 1, 1) := by decide +kernel
theorem dEq_solve_12 : decode kEq_solve 12 = .ok (.aload_n 0, 1) := by decide +kernel
theorem dEq_solve_13 : decode kEq_solve 13 = .ok (.getfield 11, 3) := by decide +kernel
theorem dEq_solve_16 : decode kEq_solve 16 = .ok (.iload_n 1, 1) := by decide +kernel
theorem dEq_solve_17 : decode kEq_solve 17 = .ok (.aaload, 1) := by decide +kernel
theorem dEq_solve_18 : decode kEq_solve 18 = .ok (.iload_n 1, 1) := by decide +kernel
theorem dEq_solve_19 : decode kEq_solve 19 = .ok (.iaload, 1) := by decide +kernel
theorem dEq_solve_20 : decode kEq_solve 20 = .ok (.invokestatic 47, 3) := by decide +kernel
theorem dEq_solve_23 : decode kEq_solve 23 = .ok (.invokevirtual 50, 3) := by decide +kernel
theorem dEq_solve_26 : decode kEq_solve 26 = .ok (.iconst 0, 1) := by decide +kernel
theorem dEq_solve_27 : decode kEq_solve 27 = .ok (.istore_n 2, 1) := by decide +kernel
theorem dEq_solve_28 : decode kEq_solve 28 = .ok (.iload_n 2, 1) := by decide +kernel
theorem dEq_solve_29 : decode kEq_solve 29 = .ok (.aload_n 0, 1) := by decide +kernel
theorem dEq_solve_30 : decode kEq_solve 30 = .ok (.getfield 20, 3) := by decide +kernel
theorem dEq_solve_33 : decode kEq_solve 33 = .ok (.if_icmp .ge 28, 3) := by decide +kernel
theorem dEq_solve_36 : decode kEq_solve 36 = .ok (.iload_n 2, 1) := by decide +kernel
theorem dEq_solve_37 : decode kEq_solve 37 = .ok (.iload_n 1, 1) := by decide +kernel
theorem dEq_solve_38 : decode kEq_solve 38 = .ok (.if_icmp .eq 17, 3) := by decide +kernel
theorem dEq_solve_41 : decode kEq_solve 41 = .ok (.aload_n 0, 1) := by decide +kernel
theorem dEq_solve_42 : decode kEq_solve 42 = .ok (.iload_n 2, 1) := by decide +kernel
theorem dEq_solve_43 : decode kEq_solve 43 = .ok (.iload_n 1, 1) := by decide +kernel
theorem dEq_solve_44 : decode kEq_solve 44 = .ok (.aload_n 0, 1) := by decide +kernel
theorem dEq_solve_45 : decode kEq_solve 45 = .ok (.getfield 11, 3) := by decide +kernel
theorem dEq_solve_48 : decode kEq_solve 48 = .ok (.iload_n 2, 1) := by decide +kernel
theorem dEq_solve_49 : decode kEq_solve 49 = .ok (.aaload, 1) := by decide +kernel
theorem dEq_solve_50 : decode kEq_solve 50 = .ok (.iload_n 1, 1) := by decide +kernel
theorem dEq_solve_51 : decode kEq_solve 51 = .ok (.iaload, 1) := by decide +kernel
theorem dEq_solve_52 : decode kEq_solve 52 = .ok (.invokevirtual 54, 3) := by decide +kernel
theorem dEq_solve_55 : decode kEq_solve 55 = .ok (.iinc 2 1, 3) := by decide +kernel
theorem dEq_solve_58 : decode kEq_solve 58 = .ok (.goto (-30), 3) := by decide +kernel
theorem dEq_solve_61 : decode kEq_solve 61 = .ok (.iinc 1 1, 3) := by decide +kernel
theorem dEq_solve_64 : decode kEq_solve 64 = .ok (.goto (-62), 3) := by decide +kernel
theorem dEq_solve_67 : decode kEq_solve 67 = .ok (.return_, 1) := by decide +kernel
theorem dEq_scale_0 : decode kEq_scale 0 = .ok (.aload_n 0, 1) := by decide +kernel
theorem dEq_scale_1 : decode kEq_scale 1 = .ok (.getfield 11, 3) := by decide +kernel
theorem dEq_scale_4 : decode kEq_scale 4 = .ok (.iload_n 1, 1) := by decide +kernel
theorem dEq_scale_5 : decode kEq_scale 5 = .ok (.aaload, 1) := by decide +kernel
theorem dEq_scale_6 : decode kEq_scale 6 = .ok (.astore_n 3, 1) := by decide +kernel
theorem dEq_scale_7 : decode kEq_scale 7 = .ok (.iconst 0, 1) := by decide +kernel
theorem dEq_scale_8 : decode kEq_scale 8 = .ok (.istore 4, 2) := by decide +kernel
theorem dEq_scale_10 : decode kEq_scale 10 = .ok (.iload 4, 2) := by decide +kernel
theorem dEq_scale_12 : decode kEq_scale 12 = .ok (.aload_n 3, 1) := by decide +kernel
theorem dEq_scale_13 : decode kEq_scale 13 = .ok (.arraylength, 1) := by decide +kernel
theorem dEq_scale_14 : decode kEq_scale 14 = .ok (.if_icmp .ge 21, 3) := by decide +kernel
theorem dEq_scale_17 : decode kEq_scale 17 = .ok (.aload_n 3, 1) := by decide +kernel
theorem dEq_scale_18 : decode kEq_scale 18 = .ok (.iload 4, 2) := by decide +kernel
theorem dEq_scale_20 : decode kEq_scale 20 = .ok (.aload_n 3, 1) := by decide +kernel
theorem dEq_scale_21 : decode kEq_scale 21 = .ok (.iload 4, 2) := by decide +kernel
theorem dEq_scale_23 : decode kEq_scale 23 = .ok (.iaload, 1) := by decide +kernel
theorem dEq_scale_24 : decode kEq_scale 24 = .ok (.iload_n 2, 1) := by decide +kernel
theorem dEq_scale_25 : decode kEq_scale 25 = .ok (.invokestatic 58, 3) := by decide +kernel
theorem dEq_scale_28 : decode kEq_scale 28 = .ok (.iastore, 1) := by decide +kernel
theorem dEq_scale_29 : decode kEq_scale 29 = .ok (.iinc 4 1, 3) := by decide +kernel
theorem dEq_scale_32 : decode kEq_scale 32 = .ok (.goto (-22), 3) := by decide +kernel
theorem dEq_scale_35 : decode kEq_scale 35 = .ok (.return_, 1) := by decide +kernel
theorem dEq_addTo_0 : decode kEq_addTo 0 = .ok (.aload_n 0, 1) := by decide +kernel
theorem dEq_addTo_1 : decode kEq_addTo 1 = .ok (.getfield 11, 3) := by decide +kernel
theorem dEq_addTo_4 : decode kEq_addTo 4 = .ok (.iload_n 1, 1) := by decide +kernel
theorem dEq_addTo_5 : decode kEq_addTo 5 = .ok (.aaload, 1) := by decide +kernel
theorem dEq_addTo_6 : decode kEq_addTo 6 = .ok (.astore 4, 2) := by decide +kernel
theorem dEq_addTo_8 : decode kEq_addTo 8 = .ok (.iconst 0, 1) := by decide +kernel
theorem dEq_addTo_9 : decode kEq_addTo 9 = .ok (.istore 5, 2) := by decide +kernel
theorem dEq_addTo_11 : decode kEq_addTo 11 = .ok (.iload 5, 2) := by decide +kernel
theorem dEq_addTo_13 : decode kEq_addTo 13 = .ok (.aload 4, 2) := by decide +kernel
theorem dEq_addTo_15 : decode kEq_addTo 15 = .ok (.arraylength, 1) := by decide +kernel
theorem dEq_addTo_16 : decode kEq_addTo 16 = .ok (.if_icmp .ge 30, 3) := by decide +kernel
theorem dEq_addTo_19 : decode kEq_addTo 19 = .ok (.aload 4, 2) := by decide +kernel
theorem dEq_addTo_21 : decode kEq_addTo 21 = .ok (.iload 5, 2) := by decide +kernel
theorem dEq_addTo_23 : decode kEq_addTo 23 = .ok (.dup2, 1) := by decide +kernel
theorem dEq_addTo_24 : decode kEq_addTo 24 = .ok (.iaload, 1) := by decide +kernel
theorem dEq_addTo_25 : decode kEq_addTo 25 = .ok (.aload_n 0, 1) := by decide +kernel
theorem dEq_addTo_26 : decode kEq_addTo 26 = .ok (.getfield 11, 3) := by decide +kernel
theorem dEq_addTo_29 : decode kEq_addTo 29 = .ok (.iload_n 2, 1) := by decide +kernel
theorem dEq_addTo_30 : decode kEq_addTo 30 = .ok (.aaload, 1) := by decide +kernel
theorem dEq_addTo_31 : decode kEq_addTo 31 = .ok (.iload 5, 2) := by decide +kernel
theorem dEq_addTo_33 : decode kEq_addTo 33 = .ok (.iaload, 1) := by decide +kernel
theorem dEq_addTo_34 : decode kEq_addTo 34 = .ok (.iload_n 3, 1) := by decide +kernel
theorem dEq_addTo_35 : decode kEq_addTo 35 = .ok (.invokestatic 58, 3) := by decide +kernel
theorem dEq_addTo_38 : decode kEq_addTo 38 = .ok (.ixor, 1) := by decide +kernel
theorem dEq_addTo_39 : decode kEq_addTo 39 = .ok (.iastore, 1) := by decide +kernel
theorem dEq_addTo_40 : decode kEq_addTo 40 = .ok (.iinc 5 1, 3) := by decide +kernel
theorem dEq_addTo_43 : decode kEq_addTo 43 = .ok (.goto (-32), 3) := by decide +kernel
theorem dEq_addTo_46 : decode kEq_addTo 46 = .ok (.return_, 1) := by decide +kernel
theorem dEq_numberOf_0 : decode kEq_numberOf 0 = .ok (.iload_n 1, 1) := by decide +kernel
theorem dEq_numberOf_1 : decode kEq_numberOf 1 = .ok (.ifCond .lt 8, 3) := by decide +kernel
theorem dEq_numberOf_4 : decode kEq_numberOf 4 = .ok (.iload_n 1, 1) := by decide +kernel
theorem dEq_numberOf_5 : decode kEq_numberOf 5 = .ok (.iconst 3, 1) := by decide +kernel
theorem dEq_numberOf_6 : decode kEq_numberOf 6 = .ok (.if_icmp .lt 7, 3) := by decide +kernel
theorem dEq_numberOf_9 : decode kEq_numberOf 9 = .ok (.iconst 0, 1) := by decide +kernel
theorem dEq_numberOf_10 : decode kEq_numberOf 10 = .ok (.goto 9, 3) := by decide +kernel
theorem dEq_numberOf_13 : decode kEq_numberOf 13 = .ok (.aload_n 0, 1) := by decide +kernel
theorem dEq_numberOf_14 : decode kEq_numberOf 14 = .ok (.getfield 16, 3) := by decide +kernel
theorem dEq_numberOf_17 : decode kEq_numberOf 17 = .ok (.iload_n 1, 1) := by decide +kernel
theorem dEq_numberOf_18 : decode kEq_numberOf 18 = .ok (.iaload, 1) := by decide +kernel
theorem dEq_numberOf_19 : decode kEq_numberOf 19 = .ok (.ireturn, 1) := by decide +kernel
theorem dEq_byteOfUnknown_0 : decode kEq_byteOfUnknown 0 = .ok (.iload_n 1, 1) := by decide +kernel
theorem dEq_byteOfUnknown_1 : decode kEq_byteOfUnknown 1 = .ok (.ifCond .lt 18, 3) := by decide +kernel
theorem dEq_byteOfUnknown_4 : decode kEq_byteOfUnknown 4 = .ok (.iload_n 1, 1) := by decide +kernel
theorem dEq_byteOfUnknown_5 : decode kEq_byteOfUnknown 5 = .ok (.iconst 3, 1) := by decide +kernel
theorem dEq_byteOfUnknown_6 : decode kEq_byteOfUnknown 6 = .ok (.if_icmp .ge 13, 3) := by decide +kernel
theorem dEq_byteOfUnknown_9 : decode kEq_byteOfUnknown 9 = .ok (.iload_n 2, 1) := by decide +kernel
theorem dEq_byteOfUnknown_10 : decode kEq_byteOfUnknown 10 = .ok (.ifCond .lt 9, 3) := by decide +kernel
theorem dEq_byteOfUnknown_13 : decode kEq_byteOfUnknown 13 = .ok (.iload_n 2, 1) := by decide +kernel
theorem dEq_byteOfUnknown_14 : decode kEq_byteOfUnknown 14 = .ok (.bipush 80, 2) := by decide +kernel
theorem dEq_byteOfUnknown_16 : decode kEq_byteOfUnknown 16 = .ok (.if_icmp .lt 7, 3) := by decide +kernel
theorem dEq_byteOfUnknown_19 : decode kEq_byteOfUnknown 19 = .ok (.iconst 0, 1) := by decide +kernel
theorem dEq_byteOfUnknown_20 : decode kEq_byteOfUnknown 20 = .ok (.goto 13, 3) := by decide +kernel
theorem dEq_byteOfUnknown_23 : decode kEq_byteOfUnknown 23 = .ok (.aload_n 0, 1) := by decide +kernel
theorem dEq_byteOfUnknown_24 : decode kEq_byteOfUnknown 24 = .ok (.getfield 11, 3) := by decide +kernel
theorem dEq_byteOfUnknown_27 : decode kEq_byteOfUnknown 27 = .ok (.iload_n 1, 1) := by decide +kernel
theorem dEq_byteOfUnknown_28 : decode kEq_byteOfUnknown 28 = .ok (.aaload, 1) := by decide +kernel
theorem dEq_byteOfUnknown_29 : decode kEq_byteOfUnknown 29 = .ok (.iconst 3, 1) := by decide +kernel
theorem dEq_byteOfUnknown_30 : decode kEq_byteOfUnknown 30 = .ok (.iload_n 2, 1) := by decide +kernel
theorem dEq_byteOfUnknown_31 : decode kEq_byteOfUnknown 31 = .ok (.iadd, 1) := by decide +kernel
theorem dEq_byteOfUnknown_32 : decode kEq_byteOfUnknown 32 = .ok (.iaload, 1) := by decide +kernel
theorem dEq_byteOfUnknown_33 : decode kEq_byteOfUnknown 33 = .ok (.ireturn, 1) := by decide +kernel
theorem dRd_init_0 : decode kRd_init 0 = .ok (.aload_n 0, 1) := by decide +kernel
theorem dRd_init_1 : decode kRd_init 1 = .ok (.invokespecial 3, 3) := by decide +kernel
theorem dRd_init_4 : decode kRd_init 4 = .ok (.aload_n 0, 1) := by decide +kernel
theorem dRd_init_5 : decode kRd_init 5 = .ok (.new 9, 3) := by decide +kernel
theorem dRd_init_8 : decode kRd_init 8 = .ok (.dup, 1) := by decide +kernel
theorem dRd_init_9 : decode kRd_init 9 = .ok (.sipush 4080, 3) := by decide +kernel
theorem dRd_init_12 : decode kRd_init 12 = .ok (.invokespecial 11, 3) := by decide +kernel
theorem dRd_init_15 : decode kRd_init 15 = .ok (.putfield 14, 3) := by decide +kernel
theorem dRd_init_18 : decode kRd_init 18 = .ok (.aload_n 0, 1) := by decide +kernel
theorem dRd_init_19 : decode kRd_init 19 = .ok (.bipush 63, 2) := by decide +kernel
theorem dRd_init_21 : decode kRd_init 21 = .ok (.newarray .int, 2) := by decide +kernel
theorem dRd_init_23 : decode kRd_init 23 = .ok (.putfield 20, 3) := by decide +kernel
theorem dRd_init_26 : decode kRd_init 26 = .ok (.aload_n 0, 1) := by decide +kernel
theorem dRd_init_27 : decode kRd_init 27 = .ok (.new 24, 3) := by decide +kernel
theorem dRd_init_30 : decode kRd_init 30 = .ok (.dup, 1) := by decide +kernel
theorem dRd_init_31 : decode kRd_init 31 = .ok (.invokespecial 26, 3) := by decide +kernel
theorem dRd_init_34 : decode kRd_init 34 = .ok (.putfield 27, 3) := by decide +kernel
theorem dRd_init_37 : decode kRd_init 37 = .ok (.return_, 1) := by decide +kernel
theorem dRd_gather_0 : decode kRd_gather 0 = .ok (.aload_n 1, 1) := by decide +kernel
theorem dRd_gather_1 : decode kRd_gather 1 = .ok (.iload_n 2, 1) := by decide +kernel
theorem dRd_gather_2 : decode kRd_gather 2 = .ok (.invokevirtual 31, 3) := by decide +kernel
theorem dRd_gather_5 : decode kRd_gather 5 = .ok (.astore_n 3, 1) := by decide +kernel
theorem dRd_gather_6 : decode kRd_gather 6 = .ok (.aload_n 0, 1) := by decide +kernel
theorem dRd_gather_7 : decode kRd_gather 7 = .ok (.aload_n 3, 1) := by decide +kernel
theorem dRd_gather_8 : decode kRd_gather 8 = .ok (.ifnull 7, 3) := by decide +kernel
theorem dRd_gather_11 : decode kRd_gather 11 = .ok (.iconst 1, 1) := by decide +kernel
theorem dRd_gather_12 : decode kRd_gather 12 = .ok (.goto 4, 3) := by decide +kernel
theorem dRd_gather_15 : decode kRd_gather 15 = .ok (.iconst 0, 1) := by decide +kernel
theorem dRd_gather_16 : decode kRd_gather 16 = .ok (.putfield 37, 3) := by decide +kernel
theorem dRd_gather_19 : decode kRd_gather 19 = .ok (.aload_n 3, 1) := by decide +kernel
theorem dRd_gather_20 : decode kRd_gather 20 = .ok (.ifnonnull 6, 3) := by decide +kernel
theorem dRd_gather_23 : decode kRd_gather 23 = .ok (.bipush (-2), 2) := by decide +kernel
theorem dRd_gather_25 : decode kRd_gather 25 = .ok (.ireturn, 1) := by decide +kernel
theorem dRd_gather_26 : decode kRd_gather 26 = .ok (.aload_n 0, 1) := by decide +kernel
theorem dRd_gather_27 : decode kRd_gather 27 = .ok (.aload_n 3, 1) := by decide +kernel
theorem dRd_gather_28 : decode kRd_gather 28 = .ok (.invokevirtual 41, 3) := by decide +kernel
theorem dRd_gather_31 : decode kRd_gather 31 = .ok (.iconst 0, 1) := by decide +kernel
theorem dRd_gather_32 : decode kRd_gather 32 = .ok (.istore 4, 2) := by decide +kernel
theorem dRd_gather_34 : decode kRd_gather 34 = .ok (.iload 4, 2) := by decide +kernel
theorem dRd_gather_36 : decode kRd_gather 36 = .ok (.bipush 60, 2) := by decide +kernel
theorem dRd_gather_38 : decode kRd_gather 38 = .ok (.if_icmp .ge 48, 3) := by decide +kernel
theorem dRd_gather_41 : decode kRd_gather 41 = .ok (.aload_n 1, 1) := by decide +kernel
theorem dRd_gather_42 : decode kRd_gather 42 = .ok (.iload 4, 2) := by decide +kernel
theorem dRd_gather_44 : decode kRd_gather 44 = .ok (.invokevirtual 45, 3) := by decide +kernel
theorem dRd_gather_47 : decode kRd_gather 47 = .ok (.astore 5, 2) := by decide +kernel
theorem dRd_gather_49 : decode kRd_gather 49 = .ok (.aload 5, 2) := by decide +kernel
theorem dRd_gather_51 : decode kRd_gather 51 = .ok (.ifnull 29, 3) := by decide +kernel
theorem dRd_gather_54 : decode kRd_gather 54 = .ok (.aload 5, 2) := by decide +kernel
theorem dRd_gather_56 : decode kRd_gather 56 = .ok (.iload_n 2, 1) := by decide +kernel
theorem dRd_gather_57 : decode kRd_gather 57 = .ok (.invokevirtual 48, 3) := by decide +kernel
theorem dRd_gather_60 : decode kRd_gather 60 = .ok (.ifCond .eq 20, 3) := by decide +kernel
theorem dRd_gather_63 : decode kRd_gather 63 = .ok (.aload 5, 2) := by decide +kernel
theorem dRd_gather_65 : decode kRd_gather 65 = .ok (.aload_n 3, 1) := by decide +kernel
theorem dRd_gather_66 : decode kRd_gather 66 = .ok (.invokevirtual 54, 3) := by decide +kernel
theorem dRd_gather_69 : decode kRd_gather 69 = .ok (.ifCond .eq 11, 3) := by decide +kernel
theorem dRd_gather_72 : decode kRd_gather 72 = .ok (.aload_n 0, 1) := by decide +kernel
theorem dRd_gather_73 : decode kRd_gather 73 = .ok (.aload 5, 2) := by decide +kernel
theorem dRd_gather_75 : decode kRd_gather 75 = .ok (.iload 4, 2) := by decide +kernel
theorem dRd_gather_77 : decode kRd_gather 77 = .ok (.invokevirtual 58, 3) := by decide +kernel
theorem dRd_gather_80 : decode kRd_gather 80 = .ok (.iinc 4 1, 3) := by decide +kernel
theorem dRd_gather_83 : decode kRd_gather 83 = .ok (.goto (-49), 3) := by decide +kernel
theorem dRd_gather_86 : decode kRd_gather 86 = .ok (.aload_n 0, 1) := by decide +kernel
theorem dRd_gather_87 : decode kRd_gather 87 = .ok (.aload_n 1, 1) := by decide +kernel
theorem dRd_gather_88 : decode kRd_gather 88 = .ok (.invokevirtual 62, 3) := by decide +kernel
theorem dRd_gather_91 : decode kRd_gather 91 = .ok (.aload_n 0, 1) := by decide +kernel
theorem dRd_gather_92 : decode kRd_gather 92 = .ok (.getfield 66, 3) := by decide +kernel
theorem dRd_gather_95 : decode kRd_gather 95 = .ok (.aload_n 0, 1) := by decide +kernel
theorem dRd_gather_96 : decode kRd_gather 96 = .ok (.getfield 70, 3) := by decide +kernel
theorem dRd_gather_99 : decode kRd_gather 99 = .ok (.iadd, 1) := by decide +kernel
theorem dRd_gather_100 : decode kRd_gather 100 = .ok (.ireturn, 1) := by decide +kernel
theorem dRd_begin_0 : decode kRd_begin 0 = .ok (.aload_n 0, 1) := by decide +kernel
theorem dRd_begin_1 : decode kRd_begin 1 = .ok (.getfield 14, 3) := by decide +kernel
theorem dRd_begin_4 : decode kRd_begin 4 = .ok (.invokevirtual 73, 3) := by decide +kernel
theorem dRd_begin_7 : decode kRd_begin 7 = .ok (.aload_n 0, 1) := by decide +kernel
theorem dRd_begin_8 : decode kRd_begin 8 = .ok (.getfield 20, 3) := by decide +kernel
theorem dRd_begin_11 : decode kRd_begin 11 = .ok (.bipush (-2), 2) := by decide +kernel
theorem dRd_begin_13 : decode kRd_begin 13 = .ok (.invokestatic 76, 3) := by decide +kernel
theorem dRd_begin_16 : decode kRd_begin 16 = .ok (.aload_n 0, 1) := by decide +kernel
theorem dRd_begin_17 : decode kRd_begin 17 = .ok (.aload_n 1, 1) := by decide +kernel
theorem dRd_begin_18 : decode kRd_begin 18 = .ok (.getfield 82, 3) := by decide +kernel
theorem dRd_begin_21 : decode kRd_begin 21 = .ok (.putfield 85, 3) := by decide +kernel
theorem dRd_begin_24 : decode kRd_begin 24 = .ok (.aload_n 0, 1) := by decide +kernel
theorem dRd_begin_25 : decode kRd_begin 25 = .ok (.aload_n 1, 1) := by decide +kernel
theorem dRd_begin_26 : decode kRd_begin 26 = .ok (.iconst 5, 1) := by decide +kernel
theorem dRd_begin_27 : decode kRd_begin 27 = .ok (.invokevirtual 86, 3) := by decide +kernel
theorem dRd_begin_30 : decode kRd_begin 30 = .ok (.putfield 90, 3) := by decide +kernel
theorem dRd_begin_33 : decode kRd_begin 33 = .ok (.aload_n 0, 1) := by decide +kernel
theorem dRd_begin_34 : decode kRd_begin 34 = .ok (.getfield 14, 3) := by decide +kernel
theorem dRd_begin_37 : decode kRd_begin 37 = .ok (.aload_n 1, 1) := by decide +kernel
theorem dRd_begin_38 : decode kRd_begin 38 = .ok (.iconst 4, 1) := by decide +kernel
theorem dRd_begin_39 : decode kRd_begin 39 = .ok (.invokevirtual 86, 3) := by decide +kernel
theorem dRd_begin_42 : decode kRd_begin 42 = .ok (.putfield 93, 3) := by decide +kernel
theorem dRd_begin_45 : decode kRd_begin 45 = .ok (.aload_n 0, 1) := by decide +kernel
theorem dRd_begin_46 : decode kRd_begin 46 = .ok (.getfield 14, 3) := by decide +kernel
theorem dRd_begin_49 : decode kRd_begin 49 = .ok (.aload_n 0, 1) := by decide +kernel
theorem dRd_begin_50 : decode kRd_begin 50 = .ok (.getfield 85, 3) := by decide +kernel
theorem dRd_begin_53 : decode kRd_begin 53 = .ok (.bipush 12, 2) := by decide +kernel
theorem dRd_begin_55 : decode kRd_begin 55 = .ok (.isub, 1) := by decide +kernel
theorem dRd_begin_56 : decode kRd_begin 56 = .ok (.putfield 96, 3) := by decide +kernel
theorem dRd_begin_59 : decode kRd_begin 59 = .ok (.aload_n 0, 1) := by decide +kernel
theorem dRd_begin_60 : decode kRd_begin 60 = .ok (.iconst 0, 1) := by decide +kernel
theorem dRd_begin_61 : decode kRd_begin 61 = .ok (.putfield 66, 3) := by decide +kernel
theorem dRd_begin_64 : decode kRd_begin 64 = .ok (.aload_n 0, 1) := by decide +kernel
theorem dRd_begin_65 : decode kRd_begin 65 = .ok (.iconst 0, 1) := by decide +kernel
theorem dRd_begin_66 : decode kRd_begin 66 = .ok (.putfield 70, 3) := by decide +kernel
theorem dRd_begin_69 : decode kRd_begin 69 = .ok (.return_, 1) := by decide +kernel
theorem dRd_take_0 : decode kRd_take 0 = .ok (.aload_n 1, 1) := by decide +kernel
theorem dRd_take_1 : decode kRd_take 1 = .ok (.iconst 3, 1) := by decide +kernel
theorem dRd_take_2 : decode kRd_take 2 = .ok (.invokevirtual 86, 3) := by decide +kernel
theorem dRd_take_5 : decode kRd_take 5 = .ok (.istore_n 3, 1) := by decide +kernel
theorem dRd_take_6 : decode kRd_take 6 = .ok (.aload_n 0, 1) := by decide +kernel
theorem dRd_take_7 : decode kRd_take 7 = .ok (.iload_n 3, 1) := by decide +kernel
theorem dRd_take_8 : decode kRd_take 8 = .ok (.invokevirtual 99, 3) := by decide +kernel
theorem dRd_take_11 : decode kRd_take 11 = .ok (.bipush (-2), 2) := by decide +kernel
theorem dRd_take_13 : decode kRd_take 13 = .ok (.if_icmp .eq 4, 3) := by decide +kernel
theorem dRd_take_16 : decode kRd_take 16 = .ok (.return_, 1) := by decide +kernel
theorem dRd_take_17 : decode kRd_take 17 = .ok (.aload_n 0, 1) := by decide +kernel
theorem dRd_take_18 : decode kRd_take 18 = .ok (.iload_n 3, 1) := by decide +kernel
theorem dRd_take_19 : decode kRd_take 19 = .ok (.iload_n 2, 1) := by decide +kernel
theorem dRd_take_20 : decode kRd_take 20 = .ok (.invokevirtual 102, 3) := by decide +kernel
theorem dRd_take_23 : decode kRd_take 23 = .ok (.iload_n 3, 1) := by decide +kernel
theorem dRd_take_24 : decode kRd_take 24 = .ok (.aload_n 0, 1) := by decide +kernel
theorem dRd_take_25 : decode kRd_take 25 = .ok (.getfield 14, 3) := by decide +kernel
theorem dRd_take_28 : decode kRd_take 28 = .ok (.getfield 93, 3) := by decide +kernel
theorem dRd_take_31 : decode kRd_take 31 = .ok (.if_icmp .ge 48, 3) := by decide +kernel
theorem dRd_take_34 : decode kRd_take 34 = .ok (.aload_n 0, 1) := by decide +kernel
theorem dRd_take_35 : decode kRd_take 35 = .ok (.dup, 1) := by decide +kernel
theorem dRd_take_36 : decode kRd_take 36 = .ok (.getfield 66, 3) := by decide +kernel
theorem dRd_take_39 : decode kRd_take 39 = .ok (.iconst 1, 1) := by decide +kernel
theorem dRd_take_40 : decode kRd_take 40 = .ok (.iadd, 1) := by decide +kernel
theorem dRd_take_41 : decode kRd_take 41 = .ok (.putfield 66, 3) := by decide +kernel
theorem dRd_take_44 : decode kRd_take 44 = .ok (.bipush 6, 2) := by decide +kernel
theorem dRd_take_46 : decode kRd_take 46 = .ok (.istore 4, 2) := by decide +kernel
theorem dRd_take_48 : decode kRd_take 48 = .ok (.iload 4, 2) := by decide +kernel
theorem dRd_take_50 : decode kRd_take 50 = .ok (.aload_n 0, 1) := by decide +kernel
theorem dRd_take_51 : decode kRd_take 51 = .ok (.getfield 85, 3) := by decide +kernel
theorem dRd_take_54 : decode kRd_take 54 = .ok (.if_icmp .ge 25, 3) := by decide +kernel
theorem dRd_take_57 : decode kRd_take 57 = .ok (.aload_n 0, 1) := by decide +kernel
theorem dRd_take_58 : decode kRd_take 58 = .ok (.getfield 14, 3) := by decide +kernel
theorem dRd_take_61 : decode kRd_take 61 = .ok (.iload_n 3, 1) := by decide +kernel
theorem dRd_take_62 : decode kRd_take 62 = .ok (.iload 4, 2) := by decide +kernel
theorem dRd_take_64 : decode kRd_take 64 = .ok (.aload_n 1, 1) := by decide +kernel
theorem dRd_take_65 : decode kRd_take 65 = .ok (.iload 4, 2) := by decide +kernel
theorem dRd_take_67 : decode kRd_take 67 = .ok (.invokevirtual 86, 3) := by decide +kernel
theorem dRd_take_70 : decode kRd_take 70 = .ok (.invokevirtual 106, 3) := by decide +kernel
theorem dRd_take_73 : decode kRd_take 73 = .ok (.iinc 4 1, 3) := by decide +kernel
theorem dRd_take_76 : decode kRd_take 76 = .ok (.goto (-28), 3) := by decide +kernel
theorem dRd_take_79 : decode kRd_take 79 = .ok (.return_, 1) := by decide +kernel
theorem dRd_placeOf_0 : decode kRd_placeOf 0 = .ok (.iload_n 1, 1) := by decide +kernel
theorem dRd_placeOf_1 : decode kRd_placeOf 1 = .ok (.ifCond .lt 12, 3) := by decide +kernel
theorem dRd_placeOf_4 : decode kRd_placeOf 4 = .ok (.iload_n 1, 1) := by decide +kernel
theorem dRd_placeOf_5 : decode kRd_placeOf 5 = .ok (.aload_n 0, 1) := by decide +kernel
theorem dRd_placeOf_6 : decode kRd_placeOf 6 = .ok (.getfield 20, 3) := by decide +kernel
theorem dRd_placeOf_9 : decode kRd_placeOf 9 = .ok (.arraylength, 1) := by decide +kernel
theorem dRd_placeOf_10 : decode kRd_placeOf 10 = .ok (.if_icmp .lt 8, 3) := by decide +kernel
theorem dRd_placeOf_13 : decode kRd_placeOf 13 = .ok (.bipush (-2), 2) := by decide +kernel
theorem dRd_placeOf_15 : decode kRd_placeOf 15 = .ok (.goto 9, 3) := by decide +kernel
theorem dRd_placeOf_18 : decode kRd_placeOf 18 = .ok (.aload_n 0, 1) := by decide +kernel
theorem dRd_placeOf_19 : decode kRd_placeOf 19 = .ok (.getfield 20, 3) := by decide +kernel
theorem dRd_placeOf_22 : decode kRd_placeOf 22 = .ok (.iload_n 1, 1) := by decide +kernel
theorem dRd_placeOf_23 : decode kRd_placeOf 23 = .ok (.iaload, 1) := by decide +kernel
theorem dRd_placeOf_24 : decode kRd_placeOf 24 = .ok (.ireturn, 1) := by decide +kernel
theorem dRd_setPlace_0 : decode kRd_setPlace 0 = .ok (.iload_n 1, 1) := by decide +kernel
theorem dRd_setPlace_1 : decode kRd_setPlace 1 = .ok (.ifCond .lt 19, 3) := by decide +kernel
theorem dRd_setPlace_4 : decode kRd_setPlace 4 = .ok (.iload_n 1, 1) := by decide +kernel
theorem dRd_setPlace_5 : decode kRd_setPlace 5 = .ok (.aload_n 0, 1) := by decide +kernel
theorem dRd_setPlace_6 : decode kRd_setPlace 6 = .ok (.getfield 20, 3) := by decide +kernel
theorem dRd_setPlace_9 : decode kRd_setPlace 9 = .ok (.arraylength, 1) := by decide +kernel
theorem dRd_setPlace_10 : decode kRd_setPlace 10 = .ok (.if_icmp .ge 10, 3) := by decide +kernel
theorem dRd_setPlace_13 : decode kRd_setPlace 13 = .ok (.aload_n 0, 1) := by decide +kernel
theorem dRd_setPlace_14 : decode kRd_setPlace 14 = .ok (.getfield 20, 3) := by decide +kernel
theorem dRd_setPlace_17 : decode kRd_setPlace 17 = .ok (.iload_n 1, 1) := by decide +kernel
theorem dRd_setPlace_18 : decode kRd_setPlace 18 = .ok (.iload_n 2, 1) := by decide +kernel
theorem dRd_setPlace_19 : decode kRd_setPlace 19 = .ok (.iastore, 1) := by decide +kernel
theorem dRd_setPlace_20 : decode kRd_setPlace 20 = .ok (.return_, 1) := by decide +kernel
theorem dRd_makeAgain_0 : decode kRd_makeAgain 0 = .ok (.aload_n 0, 1) := by decide +kernel
theorem dRd_makeAgain_1 : decode kRd_makeAgain 1 = .ok (.getfield 14, 3) := by decide +kernel
theorem dRd_makeAgain_4 : decode kRd_makeAgain 4 = .ok (.getfield 93, 3) := by decide +kernel
theorem dRd_makeAgain_7 : decode kRd_makeAgain 7 = .ok (.aload_n 0, 1) := by decide +kernel
theorem dRd_makeAgain_8 : decode kRd_makeAgain 8 = .ok (.getfield 66, 3) := by decide +kernel
theorem dRd_makeAgain_11 : decode kRd_makeAgain 11 = .ok (.isub, 1) := by decide +kernel
theorem dRd_makeAgain_12 : decode kRd_makeAgain 12 = .ok (.istore_n 2, 1) := by decide +kernel
theorem dRd_makeAgain_13 : decode kRd_makeAgain 13 = .ok (.iload_n 2, 1) := by decide +kernel
theorem dRd_makeAgain_14 : decode kRd_makeAgain 14 = .ok (.ifCond .eq 11, 3) := by decide +kernel
theorem dRd_makeAgain_17 : decode kRd_makeAgain 17 = .ok (.iload_n 2, 1) := by decide +kernel
theorem dRd_makeAgain_18 : decode kRd_makeAgain 18 = .ok (.aload_n 0, 1) := by decide +kernel
theorem dRd_makeAgain_19 : decode kRd_makeAgain 19 = .ok (.invokevirtual 110, 3) := by decide +kernel
theorem dRd_makeAgain_22 : decode kRd_makeAgain 22 = .ok (.if_icmp .le 4, 3) := by decide +kernel
theorem dRd_makeAgain_25 : decode kRd_makeAgain 25 = .ok (.return_, 1) := by decide +kernel
theorem dRd_makeAgain_26 : decode kRd_makeAgain 26 = .ok (.aload_n 0, 1) := by decide +kernel
theorem dRd_makeAgain_27 : decode kRd_makeAgain 27 = .ok (.getfield 27, 3) := by decide +kernel
theorem dRd_makeAgain_30 : decode kRd_makeAgain 30 = .ok (.invokevirtual 114, 3) := by decide +kernel
theorem dRd_makeAgain_33 : decode kRd_makeAgain 33 = .ok (.iconst 0, 1) := by decide +kernel
theorem dRd_makeAgain_34 : decode kRd_makeAgain 34 = .ok (.istore_n 3, 1) := by decide +kernel
theorem dRd_makeAgain_35 : decode kRd_makeAgain 35 = .ok (.iload_n 3, 1) := by decide +kernel
theorem dRd_makeAgain_36 : decode kRd_makeAgain 36 = .ok (.aload_n 0, 1) := by decide +kernel
theorem dRd_makeAgain_37 : decode kRd_makeAgain 37 = .ok (.getfield 14, 3) := by decide +kernel
theorem dRd_makeAgain_40 : decode kRd_makeAgain 40 = .ok (.getfield 93, 3) := by decide +kernel
theorem dRd_makeAgain_43 : decode kRd_makeAgain 43 = .ok (.if_icmp .ge 27, 3) := by decide +kernel
theorem dRd_makeAgain_46 : decode kRd_makeAgain 46 = .ok (.aload_n 0, 1) := by decide +kernel
theorem dRd_makeAgain_47 : decode kRd_makeAgain 47 = .ok (.iload_n 3, 1) := by decide +kernel
theorem dRd_makeAgain_48 : decode kRd_makeAgain 48 = .ok (.invokevirtual 99, 3) := by decide +kernel
theorem dRd_makeAgain_51 : decode kRd_makeAgain 51 = .ok (.bipush (-2), 2) := by decide +kernel
theorem dRd_makeAgain_53 : decode kRd_makeAgain 53 = .ok (.if_icmp .ne 11, 3) := by decide +kernel
theorem dRd_makeAgain_56 : decode kRd_makeAgain 56 = .ok (.aload_n 0, 1) := by decide +kernel
theorem dRd_makeAgain_57 : decode kRd_makeAgain 57 = .ok (.getfield 27, 3) := by decide +kernel
theorem dRd_makeAgain_60 : decode kRd_makeAgain 60 = .ok (.iload_n 3, 1) := by decide +kernel
theorem dRd_makeAgain_61 : decode kRd_makeAgain 61 = .ok (.invokevirtual 117, 3) := by decide +kernel
theorem dRd_makeAgain_64 : decode kRd_makeAgain 64 = .ok (.iinc 3 1, 3) := by decide +kernel
theorem dRd_makeAgain_67 : decode kRd_makeAgain 67 = .ok (.goto (-32), 3) := by decide +kernel
theorem dRd_makeAgain_70 : decode kRd_makeAgain 70 = .ok (.iconst 0, 1) := by decide +kernel
theorem dRd_makeAgain_71 : decode kRd_makeAgain 71 = .ok (.istore_n 3, 1) := by decide +kernel
theorem dRd_makeAgain_72 : decode kRd_makeAgain 72 = .ok (.iload_n 3, 1) := by decide +kernel
theorem dRd_makeAgain_73 : decode kRd_makeAgain 73 = .ok (.aload_n 0, 1) := by decide +kernel
theorem dRd_makeAgain_74 : decode kRd_makeAgain 74 = .ok (.getfield 90, 3) := by decide +kernel
theorem dRd_makeAgain_77 : decode kRd_makeAgain 77 = .ok (.if_icmp .ge 58, 3) := by decide +kernel
theorem dRd_makeAgain_80 : decode kRd_makeAgain 80 = .ok (.aload_n 0, 1) := by decide +kernel
theorem dRd_makeAgain_81 : decode kRd_makeAgain 81 = .ok (.getfield 27, 3) := by decide +kernel
theorem dRd_makeAgain_84 : decode kRd_makeAgain 84 = .ok (.getfield 120, 3) := by decide +kernel
theorem dRd_makeAgain_87 : decode kRd_makeAgain 87 = .ok (.iload_n 2, 1) := by decide +kernel
theorem dRd_makeAgain_88 : decode kRd_makeAgain 88 = .ok (.if_icmp .ge 47, 3) := by decide +kernel
theorem dRd_makeAgain_91 : decode kRd_makeAgain 91 = .ok (.aload_n 1, 1) := by decide +kernel
theorem dRd_makeAgain_92 : decode kRd_makeAgain 92 = .ok (.aload_n 0, 1) := by decide +kernel
theorem dRd_makeAgain_93 : decode kRd_makeAgain 93 = .ok (.aload_n 0, 1) := by decide +kernel
theorem dRd_makeAgain_94 : decode kRd_makeAgain 94 = .ok (.getfield 14, 3) := by decide +kernel
theorem dRd_makeAgain_97 : decode kRd_makeAgain 97 = .ok (.getfield 93, 3) := by decide +kernel
theorem dRd_makeAgain_100 : decode kRd_makeAgain 100 = .ok (.iload_n 3, 1) := by decide +kernel
theorem dRd_makeAgain_101 : decode kRd_makeAgain 101 = .ok (.iadd, 1) := by decide +kernel
theorem dRd_makeAgain_102 : decode kRd_makeAgain 102 = .ok (.invokevirtual 99, 3) := by decide +kernel
theorem dRd_makeAgain_105 : decode kRd_makeAgain 105 = .ok (.invokevirtual 45, 3) := by decide +kernel
theorem dRd_makeAgain_108 : decode kRd_makeAgain 108 = .ok (.astore 4, 2) := by decide +kernel
theorem dRd_makeAgain_110 : decode kRd_makeAgain 110 = .ok (.aload 4, 2) := by decide +kernel
theorem dRd_makeAgain_112 : decode kRd_makeAgain 112 = .ok (.ifnull 17, 3) := by decide +kernel
theorem dRd_makeAgain_115 : decode kRd_makeAgain 115 = .ok (.aload_n 0, 1) := by decide +kernel
theorem dRd_makeAgain_116 : decode kRd_makeAgain 116 = .ok (.getfield 27, 3) := by decide +kernel
theorem dRd_makeAgain_119 : decode kRd_makeAgain 119 = .ok (.iload_n 3, 1) := by decide +kernel
theorem dRd_makeAgain_120 : decode kRd_makeAgain 120 = .ok (.aload 4, 2) := by decide +kernel
theorem dRd_makeAgain_122 : decode kRd_makeAgain 122 = .ok (.aload_n 0, 1) := by decide +kernel
theorem dRd_makeAgain_123 : decode kRd_makeAgain 123 = .ok (.getfield 14, 3) := by decide +kernel
theorem dRd_makeAgain_126 : decode kRd_makeAgain 126 = .ok (.invokevirtual 123, 3) := by decide +kernel
theorem dRd_makeAgain_129 : decode kRd_makeAgain 129 = .ok (.iinc 3 1, 3) := by decide +kernel
theorem dRd_makeAgain_132 : decode kRd_makeAgain 132 = .ok (.goto (-60), 3) := by decide +kernel
theorem dRd_makeAgain_135 : decode kRd_makeAgain 135 = .ok (.aload_n 0, 1) := by decide +kernel
theorem dRd_makeAgain_136 : decode kRd_makeAgain 136 = .ok (.getfield 27, 3) := by decide +kernel
theorem dRd_makeAgain_139 : decode kRd_makeAgain 139 = .ok (.invokevirtual 127, 3) := by decide +kernel
theorem dRd_makeAgain_142 : decode kRd_makeAgain 142 = .ok (.aload_n 0, 1) := by decide +kernel
theorem dRd_makeAgain_143 : decode kRd_makeAgain 143 = .ok (.invokevirtual 130, 3) := by decide +kernel
theorem dRd_makeAgain_146 : decode kRd_makeAgain 146 = .ok (.return_, 1) := by decide +kernel
theorem dRd_repairsOfIt_0 : decode kRd_repairsOfIt 0 = .ok (.iconst 0, 1) := by decide +kernel
theorem dRd_repairsOfIt_1 : decode kRd_repairsOfIt 1 = .ok (.istore_n 1, 1) := by decide +kernel
theorem dRd_repairsOfIt_2 : decode kRd_repairsOfIt 2 = .ok (.iconst 0, 1) := by decide +kernel
theorem dRd_repairsOfIt_3 : decode kRd_repairsOfIt 3 = .ok (.istore_n 2, 1) := by decide +kernel
theorem dRd_repairsOfIt_4 : decode kRd_repairsOfIt 4 = .ok (.iload_n 2, 1) := by decide +kernel
theorem dRd_repairsOfIt_5 : decode kRd_repairsOfIt 5 = .ok (.aload_n 0, 1) := by decide +kernel
theorem dRd_repairsOfIt_6 : decode kRd_repairsOfIt 6 = .ok (.getfield 90, 3) := by decide +kernel
theorem dRd_repairsOfIt_9 : decode kRd_repairsOfIt 9 = .ok (.if_icmp .ge 30, 3) := by decide +kernel
theorem dRd_repairsOfIt_12 : decode kRd_repairsOfIt 12 = .ok (.aload_n 0, 1) := by decide +kernel
theorem dRd_repairsOfIt_13 : decode kRd_repairsOfIt 13 = .ok (.aload_n 0, 1) := by decide +kernel
theorem dRd_repairsOfIt_14 : decode kRd_repairsOfIt 14 = .ok (.getfield 14, 3) := by decide +kernel
theorem dRd_repairsOfIt_17 : decode kRd_repairsOfIt 17 = .ok (.getfield 93, 3) := by decide +kernel
theorem dRd_repairsOfIt_20 : decode kRd_repairsOfIt 20 = .ok (.iload_n 2, 1) := by decide +kernel
theorem dRd_repairsOfIt_21 : decode kRd_repairsOfIt 21 = .ok (.iadd, 1) := by decide +kernel
theorem dRd_repairsOfIt_22 : decode kRd_repairsOfIt 22 = .ok (.invokevirtual 99, 3) := by decide +kernel
theorem dRd_repairsOfIt_25 : decode kRd_repairsOfIt 25 = .ok (.bipush (-2), 2) := by decide +kernel
theorem dRd_repairsOfIt_27 : decode kRd_repairsOfIt 27 = .ok (.if_icmp .eq 6, 3) := by decide +kernel
theorem dRd_repairsOfIt_30 : decode kRd_repairsOfIt 30 = .ok (.iinc 1 1, 3) := by decide +kernel
theorem dRd_repairsOfIt_33 : decode kRd_repairsOfIt 33 = .ok (.iinc 2 1, 3) := by decide +kernel
theorem dRd_repairsOfIt_36 : decode kRd_repairsOfIt 36 = .ok (.goto (-32), 3) := by decide +kernel
theorem dRd_repairsOfIt_39 : decode kRd_repairsOfIt 39 = .ok (.iload_n 1, 1) := by decide +kernel
theorem dRd_repairsOfIt_40 : decode kRd_repairsOfIt 40 = .ok (.ireturn, 1) := by decide +kernel
theorem dRd_takeUnknowns_0 : decode kRd_takeUnknowns 0 = .ok (.iconst 0, 1) := by decide +kernel
theorem dRd_takeUnknowns_1 : decode kRd_takeUnknowns 1 = .ok (.istore_n 1, 1) := by decide +kernel
theorem dRd_takeUnknowns_2 : decode kRd_takeUnknowns 2 = .ok (.iload_n 1, 1) := by decide +kernel
theorem dRd_takeUnknowns_3 : decode kRd_takeUnknowns 3 = .ok (.aload_n 0, 1) := by decide +kernel
theorem dRd_takeUnknowns_4 : decode kRd_takeUnknowns 4 = .ok (.getfield 27, 3) := by decide +kernel
theorem dRd_takeUnknowns_7 : decode kRd_takeUnknowns 7 = .ok (.getfield 133, 3) := by decide +kernel
theorem dRd_takeUnknowns_10 : decode kRd_takeUnknowns 10 = .ok (.if_icmp .ge 70, 3) := by decide +kernel
theorem dRd_takeUnknowns_13 : decode kRd_takeUnknowns 13 = .ok (.aload_n 0, 1) := by decide +kernel
theorem dRd_takeUnknowns_14 : decode kRd_takeUnknowns 14 = .ok (.getfield 27, 3) := by decide +kernel
theorem dRd_takeUnknowns_17 : decode kRd_takeUnknowns 17 = .ok (.iload_n 1, 1) := by decide +kernel
theorem dRd_takeUnknowns_18 : decode kRd_takeUnknowns 18 = .ok (.invokevirtual 136, 3) := by decide +kernel
theorem dRd_takeUnknowns_21 : decode kRd_takeUnknowns 21 = .ok (.istore_n 2, 1) := by decide +kernel
theorem dRd_takeUnknowns_22 : decode kRd_takeUnknowns 22 = .ok (.aload_n 0, 1) := by decide +kernel
theorem dRd_takeUnknowns_23 : decode kRd_takeUnknowns 23 = .ok (.iload_n 2, 1) := by decide +kernel
theorem dRd_takeUnknowns_24 : decode kRd_takeUnknowns 24 = .ok (.bipush 100, 2) := by decide +kernel
theorem dRd_takeUnknowns_26 : decode kRd_takeUnknowns 26 = .ok (.invokevirtual 102, 3) := by decide +kernel
theorem dRd_takeUnknowns_29 : decode kRd_takeUnknowns 29 = .ok (.aload_n 0, 1) := by decide +kernel
theorem dRd_takeUnknowns_30 : decode kRd_takeUnknowns 30 = .ok (.dup, 1) := by decide +kernel
theorem dRd_takeUnknowns_31 : decode kRd_takeUnknowns 31 = .ok (.getfield 70, 3) := by decide +kernel
theorem dRd_takeUnknowns_34 : decode kRd_takeUnknowns 34 = .ok (.iconst 1, 1) := by decide +kernel
theorem dRd_takeUnknowns_35 : decode kRd_takeUnknowns 35 = .ok (.iadd, 1) := by decide +kernel
theorem dRd_takeUnknowns_36 : decode kRd_takeUnknowns 36 = .ok (.putfield 70, 3) := by decide +kernel
theorem dRd_takeUnknowns_39 : decode kRd_takeUnknowns 39 = .ok (.bipush 6, 2) := by decide +kernel
theorem dRd_takeUnknowns_41 : decode kRd_takeUnknowns 41 = .ok (.istore_n 3, 1) := by decide +kernel
theorem dRd_takeUnknowns_42 : decode kRd_takeUnknowns 42 = .ok (.iload_n 3, 1) := by decide +kernel
theorem dRd_takeUnknowns_43 : decode kRd_takeUnknowns 43 = .ok (.aload_n 0, 1) := by decide +kernel
theorem dRd_takeUnknowns_44 : decode kRd_takeUnknowns 44 = .ok (.getfield 85, 3) := by decide +kernel
theorem dRd_takeUnknowns_47 : decode kRd_takeUnknowns 47 = .ok (.if_icmp .ge 27, 3) := by decide +kernel
theorem dRd_takeUnknowns_50 : decode kRd_takeUnknowns 50 = .ok (.aload_n 0, 1) := by decide +kernel
theorem dRd_takeUnknowns_51 : decode kRd_takeUnknowns 51 = .ok (.getfield 14, 3) := by decide +kernel
theorem dRd_takeUnknowns_54 : decode kRd_takeUnknowns 54 = .ok (.iload_n 2, 1) := by decide +kernel
theorem dRd_takeUnknowns_55 : decode kRd_takeUnknowns 55 = .ok (.iload_n 3, 1) := by decide +kernel
theorem dRd_takeUnknowns_56 : decode kRd_takeUnknowns 56 = .ok (.aload_n 0, 1) := by decide +kernel
theorem dRd_takeUnknowns_57 : decode kRd_takeUnknowns 57 = .ok (.getfield 27, 3) := by decide +kernel
theorem dRd_takeUnknowns_60 : decode kRd_takeUnknowns 60 = .ok (.iload_n 1, 1) := by decide +kernel
theorem dRd_takeUnknowns_61 : decode kRd_takeUnknowns 61 = .ok (.iload_n 3, 1) := by decide +kernel
theorem dRd_takeUnknowns_62 : decode kRd_takeUnknowns 62 = .ok (.invokevirtual 139, 3) := by decide +kernel
theorem dRd_takeUnknowns_65 : decode kRd_takeUnknowns 65 = .ok (.invokevirtual 106, 3) := by decide +kernel
theorem dRd_takeUnknowns_68 : decode kRd_takeUnknowns 68 = .ok (.iinc 3 1, 3) := by decide +kernel
theorem dRd_takeUnknowns_71 : decode kRd_takeUnknowns 71 = .ok (.goto (-29), 3) := by decide +kernel
theorem dRd_takeUnknowns_74 : decode kRd_takeUnknowns 74 = .ok (.iinc 1 1, 3) := by decide +kernel
theorem dRd_takeUnknowns_77 : decode kRd_takeUnknowns 77 = .ok (.goto (-75), 3) := by decide +kernel
theorem dRd_takeUnknowns_80 : decode kRd_takeUnknowns 80 = .ok (.return_, 1) := by decide +kernel
theorem dOp_init_0 : decode kOp_init 0 = .ok (.aload_n 0, 1) := by decide +kernel
theorem dOp_init_1 : decode kOp_init 1 = .ok (.invokespecial 3, 3) := by decide +kernel
theorem dOp_init_4 : decode kOp_init 4 = .ok (.aload_n 0, 1) := by decide +kernel
theorem dOp_init_5 : decode kOp_init 5 = .ok (.bipush 40, 2) := by decide +kernel
theorem dOp_init_7 : decode kOp_init 7 = .ok (.newarray .int, 2) := by decide +kernel
theorem dOp_init_9 : decode kOp_init 9 = .ok (.putfield 9, 3) := by decide +kernel
theorem dOp_init_12 : decode kOp_init 12 = .ok (.aload_n 0, 1) := by decide +kernel
theorem dOp_init_13 : decode kOp_init 13 = .ok (.bipush 40, 2) := by decide +kernel
theorem dOp_init_15 : decode kOp_init 15 = .ok (.newarray .int, 2) := by decide +kernel
theorem dOp_init_17 : decode kOp_init 17 = .ok (.putfield 15, 3) := by decide +kernel
theorem dOp_init_20 : decode kOp_init 20 = .ok (.aload_n 0, 1) := by decide +kernel
theorem dOp_init_21 : decode kOp_init 21 = .ok (.bipush 40, 2) := by decide +kernel
theorem dOp_init_23 : decode kOp_init 23 = .ok (.newarray .int, 2) := by decide +kernel
theorem dOp_init_25 : decode kOp_init 25 = .ok (.putfield 18, 3) := by decide +kernel
theorem dOp_init_28 : decode kOp_init 28 = .ok (.return_, 1) := by decide +kernel
theorem dOp_open_0 : decode kOp_open 0 = .ok (.aload_n 0, 1) := by decide +kernel
theorem dOp_open_1 : decode kOp_open 1 = .ok (.iconst 0, 1) := by decide +kernel
theorem dOp_open_2 : decode kOp_open 2 = .ok (.putfield 21, 3) := by decide +kernel
theorem dOp_open_5 : decode kOp_open 5 = .ok (.aload_n 1, 1) := by decide +kernel
theorem dOp_open_6 : decode kOp_open 6 = .ok (.iconst 0, 1) := by decide +kernel
theorem dOp_open_7 : decode kOp_open 7 = .ok (.invokevirtual 25, 3) := by decide +kernel
theorem dOp_open_10 : decode kOp_open 10 = .ok (.istore_n 2, 1) := by decide +kernel
theorem dOp_open_11 : decode kOp_open 11 = .ok (.iconst 0, 1) := by decide +kernel
theorem dOp_open_12 : decode kOp_open 12 = .ok (.istore_n 3, 1) := by decide +kernel
theorem dOp_open_13 : decode kOp_open 13 = .ok (.iload_n 3, 1) := by decide +kernel
theorem dOp_open_14 : decode kOp_open 14 = .ok (.bipush 40, 2) := by decide +kernel
theorem dOp_open_16 : decode kOp_open 16 = .ok (.if_icmp .ge 74, 3) := by decide +kernel
theorem dOp_open_19 : decode kOp_open 19 = .ok (.iload_n 2, 1) := by decide +kernel
theorem dOp_open_20 : decode kOp_open 20 = .ok (.ifCond .lt 70, 3) := by decide +kernel
theorem dOp_open_23 : decode kOp_open 23 = .ok (.aload_n 1, 1) := by decide +kernel
theorem dOp_open_24 : decode kOp_open 24 = .ok (.iload_n 2, 1) := by decide +kernel
theorem dOp_open_25 : decode kOp_open 25 = .ok (.invokevirtual 31, 3) := by decide +kernel
theorem dOp_open_28 : decode kOp_open 28 = .ok (.istore 4, 2) := by decide +kernel
theorem dOp_open_30 : decode kOp_open 30 = .ok (.aload_n 0, 1) := by decide +kernel
theorem dOp_open_31 : decode kOp_open 31 = .ok (.getfield 9, 3) := by decide +kernel
theorem dOp_open_34 : decode kOp_open 34 = .ok (.iload_n 3, 1) := by decide +kernel
theorem dOp_open_35 : decode kOp_open 35 = .ok (.iload_n 2, 1) := by decide +kernel
theorem dOp_open_36 : decode kOp_open 36 = .ok (.iastore, 1) := by decide +kernel
theorem dOp_open_37 : decode kOp_open 37 = .ok (.aload_n 0, 1) := by decide +kernel
theorem dOp_open_38 : decode kOp_open 38 = .ok (.getfield 15, 3) := by decide +kernel
theorem dOp_open_41 : decode kOp_open 41 = .ok (.iload_n 3, 1) := by decide +kernel
theorem dOp_open_42 : decode kOp_open 42 = .ok (.iload 4, 2) := by decide +kernel
theorem dOp_open_44 : decode kOp_open 44 = .ok (.iastore, 1) := by decide +kernel
theorem dOp_open_45 : decode kOp_open 45 = .ok (.aload_n 0, 1) := by decide +kernel
theorem dOp_open_46 : decode kOp_open 46 = .ok (.getfield 18, 3) := by decide +kernel
theorem dOp_open_49 : decode kOp_open 49 = .ok (.iload_n 3, 1) := by decide +kernel
theorem dOp_open_50 : decode kOp_open 50 = .ok (.aload_n 1, 1) := by decide +kernel
theorem dOp_open_51 : decode kOp_open 51 = .ok (.iload_n 2, 1) := by decide +kernel
theorem dOp_open_52 : decode kOp_open 52 = .ok (.iload 4, 2) := by decide +kernel
theorem dOp_open_54 : decode kOp_open 54 = .ok (.invokestatic 34, 3) := by decide +kernel
theorem dOp_open_57 : decode kOp_open 57 = .ok (.ifCond .eq 7, 3) := by decide +kernel
theorem dOp_open_60 : decode kOp_open 60 = .ok (.iconst 1, 1) := by decide +kernel
theorem dOp_open_61 : decode kOp_open 61 = .ok (.goto 4, 3) := by decide +kernel
theorem dOp_open_64 : decode kOp_open 64 = .ok (.iconst 0, 1) := by decide +kernel
theorem dOp_open_65 : decode kOp_open 65 = .ok (.iastore, 1) := by decide +kernel
theorem dOp_open_66 : decode kOp_open 66 = .ok (.aload_n 0, 1) := by decide +kernel
theorem dOp_open_67 : decode kOp_open 67 = .ok (.iload_n 3, 1) := by decide +kernel
theorem dOp_open_68 : decode kOp_open 68 = .ok (.iconst 1, 1) := by decide +kernel
theorem dOp_open_69 : decode kOp_open 69 = .ok (.iadd, 1) := by decide +kernel
theorem dOp_open_70 : decode kOp_open 70 = .ok (.putfield 21, 3) := by decide +kernel
theorem dOp_open_73 : decode kOp_open 73 = .ok (.aload_n 1, 1) := by decide +kernel
theorem dOp_open_74 : decode kOp_open 74 = .ok (.iload_n 2, 1) := by decide +kernel
theorem dOp_open_75 : decode kOp_open 75 = .ok (.iconst 3, 1) := by decide +kernel
theorem dOp_open_76 : decode kOp_open 76 = .ok (.iadd, 1) := by decide +kernel
theorem dOp_open_77 : decode kOp_open 77 = .ok (.iload 4, 2) := by decide +kernel
theorem dOp_open_79 : decode kOp_open 79 = .ok (.iadd, 1) := by decide +kernel
theorem dOp_open_80 : decode kOp_open 80 = .ok (.invokevirtual 25, 3) := by decide +kernel
theorem dOp_open_83 : decode kOp_open 83 = .ok (.istore_n 2, 1) := by decide +kernel
theorem dOp_open_84 : decode kOp_open 84 = .ok (.iinc 3 1, 3) := by decide +kernel
theorem dOp_open_87 : decode kOp_open 87 = .ok (.goto (-74), 3) := by decide +kernel
theorem dOp_open_90 : decode kOp_open 90 = .ok (.return_, 1) := by decide +kernel
theorem dOp_isWhole_0 : decode kOp_isWhole 0 = .ok (.iload_n 1, 1) := by decide +kernel
theorem dOp_isWhole_1 : decode kOp_isWhole 1 = .ok (.iconst 3, 1) := by decide +kernel
theorem dOp_isWhole_2 : decode kOp_isWhole 2 = .ok (.iadd, 1) := by decide +kernel
theorem dOp_isWhole_3 : decode kOp_isWhole 3 = .ok (.istore_n 3, 1) := by decide +kernel
theorem dOp_isWhole_4 : decode kOp_isWhole 4 = .ok (.iload_n 3, 1) := by decide +kernel
theorem dOp_isWhole_5 : decode kOp_isWhole 5 = .ok (.iload_n 2, 1) := by decide +kernel
theorem dOp_isWhole_6 : decode kOp_isWhole 6 = .ok (.iadd, 1) := by decide +kernel
theorem dOp_isWhole_7 : decode kOp_isWhole 7 = .ok (.istore 4, 2) := by decide +kernel
theorem dOp_isWhole_9 : decode kOp_isWhole 9 = .ok (.iload_n 2, 1) := by decide +kernel
theorem dOp_isWhole_10 : decode kOp_isWhole 10 = .ok (.bipush 60, 2) := by decide +kernel
theorem dOp_isWhole_12 : decode kOp_isWhole 12 = .ok (.if_icmp .gt 13, 3) := by decide +kernel
theorem dOp_isWhole_15 : decode kOp_isWhole 15 = .ok (.aload_n 0, 1) := by decide +kernel
theorem dOp_isWhole_16 : decode kOp_isWhole 16 = .ok (.iload_n 1, 1) := by decide +kernel
theorem dOp_isWhole_17 : decode kOp_isWhole 17 = .ok (.iload 4, 2) := by decide +kernel
theorem dOp_isWhole_19 : decode kOp_isWhole 19 = .ok (.invokevirtual 38, 3) := by decide +kernel
theorem dOp_isWhole_22 : decode kOp_isWhole 22 = .ok (.ifCond .ne 5, 3) := by decide +kernel
theorem dOp_isWhole_25 : decode kOp_isWhole 25 = .ok (.iconst 0, 1) := by decide +kernel
theorem dOp_isWhole_26 : decode kOp_isWhole 26 = .ok (.ireturn, 1) := by decide +kernel
theorem dOp_isWhole_27 : decode kOp_isWhole 27 = .ok (.aload_n 0, 1) := by decide +kernel
theorem dOp_isWhole_28 : decode kOp_isWhole 28 = .ok (.iload_n 1, 1) := by decide +kernel
theorem dOp_isWhole_29 : decode kOp_isWhole 29 = .ok (.iconst 1, 1) := by decide +kernel
theorem dOp_isWhole_30 : decode kOp_isWhole 30 = .ok (.iadd, 1) := by decide +kernel
theorem dOp_isWhole_31 : decode kOp_isWhole 31 = .ok (.invokevirtual 31, 3) := by decide +kernel
theorem dOp_isWhole_34 : decode kOp_isWhole 34 = .ok (.aload_n 0, 1) := by decide +kernel
theorem dOp_isWhole_35 : decode kOp_isWhole 35 = .ok (.iload_n 1, 1) := by decide +kernel
theorem dOp_isWhole_36 : decode kOp_isWhole 36 = .ok (.iconst 2, 1) := by decide +kernel
theorem dOp_isWhole_37 : decode kOp_isWhole 37 = .ok (.iadd, 1) := by decide +kernel
theorem dOp_isWhole_38 : decode kOp_isWhole 38 = .ok (.invokevirtual 31, 3) := by decide +kernel
theorem dOp_isWhole_41 : decode kOp_isWhole 41 = .ok (.bipush 8, 2) := by decide +kernel
theorem dOp_isWhole_43 : decode kOp_isWhole 43 = .ok (.ishl, 1) := by decide +kernel
theorem dOp_isWhole_44 : decode kOp_isWhole 44 = .ok (.iadd, 1) := by decide +kernel
theorem dOp_isWhole_45 : decode kOp_isWhole 45 = .ok (.istore 5, 2) := by decide +kernel
theorem dOp_isWhole_47 : decode kOp_isWhole 47 = .ok (.iload 5, 2) := by decide +kernel
theorem dOp_isWhole_49 : decode kOp_isWhole 49 = .ok (.aload_n 0, 1) := by decide +kernel
theorem dOp_isWhole_50 : decode kOp_isWhole 50 = .ok (.iload_n 3, 1) := by decide +kernel
theorem dOp_isWhole_51 : decode kOp_isWhole 51 = .ok (.iload 4, 2) := by decide +kernel
theorem dOp_isWhole_53 : decode kOp_isWhole 53 = .ok (.invokevirtual 42, 3) := by decide +kernel
theorem dOp_isWhole_56 : decode kOp_isWhole 56 = .ok (.if_icmp .ne 7, 3) := by decide +kernel
theorem dOp_isWhole_59 : decode kOp_isWhole 59 = .ok (.iconst 1, 1) := by decide +kernel
theorem dOp_isWhole_60 : decode kOp_isWhole 60 = .ok (.goto 4, 3) := by decide +kernel
theorem dOp_isWhole_63 : decode kOp_isWhole 63 = .ok (.iconst 0, 1) := by decide +kernel
theorem dOp_isWhole_64 : decode kOp_isWhole 64 = .ok (.ireturn, 1) := by decide +kernel
theorem dOp_openedOnes_0 : decode kOp_openedOnes 0 = .ok (.iconst 0, 1) := by decide +kernel
theorem dOp_openedOnes_1 : decode kOp_openedOnes 1 = .ok (.istore_n 1, 1) := by decide +kernel
theorem dOp_openedOnes_2 : decode kOp_openedOnes 2 = .ok (.iconst 0, 1) := by decide +kernel
theorem dOp_openedOnes_3 : decode kOp_openedOnes 3 = .ok (.istore_n 2, 1) := by decide +kernel
theorem dOp_openedOnes_4 : decode kOp_openedOnes 4 = .ok (.iload_n 2, 1) := by decide +kernel
theorem dOp_openedOnes_5 : decode kOp_openedOnes 5 = .ok (.aload_n 0, 1) := by decide +kernel
theorem dOp_openedOnes_6 : decode kOp_openedOnes 6 = .ok (.getfield 21, 3) := by decide +kernel
theorem dOp_openedOnes_9 : decode kOp_openedOnes 9 = .ok (.if_icmp .ge 24, 3) := by decide +kernel
theorem dOp_openedOnes_12 : decode kOp_openedOnes 12 = .ok (.iload_n 2, 1) := by decide +kernel
theorem dOp_openedOnes_13 : decode kOp_openedOnes 13 = .ok (.bipush 40, 2) := by decide +kernel
theorem dOp_openedOnes_15 : decode kOp_openedOnes 15 = .ok (.if_icmp .ge 18, 3) := by decide +kernel
theorem dOp_openedOnes_18 : decode kOp_openedOnes 18 = .ok (.iload_n 1, 1) := by decide +kernel
theorem dOp_openedOnes_19 : decode kOp_openedOnes 19 = .ok (.aload_n 0, 1) := by decide +kernel
theorem dOp_openedOnes_20 : decode kOp_openedOnes 20 = .ok (.getfield 18, 3) := by decide +kernel
theorem dOp_openedOnes_23 : decode kOp_openedOnes 23 = .ok (.iload_n 2, 1) := by decide +kernel
theorem dOp_openedOnes_24 : decode kOp_openedOnes 24 = .ok (.iaload, 1) := by decide +kernel
theorem dOp_openedOnes_25 : decode kOp_openedOnes 25 = .ok (.iadd, 1) := by decide +kernel
theorem dOp_openedOnes_26 : decode kOp_openedOnes 26 = .ok (.istore_n 1, 1) := by decide +kernel
theorem dOp_openedOnes_27 : decode kOp_openedOnes 27 = .ok (.iinc 2 1, 3) := by decide +kernel
theorem dOp_openedOnes_30 : decode kOp_openedOnes 30 = .ok (.goto (-26), 3) := by decide +kernel
theorem dOp_openedOnes_33 : decode kOp_openedOnes 33 = .ok (.iload_n 1, 1) := by decide +kernel
theorem dOp_openedOnes_34 : decode kOp_openedOnes 34 = .ok (.ireturn, 1) := by decide +kernel
theorem dOp_tellOf_0 : decode kOp_tellOf 0 = .ok (.iload_n 1, 1) := by decide +kernel
theorem dOp_tellOf_1 : decode kOp_tellOf 1 = .ok (.ifCond .lt 17, 3) := by decide +kernel
theorem dOp_tellOf_4 : decode kOp_tellOf 4 = .ok (.iload_n 1, 1) := by decide +kernel
theorem dOp_tellOf_5 : decode kOp_tellOf 5 = .ok (.aload_n 0, 1) := by decide +kernel
theorem dOp_tellOf_6 : decode kOp_tellOf 6 = .ok (.getfield 21, 3) := by decide +kernel
theorem dOp_tellOf_9 : decode kOp_tellOf 9 = .ok (.if_icmp .ge 9, 3) := by decide +kernel
theorem dOp_tellOf_12 : decode kOp_tellOf 12 = .ok (.iload_n 1, 1) := by decide +kernel
theorem dOp_tellOf_13 : decode kOp_tellOf 13 = .ok (.bipush 40, 2) := by decide +kernel
theorem dOp_tellOf_15 : decode kOp_tellOf 15 = .ok (.if_icmp .lt 5, 3) := by decide +kernel
theorem dOp_tellOf_18 : decode kOp_tellOf 18 = .ok (.iconst (-1), 1) := by decide +kernel
theorem dOp_tellOf_19 : decode kOp_tellOf 19 = .ok (.ireturn, 1) := by decide +kernel
theorem dOp_tellOf_20 : decode kOp_tellOf 20 = .ok (.iload_n 2, 1) := by decide +kernel
theorem dOp_tellOf_21 : decode kOp_tellOf 21 = .ok (.tableswitch 48 0 2 #[27, 34, 41], 27) := by decide +kernel
theorem dOp_tellOf_48 : decode kOp_tellOf 48 = .ok (.aload_n 0, 1) := by decide +kernel
theorem dOp_tellOf_49 : decode kOp_tellOf 49 = .ok (.getfield 9, 3) := by decide +kernel
theorem dOp_tellOf_52 : decode kOp_tellOf 52 = .ok (.iload_n 1, 1) := by decide +kernel
theorem dOp_tellOf_53 : decode kOp_tellOf 53 = .ok (.iaload, 1) := by decide +kernel
theorem dOp_tellOf_54 : decode kOp_tellOf 54 = .ok (.ireturn, 1) := by decide +kernel
theorem dOp_tellOf_55 : decode kOp_tellOf 55 = .ok (.aload_n 0, 1) := by decide +kernel
theorem dOp_tellOf_56 : decode kOp_tellOf 56 = .ok (.getfield 15, 3) := by decide +kernel
theorem dOp_tellOf_59 : decode kOp_tellOf 59 = .ok (.iload_n 1, 1) := by decide +kernel
theorem dOp_tellOf_60 : decode kOp_tellOf 60 = .ok (.iaload, 1) := by decide +kernel
theorem dOp_tellOf_61 : decode kOp_tellOf 61 = .ok (.ireturn, 1) := by decide +kernel
theorem dOp_tellOf_62 : decode kOp_tellOf 62 = .ok (.aload_n 0, 1) := by decide +kernel
theorem dOp_tellOf_63 : decode kOp_tellOf 63 = .ok (.getfield 18, 3) := by decide +kernel
theorem dOp_tellOf_66 : decode kOp_tellOf 66 = .ok (.iload_n 1, 1) := by decide +kernel
theorem dOp_tellOf_67 : decode kOp_tellOf 67 = .ok (.iaload, 1) := by decide +kernel
theorem dOp_tellOf_68 : decode kOp_tellOf 68 = .ok (.ireturn, 1) := by decide +kernel
theorem dOp_tellOf_69 : decode kOp_tellOf 69 = .ok (.iconst (-1), 1) := by decide +kernel
theorem dOp_tellOf_70 : decode kOp_tellOf 70 = .ok (.ireturn, 1) := by decide +kernel
end
section
theorem dVS_init_0 : decode kVS_init 0 = .ok (.aload_n 0, 1) := by decide +kernel
theorem dVS_init_1 : decode kVS_init 1 = .ok (.invokespecial 1, 3) := by decide +kernel
theorem dVS_init_4 : decode kVS_init 4 = .ok (.aload_n 0, 1) := by decide +kernel
theorem dVS_init_5 : decode kVS_init 5 = .ok (.new 7, 3) := by decide +kernel
theorem dVS_init_8 : decode kVS_init 8 = .ok (.dup, 1) := by decide +kernel
theorem dVS_init_9 : decode kVS_init 9 = .ok (.invokespecial 9, 3) := by decide +kernel
theorem dVS_init_12 : decode kVS_init 12 = .ok (.putfield 10, 3) := by decide +kernel
theorem dVS_init_15 : decode kVS_init 15 = .ok (.aload_n 0, 1) := by decide +kernel
theorem dVS_init_16 : decode kVS_init 16 = .ok (.new 16, 3) := by decide +kernel
theorem dVS_init_19 : decode kVS_init 19 = .ok (.dup, 1) := by decide +kernel
theorem dVS_init_20 : decode kVS_init 20 = .ok (.invokespecial 18, 3) := by decide +kernel
theorem dVS_init_23 : decode kVS_init 23 = .ok (.putfield 19, 3) := by decide +kernel
theorem dVS_init_26 : decode kVS_init 26 = .ok (.aload_n 0, 1) := by decide +kernel
theorem dVS_init_27 : decode kVS_init 27 = .ok (.new 23, 3) := by decide +kernel
theorem dVS_init_30 : decode kVS_init 30 = .ok (.dup, 1) := by decide +kernel
theorem dVS_init_31 : decode kVS_init 31 = .ok (.invokespecial 25, 3) := by decide +kernel
theorem dVS_init_34 : decode kVS_init 34 = .ok (.putfield 26, 3) := by decide +kernel
theorem dVS_init_37 : decode kVS_init 37 = .ok (.aload_n 0, 1) := by decide +kernel
theorem dVS_init_38 : decode kVS_init 38 = .ok (.new 30, 3) := by decide +kernel
theorem dVS_init_41 : decode kVS_init 41 = .ok (.dup, 1) := by decide +kernel
theorem dVS_init_42 : decode kVS_init 42 = .ok (.invokespecial 32, 3) := by decide +kernel
theorem dVS_init_45 : decode kVS_init 45 = .ok (.putfield 33, 3) := by decide +kernel
theorem dVS_init_48 : decode kVS_init 48 = .ok (.aload_n 0, 1) := by decide +kernel
theorem dVS_init_49 : decode kVS_init 49 = .ok (.new 37, 3) := by decide +kernel
theorem dVS_init_52 : decode kVS_init 52 = .ok (.dup, 1) := by decide +kernel
theorem dVS_init_53 : decode kVS_init 53 = .ok (.invokespecial 39, 3) := by decide +kernel
theorem dVS_init_56 : decode kVS_init 56 = .ok (.putfield 40, 3) := by decide +kernel
theorem dVS_init_59 : decode kVS_init 59 = .ok (.aload_n 0, 1) := by decide +kernel
theorem dVS_init_60 : decode kVS_init 60 = .ok (.new 44, 3) := by decide +kernel
theorem dVS_init_63 : decode kVS_init 63 = .ok (.dup, 1) := by decide +kernel
theorem dVS_init_64 : decode kVS_init 64 = .ok (.invokespecial 46, 3) := by decide +kernel
theorem dVS_init_67 : decode kVS_init 67 = .ok (.putfield 47, 3) := by decide +kernel
theorem dVS_init_70 : decode kVS_init 70 = .ok (.aload_n 0, 1) := by decide +kernel
theorem dVS_init_71 : decode kVS_init 71 = .ok (.new 51, 3) := by decide +kernel
theorem dVS_init_74 : decode kVS_init 74 = .ok (.dup, 1) := by decide +kernel
theorem dVS_init_75 : decode kVS_init 75 = .ok (.invokespecial 53, 3) := by decide +kernel
theorem dVS_init_78 : decode kVS_init 78 = .ok (.putfield 54, 3) := by decide +kernel
theorem dVS_init_81 : decode kVS_init 81 = .ok (.return_, 1) := by decide +kernel
theorem dVS_feed_0 : decode kVS_feed 0 = .ok (.aload_n 0, 1) := by decide +kernel
theorem dVS_feed_1 : decode kVS_feed 1 = .ok (.getfield 10, 3) := by decide +kernel
theorem dVS_feed_4 : decode kVS_feed 4 = .ok (.getfield 58, 3) := by decide +kernel
theorem dVS_feed_7 : decode kVS_feed 7 = .ok (.bipush 20, 2) := by decide +kernel
theorem dVS_feed_9 : decode kVS_feed 9 = .ok (.iadd, 1) := by decide +kernel
theorem dVS_feed_10 : decode kVS_feed 10 = .ok (.bipush 60, 2) := by decide +kernel
theorem dVS_feed_12 : decode kVS_feed 12 = .ok (.if_icmp .le 6, 3) := by decide +kernel
theorem dVS_feed_15 : decode kVS_feed 15 = .ok (.bipush (-3), 2) := by decide +kernel
theorem dVS_feed_17 : decode kVS_feed 17 = .ok (.ireturn, 1) := by decide +kernel
theorem dVS_feed_18 : decode kVS_feed 18 = .ok (.aload_n 0, 1) := by decide +kernel
theorem dVS_feed_19 : decode kVS_feed 19 = .ok (.getfield 10, 3) := by decide +kernel
theorem dVS_feed_22 : decode kVS_feed 22 = .ok (.iload_n 1, 1) := by decide +kernel
theorem dVS_feed_23 : decode kVS_feed 23 = .ok (.invokevirtual 62, 3) := by decide +kernel
theorem dVS_feed_26 : decode kVS_feed 26 = .ok (.aload_n 0, 1) := by decide +kernel
theorem dVS_feed_27 : decode kVS_feed 27 = .ok (.getfield 10, 3) := by decide +kernel
theorem dVS_feed_30 : decode kVS_feed 30 = .ok (.iload_n 2, 1) := by decide +kernel
theorem dVS_feed_31 : decode kVS_feed 31 = .ok (.invokevirtual 62, 3) := by decide +kernel
theorem dVS_feed_34 : decode kVS_feed 34 = .ok (.aload_n 0, 1) := by decide +kernel
theorem dVS_feed_35 : decode kVS_feed 35 = .ok (.getfield 10, 3) := by decide +kernel
theorem dVS_feed_38 : decode kVS_feed 38 = .ok (.iload_n 3, 1) := by decide +kernel
theorem dVS_feed_39 : decode kVS_feed 39 = .ok (.invokevirtual 62, 3) := by decide +kernel
theorem dVS_feed_42 : decode kVS_feed 42 = .ok (.aload_n 0, 1) := by decide +kernel
theorem dVS_feed_43 : decode kVS_feed 43 = .ok (.getfield 10, 3) := by decide +kernel
theorem dVS_feed_46 : decode kVS_feed 46 = .ok (.iload 4, 2) := by decide +kernel
theorem dVS_feed_48 : decode kVS_feed 48 = .ok (.invokevirtual 62, 3) := by decide +kernel
theorem dVS_feed_51 : decode kVS_feed 51 = .ok (.aload_n 0, 1) := by decide +kernel
theorem dVS_feed_52 : decode kVS_feed 52 = .ok (.getfield 10, 3) := by decide +kernel
theorem dVS_feed_55 : decode kVS_feed 55 = .ok (.iload 5, 2) := by decide +kernel
theorem dVS_feed_57 : decode kVS_feed 57 = .ok (.invokevirtual 62, 3) := by decide +kernel
theorem dVS_feed_60 : decode kVS_feed 60 = .ok (.aload_n 0, 1) := by decide +kernel
theorem dVS_feed_61 : decode kVS_feed 61 = .ok (.getfield 10, 3) := by decide +kernel
theorem dVS_feed_64 : decode kVS_feed 64 = .ok (.getfield 58, 3) := by decide +kernel
theorem dVS_feed_67 : decode kVS_feed 67 = .ok (.ireturn, 1) := by decide +kernel
theorem dVS_end_0 : decode kVS_end 0 = .ok (.iload_n 1, 1) := by decide +kernel
theorem dVS_end_1 : decode kVS_end 1 = .ok (.ifCond .lt 21, 3) := by decide +kernel
theorem dVS_end_4 : decode kVS_end 4 = .ok (.iload_n 1, 1) := by decide +kernel
theorem dVS_end_5 : decode kVS_end 5 = .ok (.bipush 20, 2) := by decide +kernel
theorem dVS_end_7 : decode kVS_end 7 = .ok (.if_icmp .gt 15, 3) := by decide +kernel
theorem dVS_end_10 : decode kVS_end 10 = .ok (.aload_n 0, 1) := by decide +kernel
theorem dVS_end_11 : decode kVS_end 11 = .ok (.getfield 10, 3) := by decide +kernel
theorem dVS_end_14 : decode kVS_end 14 = .ok (.getfield 58, 3) := by decide +kernel
theorem dVS_end_17 : decode kVS_end 17 = .ok (.bipush 20, 2) := by decide +kernel
theorem dVS_end_19 : decode kVS_end 19 = .ok (.if_icmp .ge 5, 3) := by decide +kernel
theorem dVS_end_22 : decode kVS_end 22 = .ok (.iconst (-1), 1) := by decide +kernel
theorem dVS_end_23 : decode kVS_end 23 = .ok (.ireturn, 1) := by decide +kernel
theorem dVS_end_24 : decode kVS_end 24 = .ok (.aload_n 0, 1) := by decide +kernel
theorem dVS_end_25 : decode kVS_end 25 = .ok (.getfield 10, 3) := by decide +kernel
theorem dVS_end_28 : decode kVS_end 28 = .ok (.aload_n 0, 1) := by decide +kernel
theorem dVS_end_29 : decode kVS_end 29 = .ok (.getfield 10, 3) := by decide +kernel
theorem dVS_end_32 : decode kVS_end 32 = .ok (.getfield 58, 3) := by decide +kernel
theorem dVS_end_35 : decode kVS_end 35 = .ok (.bipush 20, 2) := by decide +kernel
theorem dVS_end_37 : decode kVS_end 37 = .ok (.isub, 1) := by decide +kernel
theorem dVS_end_38 : decode kVS_end 38 = .ok (.iload_n 1, 1) := by decide +kernel
theorem dVS_end_39 : decode kVS_end 39 = .ok (.iadd, 1) := by decide +kernel
theorem dVS_end_40 : decode kVS_end 40 = .ok (.putfield 58, 3) := by decide +kernel
theorem dVS_end_43 : decode kVS_end 43 = .ok (.aload_n 0, 1) := by decide +kernel
theorem dVS_end_44 : decode kVS_end 44 = .ok (.getfield 10, 3) := by decide +kernel
theorem dVS_end_47 : decode kVS_end 47 = .ok (.getfield 58, 3) := by decide +kernel
theorem dVS_end_50 : decode kVS_end 50 = .ok (.ireturn, 1) := by decide +kernel
theorem dVS_entry_0 : decode kVS_entry 0 = .ok (.aload_n 0, 1) := by decide +kernel
theorem dVS_entry_1 : decode kVS_entry 1 = .ok (.getfield 19, 3) := by decide +kernel
theorem dVS_entry_4 : decode kVS_entry 4 = .ok (.getfield 66, 3) := by decide +kernel
theorem dVS_entry_7 : decode kVS_entry 7 = .ok (.bipush 20, 2) := by decide +kernel
theorem dVS_entry_9 : decode kVS_entry 9 = .ok (.if_icmp .lt 6, 3) := by decide +kernel
theorem dVS_entry_12 : decode kVS_entry 12 = .ok (.bipush (-3), 2) := by decide +kernel
theorem dVS_entry_14 : decode kVS_entry 14 = .ok (.ireturn, 1) := by decide +kernel
theorem dVS_entry_15 : decode kVS_entry 15 = .ok (.aload_n 0, 1) := by decide +kernel
theorem dVS_entry_16 : decode kVS_entry 16 = .ok (.getfield 19, 3) := by decide +kernel
theorem dVS_entry_19 : decode kVS_entry 19 = .ok (.aload_n 0, 1) := by decide +kernel
theorem dVS_entry_20 : decode kVS_entry 20 = .ok (.getfield 10, 3) := by decide +kernel
theorem dVS_entry_23 : decode kVS_entry 23 = .ok (.invokevirtual 69, 3) := by decide +kernel
theorem dVS_entry_26 : decode kVS_entry 26 = .ok (.aload_n 0, 1) := by decide +kernel
theorem dVS_entry_27 : decode kVS_entry 27 = .ok (.getfield 10, 3) := by decide +kernel
theorem dVS_entry_30 : decode kVS_entry 30 = .ok (.iconst 0, 1) := by decide +kernel
theorem dVS_entry_31 : decode kVS_entry 31 = .ok (.putfield 58, 3) := by decide +kernel
theorem dVS_entry_34 : decode kVS_entry 34 = .ok (.aload_n 0, 1) := by decide +kernel
theorem dVS_entry_35 : decode kVS_entry 35 = .ok (.getfield 19, 3) := by decide +kernel
theorem dVS_entry_38 : decode kVS_entry 38 = .ok (.getfield 66, 3) := by decide +kernel
theorem dVS_entry_41 : decode kVS_entry 41 = .ok (.iconst 1, 1) := by decide +kernel
theorem dVS_entry_42 : decode kVS_entry 42 = .ok (.isub, 1) := by decide +kernel
theorem dVS_entry_43 : decode kVS_entry 43 = .ok (.ireturn, 1) := by decide +kernel
theorem dVS_clear_0 : decode kVS_clear 0 = .ok (.aload_n 0, 1) := by decide +kernel
theorem dVS_clear_1 : decode kVS_clear 1 = .ok (.getfield 19, 3) := by decide +kernel
theorem dVS_clear_4 : decode kVS_clear 4 = .ok (.getfield 66, 3) := by decide +kernel
theorem dVS_clear_7 : decode kVS_clear 7 = .ok (.istore_n 1, 1) := by decide +kernel
theorem dVS_clear_8 : decode kVS_clear 8 = .ok (.aload_n 0, 1) := by decide +kernel
theorem dVS_clear_9 : decode kVS_clear 9 = .ok (.getfield 19, 3) := by decide +kernel
theorem dVS_clear_12 : decode kVS_clear 12 = .ok (.invokevirtual 73, 3) := by decide +kernel
theorem dVS_clear_15 : decode kVS_clear 15 = .ok (.iload_n 1, 1) := by decide +kernel
theorem dVS_clear_16 : decode kVS_clear 16 = .ok (.ireturn, 1) := by decide +kernel
theorem dVS_rule_0 : decode kVS_rule 0 = .ok (.aload_n 0, 1) := by decide +kernel
theorem dVS_rule_1 : decode kVS_rule 1 = .ok (.getfield 26, 3) := by decide +kernel
theorem dVS_rule_4 : decode kVS_rule 4 = .ok (.iload_n 1, 1) := by decide +kernel
theorem dVS_rule_5 : decode kVS_rule 5 = .ok (.iload_n 2, 1) := by decide +kernel
theorem dVS_rule_6 : decode kVS_rule 6 = .ok (.invokevirtual 76, 3) := by decide +kernel
theorem dVS_rule_9 : decode kVS_rule 9 = .ok (.ireturn, 1) := by decide +kernel
theorem dVS_volumes_0 : decode kVS_volumes 0 = .ok (.aload_n 0, 1) := by decide +kernel
theorem dVS_volumes_1 : decode kVS_volumes 1 = .ok (.getfield 19, 3) := by decide +kernel
theorem dVS_volumes_4 : decode kVS_volumes 4 = .ok (.aload_n 0, 1) := by decide +kernel
theorem dVS_volumes_5 : decode kVS_volumes 5 = .ok (.getfield 26, 3) := by decide +kernel
theorem dVS_volumes_8 : decode kVS_volumes 8 = .ok (.invokevirtual 80, 3) := by decide +kernel
theorem dVS_volumes_11 : decode kVS_volumes 11 = .ok (.invokevirtual 84, 3) := by decide +kernel
theorem dVS_volumes_14 : decode kVS_volumes 14 = .ok (.aload_n 0, 1) := by decide +kernel
theorem dVS_volumes_15 : decode kVS_volumes 15 = .ok (.getfield 26, 3) := by decide +kernel
theorem dVS_volumes_18 : decode kVS_volumes 18 = .ok (.getfield 88, 3) := by decide +kernel
theorem dVS_volumes_21 : decode kVS_volumes 21 = .ok (.iadd, 1) := by decide +kernel
theorem dVS_volumes_22 : decode kVS_volumes 22 = .ok (.istore_n 1, 1) := by decide +kernel
theorem dVS_volumes_23 : decode kVS_volumes 23 = .ok (.iload_n 1, 1) := by decide +kernel
theorem dVS_volumes_24 : decode kVS_volumes 24 = .ok (.bipush 60, 2) := by decide +kernel
theorem dVS_volumes_26 : decode kVS_volumes 26 = .ok (.if_icmp .le 8, 3) := by decide +kernel
theorem dVS_volumes_29 : decode kVS_volumes 29 = .ok (.bipush (-3), 2) := by decide +kernel
theorem dVS_volumes_31 : decode kVS_volumes 31 = .ok (.goto 4, 3) := by decide +kernel
theorem dVS_volumes_34 : decode kVS_volumes 34 = .ok (.iload_n 1, 1) := by decide +kernel
theorem dVS_volumes_35 : decode kVS_volumes 35 = .ok (.ireturn, 1) := by decide +kernel
theorem dVS_byteOf_0 : decode kVS_byteOf 0 = .ok (.aload_n 0, 1) := by decide +kernel
theorem dVS_byteOf_1 : decode kVS_byteOf 1 = .ok (.invokevirtual 91, 3) := by decide +kernel
theorem dVS_byteOf_4 : decode kVS_byteOf 4 = .ok (.istore_n 3, 1) := by decide +kernel
theorem dVS_byteOf_5 : decode kVS_byteOf 5 = .ok (.iload_n 3, 1) := by decide +kernel
theorem dVS_byteOf_6 : decode kVS_byteOf 6 = .ok (.bipush (-3), 2) := by decide +kernel
theorem dVS_byteOf_8 : decode kVS_byteOf 8 = .ok (.if_icmp .ne 6, 3) := by decide +kernel
theorem dVS_byteOf_11 : decode kVS_byteOf 11 = .ok (.bipush (-3), 2) := by decide +kernel
theorem dVS_byteOf_13 : decode kVS_byteOf 13 = .ok (.ireturn, 1) := by decide +kernel
theorem dVS_byteOf_14 : decode kVS_byteOf 14 = .ok (.iload_n 1, 1) := by decide +kernel
theorem dVS_byteOf_15 : decode kVS_byteOf 15 = .ok (.ifCond .lt 23, 3) := by decide +kernel
theorem dVS_byteOf_18 : decode kVS_byteOf 18 = .ok (.iload_n 1, 1) := by decide +kernel
theorem dVS_byteOf_19 : decode kVS_byteOf 19 = .ok (.iload_n 3, 1) := by decide +kernel
theorem dVS_byteOf_20 : decode kVS_byteOf 20 = .ok (.if_icmp .ge 18, 3) := by decide +kernel
theorem dVS_byteOf_23 : decode kVS_byteOf 23 = .ok (.iload_n 2, 1) := by decide +kernel
theorem dVS_byteOf_24 : decode kVS_byteOf 24 = .ok (.ifCond .lt 14, 3) := by decide +kernel
theorem dVS_byteOf_27 : decode kVS_byteOf 27 = .ok (.iload_n 2, 1) := by decide +kernel
theorem dVS_byteOf_28 : decode kVS_byteOf 28 = .ok (.aload_n 0, 1) := by decide +kernel
theorem dVS_byteOf_29 : decode kVS_byteOf 29 = .ok (.getfield 26, 3) := by decide +kernel
theorem dVS_byteOf_32 : decode kVS_byteOf 32 = .ok (.getfield 94, 3) := by decide +kernel
theorem dVS_byteOf_35 : decode kVS_byteOf 35 = .ok (.if_icmp .lt 5, 3) := by decide +kernel
theorem dVS_byteOf_38 : decode kVS_byteOf 38 = .ok (.iconst (-1), 1) := by decide +kernel
theorem dVS_byteOf_39 : decode kVS_byteOf 39 = .ok (.ireturn, 1) := by decide +kernel
theorem dVS_byteOf_40 : decode kVS_byteOf 40 = .ok (.aload_n 0, 1) := by decide +kernel
theorem dVS_byteOf_41 : decode kVS_byteOf 41 = .ok (.getfield 19, 3) := by decide +kernel
theorem dVS_byteOf_44 : decode kVS_byteOf 44 = .ok (.aload_n 0, 1) := by decide +kernel
theorem dVS_byteOf_45 : decode kVS_byteOf 45 = .ok (.getfield 26, 3) := by decide +kernel
theorem dVS_byteOf_48 : decode kVS_byteOf 48 = .ok (.invokevirtual 80, 3) := by decide +kernel
theorem dVS_byteOf_51 : decode kVS_byteOf 51 = .ok (.invokevirtual 97, 3) := by decide +kernel
theorem dVS_byteOf_54 : decode kVS_byteOf 54 = .ok (.aload_n 0, 1) := by decide +kernel
theorem dVS_byteOf_55 : decode kVS_byteOf 55 = .ok (.getfield 33, 3) := by decide +kernel
theorem dVS_byteOf_58 : decode kVS_byteOf 58 = .ok (.iload_n 1, 1) := by decide +kernel
theorem dVS_byteOf_59 : decode kVS_byteOf 59 = .ok (.aload_n 0, 1) := by decide +kernel
theorem dVS_byteOf_60 : decode kVS_byteOf 60 = .ok (.getfield 19, 3) := by decide +kernel
theorem dVS_byteOf_63 : decode kVS_byteOf 63 = .ok (.getfield 100, 3) := by decide +kernel
theorem dVS_byteOf_66 : decode kVS_byteOf 66 = .ok (.aload_n 0, 1) := by decide +kernel
theorem dVS_byteOf_67 : decode kVS_byteOf 67 = .ok (.getfield 26, 3) := by decide +kernel
theorem dVS_byteOf_70 : decode kVS_byteOf 70 = .ok (.invokevirtual 104, 3) := by decide +kernel
theorem dVS_byteOf_73 : decode kVS_byteOf 73 = .ok (.aload_n 0, 1) := by decide +kernel
theorem dVS_byteOf_74 : decode kVS_byteOf 74 = .ok (.getfield 33, 3) := by decide +kernel
theorem dVS_byteOf_77 : decode kVS_byteOf 77 = .ok (.getfield 108, 3) := by decide +kernel
theorem dVS_byteOf_80 : decode kVS_byteOf 80 = .ok (.iload_n 2, 1) := by decide +kernel
theorem dVS_byteOf_81 : decode kVS_byteOf 81 = .ok (.invokevirtual 112, 3) := by decide +kernel
theorem dVS_byteOf_84 : decode kVS_byteOf 84 = .ok (.ireturn, 1) := by decide +kernel
theorem dVS_write_0 : decode kVS_write 0 = .ok (.iload_n 1, 1) := by decide +kernel
theorem dVS_write_1 : decode kVS_write 1 = .ok (.iconst (-1), 1) := by decide +kernel
theorem dVS_write_2 : decode kVS_write 2 = .ok (.if_icmp .lt 9, 3) := by decide +kernel
theorem dVS_write_5 : decode kVS_write 5 = .ok (.iload_n 1, 1) := by decide +kernel
theorem dVS_write_6 : decode kVS_write 6 = .ok (.bipush 60, 2) := by decide +kernel
theorem dVS_write_8 : decode kVS_write 8 = .ok (.if_icmp .le 5, 3) := by decide +kernel
theorem dVS_write_11 : decode kVS_write 11 = .ok (.iconst (-1), 1) := by decide +kernel
theorem dVS_write_12 : decode kVS_write 12 = .ok (.ireturn, 1) := by decide +kernel
theorem dVS_write_13 : decode kVS_write 13 = .ok (.aload_n 0, 1) := by decide +kernel
theorem dVS_write_14 : decode kVS_write 14 = .ok (.invokevirtual 91, 3) := by decide +kernel
theorem dVS_write_17 : decode kVS_write 17 = .ok (.bipush (-3), 2) := by decide +kernel
theorem dVS_write_19 : decode kVS_write 19 = .ok (.if_icmp .ne 6, 3) := by decide +kernel
theorem dVS_write_22 : decode kVS_write 22 = .ok (.bipush (-3), 2) := by decide +kernel
theorem dVS_write_24 : decode kVS_write 24 = .ok (.ireturn, 1) := by decide +kernel
theorem dVS_write_25 : decode kVS_write 25 = .ok (.iload_n 1, 1) := by decide +kernel
theorem dVS_write_26 : decode kVS_write 26 = .ok (.ifCond .ge 8, 3) := by decide +kernel
theorem dVS_write_29 : decode kVS_write 29 = .ok (.bipush 60, 2) := by decide +kernel
theorem dVS_write_31 : decode kVS_write 31 = .ok (.goto 4, 3) := by decide +kernel
theorem dVS_write_34 : decode kVS_write 34 = .ok (.iload_n 1, 1) := by decide +kernel
theorem dVS_write_35 : decode kVS_write 35 = .ok (.istore_n 2, 1) := by decide +kernel
theorem dVS_write_36 : decode kVS_write 36 = .ok (.aload_n 0, 1) := by decide +kernel
theorem dVS_write_37 : decode kVS_write 37 = .ok (.getfield 19, 3) := by decide +kernel
theorem dVS_write_40 : decode kVS_write 40 = .ok (.aload_n 0, 1) := by decide +kernel
theorem dVS_write_41 : decode kVS_write 41 = .ok (.getfield 26, 3) := by decide +kernel
theorem dVS_write_44 : decode kVS_write 44 = .ok (.invokevirtual 80, 3) := by decide +kernel
theorem dVS_write_47 : decode kVS_write 47 = .ok (.invokevirtual 97, 3) := by decide +kernel
theorem dVS_write_50 : decode kVS_write 50 = .ok (.aload_n 0, 1) := by decide +kernel
theorem dVS_write_51 : decode kVS_write 51 = .ok (.getfield 33, 3) := by decide +kernel
theorem dVS_write_54 : decode kVS_write 54 = .ok (.aload_n 0, 1) := by decide +kernel
theorem dVS_write_55 : decode kVS_write 55 = .ok (.getfield 40, 3) := by decide +kernel
theorem dVS_write_58 : decode kVS_write 58 = .ok (.aload_n 0, 1) := by decide +kernel
theorem dVS_write_59 : decode kVS_write 59 = .ok (.getfield 19, 3) := by decide +kernel
theorem dVS_write_62 : decode kVS_write 62 = .ok (.getfield 100, 3) := by decide +kernel
theorem dVS_write_65 : decode kVS_write 65 = .ok (.aload_n 0, 1) := by decide +kernel
theorem dVS_write_66 : decode kVS_write 66 = .ok (.getfield 26, 3) := by decide +kernel
theorem dVS_write_69 : decode kVS_write 69 = .ok (.invokevirtual 117, 3) := by decide +kernel
theorem dVS_write_72 : decode kVS_write 72 = .ok (.iload_n 2, 1) := by decide +kernel
theorem dVS_write_73 : decode kVS_write 73 = .ok (.iconst 1, 1) := by decide +kernel
theorem dVS_write_74 : decode kVS_write 74 = .ok (.iadd, 1) := by decide +kernel
theorem dVS_write_75 : decode kVS_write 75 = .ok (.invokestatic 121, 3) := by decide +kernel
theorem dVS_write_78 : decode kVS_write 78 = .ok (.istore_n 3, 1) := by decide +kernel
theorem dVS_write_79 : decode kVS_write 79 = .ok (.iload_n 3, 1) := by decide +kernel
theorem dVS_write_80 : decode kVS_write 80 = .ok (.bipush 60, 2) := by decide +kernel
theorem dVS_write_82 : decode kVS_write 82 = .ok (.aload_n 0, 1) := by decide +kernel
theorem dVS_write_83 : decode kVS_write 83 = .ok (.getfield 40, 3) := by decide +kernel
theorem dVS_write_86 : decode kVS_write 86 = .ok (.invokevirtual 126, 3) := by decide +kernel
theorem dVS_write_89 : decode kVS_write 89 = .ok (.isub, 1) := by decide +kernel
theorem dVS_write_90 : decode kVS_write 90 = .ok (.if_icmp .le 6, 3) := by decide +kernel
theorem dVS_write_93 : decode kVS_write 93 = .ok (.bipush (-3), 2) := by decide +kernel
theorem dVS_write_95 : decode kVS_write 95 = .ok (.ireturn, 1) := by decide +kernel
theorem dVS_write_96 : decode kVS_write 96 = .ok (.aload_n 0, 1) := by decide +kernel
theorem dVS_write_97 : decode kVS_write 97 = .ok (.getfield 33, 3) := by decide +kernel
theorem dVS_write_100 : decode kVS_write 100 = .ok (.aload_n 0, 1) := by decide +kernel
theorem dVS_write_101 : decode kVS_write 101 = .ok (.getfield 40, 3) := by decide +kernel
theorem dVS_write_104 : decode kVS_write 104 = .ok (.aload_n 0, 1) := by decide +kernel
theorem dVS_write_105 : decode kVS_write 105 = .ok (.getfield 19, 3) := by decide +kernel
theorem dVS_write_108 : decode kVS_write 108 = .ok (.getfield 100, 3) := by decide +kernel
theorem dVS_write_111 : decode kVS_write 111 = .ok (.aload_n 0, 1) := by decide +kernel
theorem dVS_write_112 : decode kVS_write 112 = .ok (.getfield 26, 3) := by decide +kernel
theorem dVS_write_115 : decode kVS_write 115 = .ok (.iload_n 2, 1) := by decide +kernel
theorem dVS_write_116 : decode kVS_write 116 = .ok (.invokevirtual 129, 3) := by decide +kernel
theorem dVS_write_119 : decode kVS_write 119 = .ok (.ireturn, 1) := by decide +kernel
theorem dVS_lose_0 : decode kVS_lose 0 = .ok (.aload_n 0, 1) := by decide +kernel
theorem dVS_lose_1 : decode kVS_lose 1 = .ok (.getfield 40, 3) := by decide +kernel
theorem dVS_lose_4 : decode kVS_lose 4 = .ok (.iload_n 1, 1) := by decide +kernel
theorem dVS_lose_5 : decode kVS_lose 5 = .ok (.invokevirtual 133, 3) := by decide +kernel
theorem dVS_lose_8 : decode kVS_lose 8 = .ok (.astore_n 2, 1) := by decide +kernel
theorem dVS_lose_9 : decode kVS_lose 9 = .ok (.aload_n 2, 1) := by decide +kernel
theorem dVS_lose_10 : decode kVS_lose 10 = .ok (.ifnull 10, 3) := by decide +kernel
theorem dVS_lose_13 : decode kVS_lose 13 = .ok (.aload_n 2, 1) := by decide +kernel
theorem dVS_lose_14 : decode kVS_lose 14 = .ok (.getfield 137, 3) := by decide +kernel
theorem dVS_lose_17 : decode kVS_lose 17 = .ok (.ifCond .ne 5, 3) := by decide +kernel
theorem dVS_lose_20 : decode kVS_lose 20 = .ok (.iconst (-1), 1) := by decide +kernel
theorem dVS_lose_21 : decode kVS_lose 21 = .ok (.ireturn, 1) := by decide +kernel
theorem dVS_lose_22 : decode kVS_lose 22 = .ok (.aload_n 2, 1) := by decide +kernel
theorem dVS_lose_23 : decode kVS_lose 23 = .ok (.getfield 137, 3) := by decide +kernel
theorem dVS_lose_26 : decode kVS_lose 26 = .ok (.istore_n 3, 1) := by decide +kernel
theorem dVS_lose_27 : decode kVS_lose 27 = .ok (.aload_n 2, 1) := by decide +kernel
theorem dVS_lose_28 : decode kVS_lose 28 = .ok (.iconst 0, 1) := by decide +kernel
theorem dVS_lose_29 : decode kVS_lose 29 = .ok (.putfield 137, 3) := by decide +kernel
theorem dVS_lose_32 : decode kVS_lose 32 = .ok (.iload_n 3, 1) := by decide +kernel
theorem dVS_lose_33 : decode kVS_lose 33 = .ok (.ireturn, 1) := by decide +kernel
theorem dVS_poke_0 : decode kVS_poke 0 = .ok (.aload_n 0, 1) := by decide +kernel
theorem dVS_poke_1 : decode kVS_poke 1 = .ok (.getfield 40, 3) := by decide +kernel
theorem dVS_poke_4 : decode kVS_poke 4 = .ok (.iload_n 1, 1) := by decide +kernel
theorem dVS_poke_5 : decode kVS_poke 5 = .ok (.invokevirtual 133, 3) := by decide +kernel
theorem dVS_poke_8 : decode kVS_poke 8 = .ok (.astore 4, 2) := by decide +kernel
theorem dVS_poke_10 : decode kVS_poke 10 = .ok (.aload 4, 2) := by decide +kernel
theorem dVS_poke_12 : decode kVS_poke 12 = .ok (.ifnull 28, 3) := by decide +kernel
theorem dVS_poke_15 : decode kVS_poke 15 = .ok (.iload_n 2, 1) := by decide +kernel
theorem dVS_poke_16 : decode kVS_poke 16 = .ok (.ifCond .lt 24, 3) := by decide +kernel
theorem dVS_poke_19 : decode kVS_poke 19 = .ok (.iload_n 2, 1) := by decide +kernel
theorem dVS_poke_20 : decode kVS_poke 20 = .ok (.aload 4, 2) := by decide +kernel
theorem dVS_poke_22 : decode kVS_poke 22 = .ok (.getfield 137, 3) := by decide +kernel
theorem dVS_poke_25 : decode kVS_poke 25 = .ok (.if_icmp .ge 15, 3) := by decide +kernel
theorem dVS_poke_28 : decode kVS_poke 28 = .ok (.iload_n 3, 1) := by decide +kernel
theorem dVS_poke_29 : decode kVS_poke 29 = .ok (.iconst 1, 1) := by decide +kernel
theorem dVS_poke_30 : decode kVS_poke 30 = .ok (.if_icmp .lt 10, 3) := by decide +kernel
theorem dVS_poke_33 : decode kVS_poke 33 = .ok (.iload_n 3, 1) := by decide +kernel
theorem dVS_poke_34 : decode kVS_poke 34 = .ok (.sipush 255, 3) := by decide +kernel
theorem dVS_poke_37 : decode kVS_poke 37 = .ok (.if_icmp .le 5, 3) := by decide +kernel
theorem dVS_poke_40 : decode kVS_poke 40 = .ok (.iconst (-1), 1) := by decide +kernel
theorem dVS_poke_41 : decode kVS_poke 41 = .ok (.ireturn, 1) := by decide +kernel
theorem dVS_poke_42 : decode kVS_poke 42 = .ok (.aload 4, 2) := by decide +kernel
theorem dVS_poke_44 : decode kVS_poke 44 = .ok (.iload_n 2, 1) := by decide +kernel
theorem dVS_poke_45 : decode kVS_poke 45 = .ok (.aload 4, 2) := by decide +kernel
theorem dVS_poke_47 : decode kVS_poke 47 = .ok (.iload_n 2, 1) := by decide +kernel
theorem dVS_poke_48 : decode kVS_poke 48 = .ok (.invokevirtual 112, 3) := by decide +kernel
theorem dVS_poke_51 : decode kVS_poke 51 = .ok (.iload_n 3, 1) := by decide +kernel
theorem dVS_poke_52 : decode kVS_poke 52 = .ok (.ixor, 1) := by decide +kernel
theorem dVS_poke_53 : decode kVS_poke 53 = .ok (.invokevirtual 138, 3) := by decide +kernel
theorem dVS_poke_56 : decode kVS_poke 56 = .ok (.aload 4, 2) := by decide +kernel
theorem dVS_poke_58 : decode kVS_poke 58 = .ok (.iload_n 2, 1) := by decide +kernel
theorem dVS_poke_59 : decode kVS_poke 59 = .ok (.invokevirtual 112, 3) := by decide +kernel
theorem dVS_poke_62 : decode kVS_poke 62 = .ok (.ireturn, 1) := by decide +kernel
theorem dVS_swap_0 : decode kVS_swap 0 = .ok (.aload_n 0, 1) := by decide +kernel
theorem dVS_swap_1 : decode kVS_swap 1 = .ok (.getfield 40, 3) := by decide +kernel
theorem dVS_swap_4 : decode kVS_swap 4 = .ok (.iload_n 1, 1) := by decide +kernel
theorem dVS_swap_5 : decode kVS_swap 5 = .ok (.invokevirtual 133, 3) := by decide +kernel
theorem dVS_swap_8 : decode kVS_swap 8 = .ok (.ifnull 14, 3) := by decide +kernel
theorem dVS_swap_11 : decode kVS_swap 11 = .ok (.aload_n 0, 1) := by decide +kernel
theorem dVS_swap_12 : decode kVS_swap 12 = .ok (.getfield 40, 3) := by decide +kernel
theorem dVS_swap_15 : decode kVS_swap 15 = .ok (.iload_n 2, 1) := by decide +kernel
theorem dVS_swap_16 : decode kVS_swap 16 = .ok (.invokevirtual 133, 3) := by decide +kernel
theorem dVS_swap_19 : decode kVS_swap 19 = .ok (.ifnonnull 5, 3) := by decide +kernel
theorem dVS_swap_22 : decode kVS_swap 22 = .ok (.iconst (-1), 1) := by decide +kernel
theorem dVS_swap_23 : decode kVS_swap 23 = .ok (.ireturn, 1) := by decide +kernel
theorem dVS_swap_24 : decode kVS_swap 24 = .ok (.aload_n 0, 1) := by decide +kernel
theorem dVS_swap_25 : decode kVS_swap 25 = .ok (.getfield 40, 3) := by decide +kernel
theorem dVS_swap_28 : decode kVS_swap 28 = .ok (.iload_n 1, 1) := by decide +kernel
theorem dVS_swap_29 : decode kVS_swap 29 = .ok (.iload_n 2, 1) := by decide +kernel
theorem dVS_swap_30 : decode kVS_swap 30 = .ok (.invokevirtual 142, 3) := by decide +kernel
theorem dVS_swap_33 : decode kVS_swap 33 = .ok (.iconst 1, 1) := by decide +kernel
theorem dVS_swap_34 : decode kVS_swap 34 = .ok (.ireturn, 1) := by decide +kernel
theorem dVS_copy_0 : decode kVS_copy 0 = .ok (.aload_n 0, 1) := by decide +kernel
theorem dVS_copy_1 : decode kVS_copy 1 = .ok (.getfield 40, 3) := by decide +kernel
theorem dVS_copy_4 : decode kVS_copy 4 = .ok (.iload_n 1, 1) := by decide +kernel
theorem dVS_copy_5 : decode kVS_copy 5 = .ok (.invokevirtual 133, 3) := by decide +kernel
theorem dVS_copy_8 : decode kVS_copy 8 = .ok (.astore_n 3, 1) := by decide +kernel
theorem dVS_copy_9 : decode kVS_copy 9 = .ok (.aload_n 0, 1) := by decide +kernel
theorem dVS_copy_10 : decode kVS_copy 10 = .ok (.getfield 40, 3) := by decide +kernel
theorem dVS_copy_13 : decode kVS_copy 13 = .ok (.iload_n 2, 1) := by decide +kernel
theorem dVS_copy_14 : decode kVS_copy 14 = .ok (.invokevirtual 133, 3) := by decide +kernel
theorem dVS_copy_17 : decode kVS_copy 17 = .ok (.astore 4, 2) := by decide +kernel
theorem dVS_copy_19 : decode kVS_copy 19 = .ok (.aload_n 3, 1) := by decide +kernel
theorem dVS_copy_20 : decode kVS_copy 20 = .ok (.ifnull 23, 3) := by decide +kernel
theorem dVS_copy_23 : decode kVS_copy 23 = .ok (.aload 4, 2) := by decide +kernel
theorem dVS_copy_25 : decode kVS_copy 25 = .ok (.ifnull 18, 3) := by decide +kernel
theorem dVS_copy_28 : decode kVS_copy 28 = .ok (.aload_n 3, 1) := by decide +kernel
theorem dVS_copy_29 : decode kVS_copy 29 = .ok (.getfield 137, 3) := by decide +kernel
theorem dVS_copy_32 : decode kVS_copy 32 = .ok (.ifCond .eq 11, 3) := by decide +kernel
theorem dVS_copy_35 : decode kVS_copy 35 = .ok (.aload 4, 2) := by decide +kernel
theorem dVS_copy_37 : decode kVS_copy 37 = .ok (.getfield 137, 3) := by decide +kernel
theorem dVS_copy_40 : decode kVS_copy 40 = .ok (.ifCond .eq 5, 3) := by decide +kernel
theorem dVS_copy_43 : decode kVS_copy 43 = .ok (.iconst (-1), 1) := by decide +kernel
theorem dVS_copy_44 : decode kVS_copy 44 = .ok (.ireturn, 1) := by decide +kernel
theorem dVS_copy_45 : decode kVS_copy 45 = .ok (.aload 4, 2) := by decide +kernel
theorem dVS_copy_47 : decode kVS_copy 47 = .ok (.aload_n 3, 1) := by decide +kernel
theorem dVS_copy_48 : decode kVS_copy 48 = .ok (.invokevirtual 145, 3) := by decide +kernel
theorem dVS_copy_51 : decode kVS_copy 51 = .ok (.aload 4, 2) := by decide +kernel
theorem dVS_copy_53 : decode kVS_copy 53 = .ok (.getfield 137, 3) := by decide +kernel
theorem dVS_copy_56 : decode kVS_copy 56 = .ok (.ireturn, 1) := by decide +kernel
theorem dVS_slot_0 : decode kVS_slot 0 = .ok (.aload_n 0, 1) := by decide +kernel
theorem dVS_slot_1 : decode kVS_slot 1 = .ok (.getfield 40, 3) := by decide +kernel
theorem dVS_slot_4 : decode kVS_slot 4 = .ok (.iload_n 1, 1) := by decide +kernel
theorem dVS_slot_5 : decode kVS_slot 5 = .ok (.invokevirtual 133, 3) := by decide +kernel
theorem dVS_slot_8 : decode kVS_slot 8 = .ok (.astore_n 3, 1) := by decide +kernel
theorem dVS_slot_9 : decode kVS_slot 9 = .ok (.aload_n 3, 1) := by decide +kernel
theorem dVS_slot_10 : decode kVS_slot 10 = .ok (.ifnull 12, 3) := by decide +kernel
theorem dVS_slot_13 : decode kVS_slot 13 = .ok (.iload_n 2, 1) := by decide +kernel
theorem dVS_slot_14 : decode kVS_slot 14 = .ok (.ifCond .lt 8, 3) := by decide +kernel
theorem dVS_slot_17 : decode kVS_slot 17 = .ok (.iload_n 2, 1) := by decide +kernel
theorem dVS_slot_18 : decode kVS_slot 18 = .ok (.iconst 5, 1) := by decide +kernel
theorem dVS_slot_19 : decode kVS_slot 19 = .ok (.if_icmp .le 5, 3) := by decide +kernel
theorem dVS_slot_22 : decode kVS_slot 22 = .ok (.iconst (-1), 1) := by decide +kernel
theorem dVS_slot_23 : decode kVS_slot 23 = .ok (.ireturn, 1) := by decide +kernel
theorem dVS_slot_24 : decode kVS_slot 24 = .ok (.iload_n 2, 1) := by decide +kernel
theorem dVS_slot_25 : decode kVS_slot 25 = .ok (.ifCond .ne 8, 3) := by decide +kernel
theorem dVS_slot_28 : decode kVS_slot 28 = .ok (.aload_n 3, 1) := by decide +kernel
theorem dVS_slot_29 : decode kVS_slot 29 = .ok (.invokevirtual 149, 3) := by decide +kernel
theorem dVS_slot_32 : decode kVS_slot 32 = .ok (.ireturn, 1) := by decide +kernel
theorem dVS_slot_33 : decode kVS_slot 33 = .ok (.iload_n 2, 1) := by decide +kernel
theorem dVS_slot_34 : decode kVS_slot 34 = .ok (.iconst 5, 1) := by decide +kernel
theorem dVS_slot_35 : decode kVS_slot 35 = .ok (.if_icmp .ne 20, 3) := by decide +kernel
theorem dVS_slot_38 : decode kVS_slot 38 = .ok (.aload_n 3, 1) := by decide +kernel
theorem dVS_slot_39 : decode kVS_slot 39 = .ok (.getfield 137, 3) := by decide +kernel
theorem dVS_slot_42 : decode kVS_slot 42 = .ok (.ifCond .ne 8, 3) := by decide +kernel
theorem dVS_slot_45 : decode kVS_slot 45 = .ok (.bipush (-2), 2) := by decide +kernel
theorem dVS_slot_47 : decode kVS_slot 47 = .ok (.goto 7, 3) := by decide +kernel
theorem dVS_slot_50 : decode kVS_slot 50 = .ok (.aload_n 3, 1) := by decide +kernel
theorem dVS_slot_51 : decode kVS_slot 51 = .ok (.getfield 137, 3) := by decide +kernel
theorem dVS_slot_54 : decode kVS_slot 54 = .ok (.ireturn, 1) := by decide +kernel
theorem dVS_slot_55 : decode kVS_slot 55 = .ok (.aload_n 3, 1) := by decide +kernel
theorem dVS_slot_56 : decode kVS_slot 56 = .ok (.invokevirtual 152, 3) := by decide +kernel
theorem dVS_slot_59 : decode kVS_slot 59 = .ok (.ifCond .eq 15, 3) := by decide +kernel
theorem dVS_slot_62 : decode kVS_slot 62 = .ok (.aload_n 3, 1) := by decide +kernel
theorem dVS_slot_63 : decode kVS_slot 63 = .ok (.iconst 2, 1) := by decide +kernel
theorem dVS_slot_64 : decode kVS_slot 64 = .ok (.iload_n 2, 1) := by decide +kernel
theorem dVS_slot_65 : decode kVS_slot 65 = .ok (.iadd, 1) := by decide +kernel
theorem dVS_slot_66 : decode kVS_slot 66 = .ok (.iconst 1, 1) := by decide +kernel
theorem dVS_slot_67 : decode kVS_slot 67 = .ok (.isub, 1) := by decide +kernel
theorem dVS_slot_68 : decode kVS_slot 68 = .ok (.invokevirtual 112, 3) := by decide +kernel
theorem dVS_slot_71 : decode kVS_slot 71 = .ok (.goto 5, 3) := by decide +kernel
theorem dVS_slot_74 : decode kVS_slot 74 = .ok (.bipush (-2), 2) := by decide +kernel
theorem dVS_slot_76 : decode kVS_slot 76 = .ok (.ireturn, 1) := by decide +kernel
theorem dVS_read_0 : decode kVS_read 0 = .ok (.iload_n 1, 1) := by decide +kernel
theorem dVS_read_1 : decode kVS_read 1 = .ok (.ifCond .lt 10, 3) := by decide +kernel
theorem dVS_read_4 : decode kVS_read 4 = .ok (.iload_n 1, 1) := by decide +kernel
theorem dVS_read_5 : decode kVS_read 5 = .ok (.sipush 255, 3) := by decide +kernel
theorem dVS_read_8 : decode kVS_read 8 = .ok (.if_icmp .le 5, 3) := by decide +kernel
theorem dVS_read_11 : decode kVS_read 11 = .ok (.iconst (-1), 1) := by decide +kernel
theorem dVS_read_12 : decode kVS_read 12 = .ok (.ireturn, 1) := by decide +kernel
theorem dVS_read_13 : decode kVS_read 13 = .ok (.aload_n 0, 1) := by decide +kernel
theorem dVS_read_14 : decode kVS_read 14 = .ok (.getfield 47, 3) := by decide +kernel
theorem dVS_read_17 : decode kVS_read 17 = .ok (.aload_n 0, 1) := by decide +kernel
theorem dVS_read_18 : decode kVS_read 18 = .ok (.getfield 40, 3) := by decide +kernel
theorem dVS_read_21 : decode kVS_read 21 = .ok (.iload_n 1, 1) := by decide +kernel
theorem dVS_read_22 : decode kVS_read 22 = .ok (.invokevirtual 156, 3) := by decide +kernel
theorem dVS_read_25 : decode kVS_read 25 = .ok (.istore_n 2, 1) := by decide +kernel
theorem dVS_read_26 : decode kVS_read 26 = .ok (.aload_n 0, 1) := by decide +kernel
theorem dVS_read_27 : decode kVS_read 27 = .ok (.getfield 47, 3) := by decide +kernel
theorem dVS_read_30 : decode kVS_read 30 = .ok (.getfield 160, 3) := by decide +kernel
theorem dVS_read_33 : decode kVS_read 33 = .ok (.ifCond .eq 20, 3) := by decide +kernel
theorem dVS_read_36 : decode kVS_read 36 = .ok (.aload_n 0, 1) := by decide +kernel
theorem dVS_read_37 : decode kVS_read 37 = .ok (.getfield 54, 3) := by decide +kernel
theorem dVS_read_40 : decode kVS_read 40 = .ok (.aload_n 0, 1) := by decide +kernel
theorem dVS_read_41 : decode kVS_read 41 = .ok (.getfield 47, 3) := by decide +kernel
theorem dVS_read_44 : decode kVS_read 44 = .ok (.getfield 164, 3) := by decide +kernel
theorem dVS_read_47 : decode kVS_read 47 = .ok (.invokevirtual 165, 3) := by decide +kernel
theorem dVS_read_50 : decode kVS_read 50 = .ok (.goto 11, 3) := by decide +kernel
theorem dVS_read_53 : decode kVS_read 53 = .ok (.aload_n 0, 1) := by decide +kernel
theorem dVS_read_54 : decode kVS_read 54 = .ok (.getfield 54, 3) := by decide +kernel
theorem dVS_read_57 : decode kVS_read 57 = .ok (.iconst 0, 1) := by decide +kernel
theorem dVS_read_58 : decode kVS_read 58 = .ok (.putfield 169, 3) := by decide +kernel
theorem dVS_read_61 : decode kVS_read 61 = .ok (.iload_n 2, 1) := by decide +kernel
theorem dVS_read_62 : decode kVS_read 62 = .ok (.ireturn, 1) := by decide +kernel
theorem dVS_found_0 : decode kVS_found 0 = .ok (.iload_n 1, 1) := by decide +kernel
theorem dVS_found_1 : decode kVS_found 1 = .ok (.ifCond .lt 8, 3) := by decide +kernel
theorem dVS_found_4 : decode kVS_found 4 = .ok (.iload_n 1, 1) := by decide +kernel
theorem dVS_found_5 : decode kVS_found 5 = .ok (.iconst 5, 1) := by decide +kernel
theorem dVS_found_6 : decode kVS_found 6 = .ok (.if_icmp .le 5, 3) := by decide +kernel
theorem dVS_found_9 : decode kVS_found 9 = .ok (.iconst (-1), 1) := by decide +kernel
theorem dVS_found_10 : decode kVS_found 10 = .ok (.ireturn, 1) := by decide +kernel
theorem dVS_found_11 : decode kVS_found 11 = .ok (.aload_n 0, 1) := by decide +kernel
theorem dVS_found_12 : decode kVS_found 12 = .ok (.getfield 47, 3) := by decide +kernel
theorem dVS_found_15 : decode kVS_found 15 = .ok (.getfield 160, 3) := by decide +kernel
theorem dVS_found_18 : decode kVS_found 18 = .ok (.ifCond .ne 6, 3) := by decide +kernel
theorem dVS_found_21 : decode kVS_found 21 = .ok (.bipush (-2), 2) := by decide +kernel
theorem dVS_found_23 : decode kVS_found 23 = .ok (.ireturn, 1) := by decide +kernel
theorem dVS_found_24 : decode kVS_found 24 = .ok (.iload_n 1, 1) := by decide +kernel
theorem dVS_found_25 : decode kVS_found 25 = .ok (.tableswitch 78 0 4 #[35, 46, 54, 62, 70], 35) := by decide +kernel
theorem dVS_found_60 : decode kVS_found 60 = .ok (.aload_n 0, 1) := by decide +kernel
theorem dVS_found_61 : decode kVS_found 61 = .ok (.getfield 47, 3) := by decide +kernel
theorem dVS_found_64 : decode kVS_found 64 = .ok (.getfield 164, 3) := by decide +kernel
theorem dVS_found_67 : decode kVS_found 67 = .ok (.getfield 172, 3) := by decide +kernel
theorem dVS_found_70 : decode kVS_found 70 = .ok (.ireturn, 1) := by decide +kernel
theorem dVS_found_71 : decode kVS_found 71 = .ok (.aload_n 0, 1) := by decide +kernel
theorem dVS_found_72 : decode kVS_found 72 = .ok (.getfield 47, 3) := by decide +kernel
theorem dVS_found_75 : decode kVS_found 75 = .ok (.getfield 177, 3) := by decide +kernel
theorem dVS_found_78 : decode kVS_found 78 = .ok (.ireturn, 1) := by decide +kernel
theorem dVS_found_79 : decode kVS_found 79 = .ok (.aload_n 0, 1) := by decide +kernel
theorem dVS_found_80 : decode kVS_found 80 = .ok (.getfield 47, 3) := by decide +kernel
theorem dVS_found_83 : decode kVS_found 83 = .ok (.getfield 178, 3) := by decide +kernel
theorem dVS_found_86 : decode kVS_found 86 = .ok (.ireturn, 1) := by decide +kernel
theorem dVS_found_87 : decode kVS_found 87 = .ok (.aload_n 0, 1) := by decide +kernel
theorem dVS_found_88 : decode kVS_found 88 = .ok (.getfield 47, 3) := by decide +kernel
theorem dVS_found_91 : decode kVS_found 91 = .ok (.getfield 179, 3) := by decide +kernel
theorem dVS_found_94 : decode kVS_found 94 = .ok (.ireturn, 1) := by decide +kernel
theorem dVS_found_95 : decode kVS_found 95 = .ok (.aload_n 0, 1) := by decide +kernel
theorem dVS_found_96 : decode kVS_found 96 = .ok (.getfield 54, 3) := by decide +kernel
theorem dVS_found_99 : decode kVS_found 99 = .ok (.getfield 169, 3) := by decide +kernel
theorem dVS_found_102 : decode kVS_found 102 = .ok (.ireturn, 1) := by decide +kernel
theorem dVS_found_103 : decode kVS_found 103 = .ok (.aload_n 0, 1) := by decide +kernel
theorem dVS_found_104 : decode kVS_found 104 = .ok (.getfield 54, 3) := by decide +kernel
theorem dVS_found_107 : decode kVS_found 107 = .ok (.invokevirtual 182, 3) := by decide +kernel
theorem dVS_found_110 : decode kVS_found 110 = .ok (.ireturn, 1) := by decide +kernel
theorem dVS_where_0 : decode kVS_where 0 = .ok (.aload_n 0, 1) := by decide +kernel
theorem dVS_where_1 : decode kVS_where 1 = .ok (.getfield 47, 3) := by decide +kernel
theorem dVS_where_4 : decode kVS_where 4 = .ok (.getfield 160, 3) := by decide +kernel
theorem dVS_where_7 : decode kVS_where 7 = .ok (.ifCond .eq 29, 3) := by decide +kernel
theorem dVS_where_10 : decode kVS_where 10 = .ok (.iload_n 1, 1) := by decide +kernel
theorem dVS_where_11 : decode kVS_where 11 = .ok (.ifCond .lt 25, 3) := by decide +kernel
theorem dVS_where_14 : decode kVS_where 14 = .ok (.iload_n 1, 1) := by decide +kernel
theorem dVS_where_15 : decode kVS_where 15 = .ok (.aload_n 0, 1) := by decide +kernel
theorem dVS_where_16 : decode kVS_where 16 = .ok (.getfield 47, 3) := by decide +kernel
theorem dVS_where_19 : decode kVS_where 19 = .ok (.getfield 164, 3) := by decide +kernel
theorem dVS_where_22 : decode kVS_where 22 = .ok (.getfield 172, 3) := by decide +kernel
theorem dVS_where_25 : decode kVS_where 25 = .ok (.aload_n 0, 1) := by decide +kernel
theorem dVS_where_26 : decode kVS_where 26 = .ok (.getfield 47, 3) := by decide +kernel
theorem dVS_where_29 : decode kVS_where 29 = .ok (.getfield 177, 3) := by decide +kernel
theorem dVS_where_32 : decode kVS_where 32 = .ok (.iadd, 1) := by decide +kernel
theorem dVS_where_33 : decode kVS_where 33 = .ok (.if_icmp .lt 5, 3) := by decide +kernel
theorem dVS_where_36 : decode kVS_where 36 = .ok (.iconst (-1), 1) := by decide +kernel
theorem dVS_where_37 : decode kVS_where 37 = .ok (.ireturn, 1) := by decide +kernel
theorem dVS_where_38 : decode kVS_where 38 = .ok (.aload_n 0, 1) := by decide +kernel
theorem dVS_where_39 : decode kVS_where 39 = .ok (.getfield 47, 3) := by decide +kernel
theorem dVS_where_42 : decode kVS_where 42 = .ok (.iload_n 1, 1) := by decide +kernel
theorem dVS_where_43 : decode kVS_where 43 = .ok (.invokevirtual 185, 3) := by decide +kernel
theorem dVS_where_46 : decode kVS_where 46 = .ok (.ireturn, 1) := by decide +kernel
theorem dVS_got_0 : decode kVS_got 0 = .ok (.aload_n 0, 1) := by decide +kernel
theorem dVS_got_1 : decode kVS_got 1 = .ok (.getfield 47, 3) := by decide +kernel
theorem dVS_got_4 : decode kVS_got 4 = .ok (.getfield 160, 3) := by decide +kernel
theorem dVS_got_7 : decode kVS_got 7 = .ok (.ifCond .eq 21, 3) := by decide +kernel
theorem dVS_got_10 : decode kVS_got 10 = .ok (.iload_n 1, 1) := by decide +kernel
theorem dVS_got_11 : decode kVS_got 11 = .ok (.ifCond .lt 17, 3) := by decide +kernel
theorem dVS_got_14 : decode kVS_got 14 = .ok (.iload_n 1, 1) := by decide +kernel
theorem dVS_got_15 : decode kVS_got 15 = .ok (.aload_n 0, 1) := by decide +kernel
theorem dVS_got_16 : decode kVS_got 16 = .ok (.getfield 47, 3) := by decide +kernel
theorem dVS_got_19 : decode kVS_got 19 = .ok (.getfield 164, 3) := by decide +kernel
theorem dVS_got_22 : decode kVS_got 22 = .ok (.invokevirtual 188, 3) := by decide +kernel
theorem dVS_got_25 : decode kVS_got 25 = .ok (.if_icmp .lt 5, 3) := by decide +kernel
theorem dVS_got_28 : decode kVS_got 28 = .ok (.iconst (-1), 1) := by decide +kernel
theorem dVS_got_29 : decode kVS_got 29 = .ok (.ireturn, 1) := by decide +kernel
theorem dVS_got_30 : decode kVS_got 30 = .ok (.aload_n 0, 1) := by decide +kernel
theorem dVS_got_31 : decode kVS_got 31 = .ok (.getfield 47, 3) := by decide +kernel
theorem dVS_got_34 : decode kVS_got 34 = .ok (.getfield 164, 3) := by decide +kernel
theorem dVS_got_37 : decode kVS_got 37 = .ok (.iload_n 1, 1) := by decide +kernel
theorem dVS_got_38 : decode kVS_got 38 = .ok (.invokevirtual 191, 3) := by decide +kernel
theorem dVS_got_41 : decode kVS_got 41 = .ok (.ifCond .eq 17, 3) := by decide +kernel
theorem dVS_got_44 : decode kVS_got 44 = .ok (.aload_n 0, 1) := by decide +kernel
theorem dVS_got_45 : decode kVS_got 45 = .ok (.getfield 47, 3) := by decide +kernel
theorem dVS_got_48 : decode kVS_got 48 = .ok (.getfield 164, 3) := by decide +kernel
theorem dVS_got_51 : decode kVS_got 51 = .ok (.iload_n 1, 1) := by decide +kernel
theorem dVS_got_52 : decode kVS_got 52 = .ok (.invokevirtual 195, 3) := by decide +kernel
theorem dVS_got_55 : decode kVS_got 55 = .ok (.goto 5, 3) := by decide +kernel
theorem dVS_got_58 : decode kVS_got 58 = .ok (.bipush (-2), 2) := by decide +kernel
theorem dVS_got_60 : decode kVS_got 60 = .ok (.ireturn, 1) := by decide +kernel
theorem dVS_opened_0 : decode kVS_opened 0 = .ok (.aload_n 0, 1) := by decide +kernel
theorem dVS_opened_1 : decode kVS_opened 1 = .ok (.getfield 54, 3) := by decide +kernel
theorem dVS_opened_4 : decode kVS_opened 4 = .ok (.iload_n 1, 1) := by decide +kernel
theorem dVS_opened_5 : decode kVS_opened 5 = .ok (.iload_n 2, 1) := by decide +kernel
theorem dVS_opened_6 : decode kVS_opened 6 = .ok (.invokevirtual 196, 3) := by decide +kernel
theorem dVS_opened_9 : decode kVS_opened 9 = .ok (.ireturn, 1) := by decide +kernel
theorem dVS_count_0 : decode kVS_count 0 = .ok (.iload_n 1, 1) := by decide +kernel
theorem dVS_count_1 : decode kVS_count 1 = .ok (.tableswitch 125 0 8 #[51, 59, 67, 75, 83, 92, 101, 109, 117], 51) := by decide +kernel
theorem dVS_count_52 : decode kVS_count 52 = .ok (.aload_n 0, 1) := by decide +kernel
theorem dVS_count_53 : decode kVS_count 53 = .ok (.getfield 19, 3) := by decide +kernel
theorem dVS_count_56 : decode kVS_count 56 = .ok (.getfield 66, 3) := by decide +kernel
theorem dVS_count_59 : decode kVS_count 59 = .ok (.ireturn, 1) := by decide +kernel
theorem dVS_count_60 : decode kVS_count 60 = .ok (.aload_n 0, 1) := by decide +kernel
theorem dVS_count_61 : decode kVS_count 61 = .ok (.getfield 19, 3) := by decide +kernel
theorem dVS_count_64 : decode kVS_count 64 = .ok (.getfield 199, 3) := by decide +kernel
theorem dVS_count_67 : decode kVS_count 67 = .ok (.ireturn, 1) := by decide +kernel
theorem dVS_count_68 : decode kVS_count 68 = .ok (.aload_n 0, 1) := by decide +kernel
theorem dVS_count_69 : decode kVS_count 69 = .ok (.getfield 10, 3) := by decide +kernel
theorem dVS_count_72 : decode kVS_count 72 = .ok (.getfield 58, 3) := by decide +kernel
theorem dVS_count_75 : decode kVS_count 75 = .ok (.ireturn, 1) := by decide +kernel
theorem dVS_count_76 : decode kVS_count 76 = .ok (.aload_n 0, 1) := by decide +kernel
theorem dVS_count_77 : decode kVS_count 77 = .ok (.getfield 40, 3) := by decide +kernel
theorem dVS_count_80 : decode kVS_count 80 = .ok (.invokevirtual 126, 3) := by decide +kernel
theorem dVS_count_83 : decode kVS_count 83 = .ok (.ireturn, 1) := by decide +kernel
theorem dVS_count_84 : decode kVS_count 84 = .ok (.aload_n 0, 1) := by decide +kernel
theorem dVS_count_85 : decode kVS_count 85 = .ok (.getfield 40, 3) := by decide +kernel
theorem dVS_count_88 : decode kVS_count 88 = .ok (.iconst 1, 1) := by decide +kernel
theorem dVS_count_89 : decode kVS_count 89 = .ok (.invokevirtual 200, 3) := by decide +kernel
theorem dVS_count_92 : decode kVS_count 92 = .ok (.ireturn, 1) := by decide +kernel
theorem dVS_count_93 : decode kVS_count 93 = .ok (.aload_n 0, 1) := by decide +kernel
theorem dVS_count_94 : decode kVS_count 94 = .ok (.getfield 40, 3) := by decide +kernel
theorem dVS_count_97 : decode kVS_count 97 = .ok (.iconst 2, 1) := by decide +kernel
theorem dVS_count_98 : decode kVS_count 98 = .ok (.invokevirtual 200, 3) := by decide +kernel
theorem dVS_count_101 : decode kVS_count 101 = .ok (.ireturn, 1) := by decide +kernel
theorem dVS_count_102 : decode kVS_count 102 = .ok (.aload_n 0, 1) := by decide +kernel
theorem dVS_count_103 : decode kVS_count 103 = .ok (.getfield 26, 3) := by decide +kernel
theorem dVS_count_106 : decode kVS_count 106 = .ok (.getfield 94, 3) := by decide +kernel
theorem dVS_count_109 : decode kVS_count 109 = .ok (.ireturn, 1) := by decide +kernel
theorem dVS_count_110 : decode kVS_count 110 = .ok (.aload_n 0, 1) := by decide +kernel
theorem dVS_count_111 : decode kVS_count 111 = .ok (.getfield 26, 3) := by decide +kernel
theorem dVS_count_114 : decode kVS_count 114 = .ok (.getfield 88, 3) := by decide +kernel
theorem dVS_count_117 : decode kVS_count 117 = .ok (.ireturn, 1) := by decide +kernel
theorem dVS_count_118 : decode kVS_count 118 = .ok (.aload_n 0, 1) := by decide +kernel
theorem dVS_count_119 : decode kVS_count 119 = .ok (.getfield 26, 3) := by decide +kernel
theorem dVS_count_122 : decode kVS_count 122 = .ok (.getfield 203, 3) := by decide +kernel
theorem dVS_count_125 : decode kVS_count 125 = .ok (.ireturn, 1) := by decide +kernel
theorem dVS_count_126 : decode kVS_count 126 = .ok (.iconst (-1), 1) := by decide +kernel
theorem dVS_count_127 : decode kVS_count 127 = .ok (.ireturn, 1) := by decide +kernel
end
section
theorem dMo_in_0 : decode kMo_in 0 = .ok (.iload_n 0, 1) := by decide +kernel
theorem dMo_in_1 : decode kMo_in 1 = .ok (.iload_n 1, 1) := by decide +kernel
theorem dMo_in_2 : decode kMo_in 2 = .ok (.if_icmp .lt 12, 3) := by decide +kernel
theorem dMo_in_5 : decode kMo_in 5 = .ok (.iload_n 0, 1) := by decide +kernel
theorem dMo_in_6 : decode kMo_in 6 = .ok (.iload_n 2, 1) := by decide +kernel
theorem dMo_in_7 : decode kMo_in 7 = .ok (.if_icmp .gt 7, 3) := by decide +kernel
theorem dMo_in_10 : decode kMo_in 10 = .ok (.iconst 1, 1) := by decide +kernel
theorem dMo_in_11 : decode kMo_in 11 = .ok (.goto 4, 3) := by decide +kernel
theorem dMo_in_14 : decode kMo_in 14 = .ok (.iconst 0, 1) := by decide +kernel
theorem dMo_in_15 : decode kMo_in 15 = .ok (.ireturn, 1) := by decide +kernel
theorem dMo_init_0 : decode kMo_init 0 = .ok (.aload_n 0, 1) := by decide +kernel
theorem dMo_init_1 : decode kMo_init 1 = .ok (.invokespecial 7, 3) := by decide +kernel
theorem dMo_init_4 : decode kMo_init 4 = .ok (.aload_n 0, 1) := by decide +kernel
theorem dMo_init_5 : decode kMo_init 5 = .ok (.bipush 60, 2) := by decide +kernel
theorem dMo_init_7 : decode kMo_init 7 = .ok (.newarray .int, 2) := by decide +kernel
theorem dMo_init_9 : decode kMo_init 9 = .ok (.putfield 13, 3) := by decide +kernel
theorem dMo_init_12 : decode kMo_init 12 = .ok (.aload_n 0, 1) := by decide +kernel
theorem dMo_init_13 : decode kMo_init 13 = .ok (.sipush 1260, 3) := by decide +kernel
theorem dMo_init_16 : decode kMo_init 16 = .ok (.newarray .int, 2) := by decide +kernel
theorem dMo_init_18 : decode kMo_init 18 = .ok (.putfield 17, 3) := by decide +kernel
theorem dMo_init_21 : decode kMo_init 21 = .ok (.aload_n 0, 1) := by decide +kernel
theorem dMo_init_22 : decode kMo_init 22 = .ok (.bipush 21, 2) := by decide +kernel
theorem dMo_init_24 : decode kMo_init 24 = .ok (.newarray .int, 2) := by decide +kernel
theorem dMo_init_26 : decode kMo_init 26 = .ok (.putfield 20, 3) := by decide +kernel
theorem dMo_init_29 : decode kMo_init 29 = .ok (.aload_n 0, 1) := by decide +kernel
theorem dMo_init_30 : decode kMo_init 30 = .ok (.bipush 32, 2) := by decide +kernel
theorem dMo_init_32 : decode kMo_init 32 = .ok (.putfield 23, 3) := by decide +kernel
theorem dMo_init_35 : decode kMo_init 35 = .ok (.aload_n 0, 1) := by decide +kernel
theorem dMo_init_36 : decode kMo_init 36 = .ok (.sipush 4800, 3) := by decide +kernel
theorem dMo_init_39 : decode kMo_init 39 = .ok (.newarray .int, 2) := by decide +kernel
theorem dMo_init_41 : decode kMo_init 41 = .ok (.putfield 26, 3) := by decide +kernel
theorem dMo_init_44 : decode kMo_init 44 = .ok (.aload_n 0, 1) := by decide +kernel
theorem dMo_init_45 : decode kMo_init 45 = .ok (.bipush 60, 2) := by decide +kernel
theorem dMo_init_47 : decode kMo_init 47 = .ok (.newarray .int, 2) := by decide +kernel
theorem dMo_init_49 : decode kMo_init 49 = .ok (.putfield 29, 3) := by decide +kernel
theorem dMo_init_52 : decode kMo_init 52 = .ok (.aload_n 0, 1) := by decide +kernel
theorem dMo_init_53 : decode kMo_init 53 = .ok (.bipush 80, 2) := by decide +kernel
theorem dMo_init_55 : decode kMo_init 55 = .ok (.newarray .int, 2) := by decide +kernel
theorem dMo_init_57 : decode kMo_init 57 = .ok (.putfield 32, 3) := by decide +kernel
theorem dMo_init_60 : decode kMo_init 60 = .ok (.aload_n 0, 1) := by decide +kernel
theorem dMo_init_61 : decode kMo_init 61 = .ok (.bipush 64, 2) := by decide +kernel
theorem dMo_init_63 : decode kMo_init 63 = .ok (.newarray .int, 2) := by decide +kernel
theorem dMo_init_65 : decode kMo_init 65 = .ok (.putfield 35, 3) := by decide +kernel
theorem dMo_init_68 : decode kMo_init 68 = .ok (.aload_n 0, 1) := by decide +kernel
theorem dMo_init_69 : decode kMo_init 69 = .ok (.bipush 64, 2) := by decide +kernel
theorem dMo_init_71 : decode kMo_init 71 = .ok (.newarray .int, 2) := by decide +kernel
theorem dMo_init_73 : decode kMo_init 73 = .ok (.putfield 38, 3) := by decide +kernel
theorem dMo_init_76 : decode kMo_init 76 = .ok (.aload_n 0, 1) := by decide +kernel
theorem dMo_init_77 : decode kMo_init 77 = .ok (.bipush 64, 2) := by decide +kernel
theorem dMo_init_79 : decode kMo_init 79 = .ok (.newarray .int, 2) := by decide +kernel
theorem dMo_init_81 : decode kMo_init 81 = .ok (.putfield 41, 3) := by decide +kernel
theorem dMo_init_84 : decode kMo_init 84 = .ok (.aload_n 0, 1) := by decide +kernel
theorem dMo_init_85 : decode kMo_init 85 = .ok (.sipush 4800, 3) := by decide +kernel
theorem dMo_init_88 : decode kMo_init 88 = .ok (.newarray .int, 2) := by decide +kernel
theorem dMo_init_90 : decode kMo_init 90 = .ok (.putfield 44, 3) := by decide +kernel
theorem dMo_init_93 : decode kMo_init 93 = .ok (.aload_n 0, 1) := by decide +kernel
theorem dMo_init_94 : decode kMo_init 94 = .ok (.bipush 40, 2) := by decide +kernel
theorem dMo_init_96 : decode kMo_init 96 = .ok (.newarray .int, 2) := by decide +kernel
theorem dMo_init_98 : decode kMo_init 98 = .ok (.putfield 47, 3) := by decide +kernel
theorem dMo_init_101 : decode kMo_init 101 = .ok (.aload_n 0, 1) := by decide +kernel
theorem dMo_init_102 : decode kMo_init 102 = .ok (.bipush 40, 2) := by decide +kernel
theorem dMo_init_104 : decode kMo_init 104 = .ok (.newarray .int, 2) := by decide +kernel
theorem dMo_init_106 : decode kMo_init 106 = .ok (.putfield 50, 3) := by decide +kernel
theorem dMo_init_109 : decode kMo_init 109 = .ok (.aload_n 0, 1) := by decide +kernel
theorem dMo_init_110 : decode kMo_init 110 = .ok (.bipush 40, 2) := by decide +kernel
theorem dMo_init_112 : decode kMo_init 112 = .ok (.newarray .int, 2) := by decide +kernel
theorem dMo_init_114 : decode kMo_init 114 = .ok (.putfield 53, 3) := by decide +kernel
theorem dMo_init_117 : decode kMo_init 117 = .ok (.aload_n 0, 1) := by decide +kernel
theorem dMo_init_118 : decode kMo_init 118 = .ok (.bipush 60, 2) := by decide +kernel
theorem dMo_init_120 : decode kMo_init 120 = .ok (.newarray .int, 2) := by decide +kernel
theorem dMo_init_122 : decode kMo_init 122 = .ok (.putfield 56, 3) := by decide +kernel
theorem dMo_init_125 : decode kMo_init 125 = .ok (.aload_n 0, 1) := by decide +kernel
theorem dMo_init_126 : decode kMo_init 126 = .ok (.iconst 3, 1) := by decide +kernel
theorem dMo_init_127 : decode kMo_init 127 = .ok (.newarray .int, 2) := by decide +kernel
theorem dMo_init_129 : decode kMo_init 129 = .ok (.putfield 59, 3) := by decide +kernel
theorem dMo_init_132 : decode kMo_init 132 = .ok (.aload_n 0, 1) := by decide +kernel
theorem dMo_init_133 : decode kMo_init 133 = .ok (.bipush 12, 2) := by decide +kernel
theorem dMo_init_135 : decode kMo_init 135 = .ok (.newarray .int, 2) := by decide +kernel
theorem dMo_init_137 : decode kMo_init 137 = .ok (.putfield 62, 3) := by decide +kernel
theorem dMo_init_140 : decode kMo_init 140 = .ok (.aload_n 0, 1) := by decide +kernel
theorem dMo_init_141 : decode kMo_init 141 = .ok (.iconst 0, 1) := by decide +kernel
theorem dMo_init_142 : decode kMo_init 142 = .ok (.putfield 1, 3) := by decide +kernel
theorem dMo_init_145 : decode kMo_init 145 = .ok (.return_, 1) := by decide +kernel
theorem dMo_feed_0 : decode kMo_feed 0 = .ok (.aload_n 0, 1) := by decide +kernel
theorem dMo_feed_1 : decode kMo_feed 1 = .ok (.iconst 0, 1) := by decide +kernel
theorem dMo_feed_2 : decode kMo_feed 2 = .ok (.putfield 1, 3) := by decide +kernel
theorem dMo_feed_5 : decode kMo_feed 5 = .ok (.aload_n 0, 1) := by decide +kernel
theorem dMo_feed_6 : decode kMo_feed 6 = .ok (.getfield 65, 3) := by decide +kernel
theorem dMo_feed_9 : decode kMo_feed 9 = .ok (.bipush 40, 2) := by decide +kernel
theorem dMo_feed_11 : decode kMo_feed 11 = .ok (.if_icmp .le 6, 3) := by decide +kernel
theorem dMo_feed_14 : decode kMo_feed 14 = .ok (.bipush (-3), 2) := by decide +kernel
theorem dMo_feed_16 : decode kMo_feed 16 = .ok (.ireturn, 1) := by decide +kernel
theorem dMo_feed_17 : decode kMo_feed 17 = .ok (.iconst 0, 1) := by decide +kernel
theorem dMo_feed_18 : decode kMo_feed 18 = .ok (.istore 6, 2) := by decide +kernel
theorem dMo_feed_20 : decode kMo_feed 20 = .ok (.iload 6, 2) := by decide +kernel
theorem dMo_feed_22 : decode kMo_feed 22 = .ok (.bipush 20, 2) := by decide +kernel
theorem dMo_feed_24 : decode kMo_feed 24 = .ok (.if_icmp .ge 86, 3) := by decide +kernel
theorem dMo_feed_27 : decode kMo_feed 27 = .ok (.iload 6, 2) := by decide +kernel
theorem dMo_feed_29 : decode kMo_feed 29 = .ok (.iconst 4, 1) := by decide +kernel
theorem dMo_feed_30 : decode kMo_feed 30 = .ok (.if_icmp .ge 7, 3) := by decide +kernel
theorem dMo_feed_33 : decode kMo_feed 33 = .ok (.iload_n 1, 1) := by decide +kernel
theorem dMo_feed_34 : decode kMo_feed 34 = .ok (.goto 39, 3) := by decide +kernel
theorem dMo_feed_37 : decode kMo_feed 37 = .ok (.iload 6, 2) := by decide +kernel
theorem dMo_feed_39 : decode kMo_feed 39 = .ok (.bipush 8, 2) := by decide +kernel
theorem dMo_feed_41 : decode kMo_feed 41 = .ok (.if_icmp .ge 7, 3) := by decide +kernel
theorem dMo_feed_44 : decode kMo_feed 44 = .ok (.iload_n 2, 1) := by decide +kernel
theorem dMo_feed_45 : decode kMo_feed 45 = .ok (.goto 28, 3) := by decide +kernel
theorem dMo_feed_48 : decode kMo_feed 48 = .ok (.iload 6, 2) := by decide +kernel
theorem dMo_feed_50 : decode kMo_feed 50 = .ok (.bipush 12, 2) := by decide +kernel
theorem dMo_feed_52 : decode kMo_feed 52 = .ok (.if_icmp .ge 7, 3) := by decide +kernel
theorem dMo_feed_55 : decode kMo_feed 55 = .ok (.iload_n 3, 1) := by decide +kernel
theorem dMo_feed_56 : decode kMo_feed 56 = .ok (.goto 17, 3) := by decide +kernel
theorem dMo_feed_59 : decode kMo_feed 59 = .ok (.iload 6, 2) := by decide +kernel
theorem dMo_feed_61 : decode kMo_feed 61 = .ok (.bipush 16, 2) := by decide +kernel
theorem dMo_feed_63 : decode kMo_feed 63 = .ok (.if_icmp .ge 8, 3) := by decide +kernel
theorem dMo_feed_66 : decode kMo_feed 66 = .ok (.iload 4, 2) := by decide +kernel
theorem dMo_feed_68 : decode kMo_feed 68 = .ok (.goto 5, 3) := by decide +kernel
theorem dMo_feed_71 : decode kMo_feed 71 = .ok (.iload 5, 2) := by decide +kernel
theorem dMo_feed_73 : decode kMo_feed 73 = .ok (.istore 7, 2) := by decide +kernel
theorem dMo_feed_75 : decode kMo_feed 75 = .ok (.aload_n 0, 1) := by decide +kernel
theorem dMo_feed_76 : decode kMo_feed 76 = .ok (.getfield 13, 3) := by decide +kernel
theorem dMo_feed_79 : decode kMo_feed 79 = .ok (.aload_n 0, 1) := by decide +kernel
theorem dMo_feed_80 : decode kMo_feed 80 = .ok (.getfield 65, 3) := by decide +kernel
theorem dMo_feed_83 : decode kMo_feed 83 = .ok (.iload 6, 2) := by decide +kernel
theorem dMo_feed_85 : decode kMo_feed 85 = .ok (.iadd, 1) := by decide +kernel
theorem dMo_feed_86 : decode kMo_feed 86 = .ok (.iload 7, 2) := by decide +kernel
theorem dMo_feed_88 : decode kMo_feed 88 = .ok (.bipush 24, 2) := by decide +kernel
theorem dMo_feed_90 : decode kMo_feed 90 = .ok (.iload 6, 2) := by decide +kernel
theorem dMo_feed_92 : decode kMo_feed 92 = .ok (.iconst 4, 1) := by decide +kernel
theorem dMo_feed_93 : decode kMo_feed 93 = .ok (.irem, 1) := by decide +kernel
theorem dMo_feed_94 : decode kMo_feed 94 = .ok (.bipush 8, 2) := by decide +kernel
theorem dMo_feed_96 : decode kMo_feed 96 = .ok (.imul, 1) := by decide +kernel
theorem dMo_feed_97 : decode kMo_feed 97 = .ok (.isub, 1) := by decide +kernel
theorem dMo_feed_98 : decode kMo_feed 98 = .ok (.ishr, 1) := by decide +kernel
theorem dMo_feed_99 : decode kMo_feed 99 = .ok (.sipush 255, 3) := by decide +kernel
theorem dMo_feed_102 : decode kMo_feed 102 = .ok (.iand, 1) := by decide +kernel
theorem dMo_feed_103 : decode kMo_feed 103 = .ok (.iastore, 1) := by decide +kernel
theorem dMo_feed_104 : decode kMo_feed 104 = .ok (.iinc 6 1, 3) := by decide +kernel
theorem dMo_feed_107 : decode kMo_feed 107 = .ok (.goto (-87), 3) := by decide +kernel
theorem dMo_feed_110 : decode kMo_feed 110 = .ok (.aload_n 0, 1) := by decide +kernel
theorem dMo_feed_111 : decode kMo_feed 111 = .ok (.aload_n 0, 1) := by decide +kernel
theorem dMo_feed_112 : decode kMo_feed 112 = .ok (.getfield 65, 3) := by decide +kernel
theorem dMo_feed_115 : decode kMo_feed 115 = .ok (.bipush 20, 2) := by decide +kernel
theorem dMo_feed_117 : decode kMo_feed 117 = .ok (.iadd, 1) := by decide +kernel
theorem dMo_feed_118 : decode kMo_feed 118 = .ok (.putfield 65, 3) := by decide +kernel
theorem dMo_feed_121 : decode kMo_feed 121 = .ok (.aload_n 0, 1) := by decide +kernel
theorem dMo_feed_122 : decode kMo_feed 122 = .ok (.getfield 65, 3) := by decide +kernel
theorem dMo_feed_125 : decode kMo_feed 125 = .ok (.ireturn, 1) := by decide +kernel
theorem dMo_end_0 : decode kMo_end 0 = .ok (.aload_n 0, 1) := by decide +kernel
theorem dMo_end_1 : decode kMo_end 1 = .ok (.iconst 0, 1) := by decide +kernel
theorem dMo_end_2 : decode kMo_end 2 = .ok (.putfield 1, 3) := by decide +kernel
theorem dMo_end_5 : decode kMo_end 5 = .ok (.iload_n 1, 1) := by decide +kernel
theorem dMo_end_6 : decode kMo_end 6 = .ok (.iconst 0, 1) := by decide +kernel
theorem dMo_end_7 : decode kMo_end 7 = .ok (.bipush 20, 2) := by decide +kernel
theorem dMo_end_9 : decode kMo_end 9 = .ok (.invokestatic 68, 3) := by decide +kernel
theorem dMo_end_12 : decode kMo_end 12 = .ok (.ifCond .eq 12, 3) := by decide +kernel
theorem dMo_end_15 : decode kMo_end 15 = .ok (.aload_n 0, 1) := by decide +kernel
theorem dMo_end_16 : decode kMo_end 16 = .ok (.getfield 65, 3) := by decide +kernel
theorem dMo_end_19 : decode kMo_end 19 = .ok (.bipush 20, 2) := by decide +kernel
theorem dMo_end_21 : decode kMo_end 21 = .ok (.if_icmp .ge 5, 3) := by decide +kernel
theorem dMo_end_24 : decode kMo_end 24 = .ok (.iconst (-1), 1) := by decide +kernel
theorem dMo_end_25 : decode kMo_end 25 = .ok (.ireturn, 1) := by decide +kernel
theorem dMo_end_26 : decode kMo_end 26 = .ok (.aload_n 0, 1) := by decide +kernel
theorem dMo_end_27 : decode kMo_end 27 = .ok (.aload_n 0, 1) := by decide +kernel
theorem dMo_end_28 : decode kMo_end 28 = .ok (.getfield 65, 3) := by decide +kernel
theorem dMo_end_31 : decode kMo_end 31 = .ok (.bipush 20, 2) := by decide +kernel
theorem dMo_end_33 : decode kMo_end 33 = .ok (.isub, 1) := by decide +kernel
theorem dMo_end_34 : decode kMo_end 34 = .ok (.iload_n 1, 1) := by decide +kernel
theorem dMo_end_35 : decode kMo_end 35 = .ok (.iadd, 1) := by decide +kernel
theorem dMo_end_36 : decode kMo_end 36 = .ok (.putfield 65, 3) := by decide +kernel
theorem dMo_end_39 : decode kMo_end 39 = .ok (.aload_n 0, 1) := by decide +kernel
theorem dMo_end_40 : decode kMo_end 40 = .ok (.getfield 65, 3) := by decide +kernel
theorem dMo_end_43 : decode kMo_end 43 = .ok (.ireturn, 1) := by decide +kernel
theorem dMo_step_0 : decode kMo_step 0 = .ok (.bipush 33, 2) := by decide +kernel
theorem dMo_step_2 : decode kMo_step 2 = .ok (.iload_n 0, 1) := by decide +kernel
theorem dMo_step_3 : decode kMo_step 3 = .ok (.imul, 1) := by decide +kernel
theorem dMo_step_4 : decode kMo_step 4 = .ok (.iload_n 1, 1) := by decide +kernel
theorem dMo_step_5 : decode kMo_step 5 = .ok (.ixor, 1) := by decide +kernel
theorem dMo_step_6 : decode kMo_step 6 = .ok (.ldc 72, 2) := by decide +kernel
theorem dMo_step_8 : decode kMo_step 8 = .ok (.iand, 1) := by decide +kernel
theorem dMo_step_9 : decode kMo_step 9 = .ok (.ireturn, 1) := by decide +kernel
theorem dMo_sum_0 : decode kMo_sum 0 = .ok (.sipush 5381, 3) := by decide +kernel
theorem dMo_sum_3 : decode kMo_sum 3 = .ok (.istore_n 3, 1) := by decide +kernel
theorem dMo_sum_4 : decode kMo_sum 4 = .ok (.iconst 0, 1) := by decide +kernel
theorem dMo_sum_5 : decode kMo_sum 5 = .ok (.istore 4, 2) := by decide +kernel
theorem dMo_sum_7 : decode kMo_sum 7 = .ok (.iload 4, 2) := by decide +kernel
theorem dMo_sum_9 : decode kMo_sum 9 = .ok (.iload_n 2, 1) := by decide +kernel
theorem dMo_sum_10 : decode kMo_sum 10 = .ok (.if_icmp .ge 20, 3) := by decide +kernel
theorem dMo_sum_13 : decode kMo_sum 13 = .ok (.iload_n 3, 1) := by decide +kernel
theorem dMo_sum_14 : decode kMo_sum 14 = .ok (.aload_n 0, 1) := by decide +kernel
theorem dMo_sum_15 : decode kMo_sum 15 = .ok (.iload_n 1, 1) := by decide +kernel
theorem dMo_sum_16 : decode kMo_sum 16 = .ok (.iload 4, 2) := by decide +kernel
theorem dMo_sum_18 : decode kMo_sum 18 = .ok (.iadd, 1) := by decide +kernel
theorem dMo_sum_19 : decode kMo_sum 19 = .ok (.iaload, 1) := by decide +kernel
theorem dMo_sum_20 : decode kMo_sum 20 = .ok (.invokestatic 73, 3) := by decide +kernel
theorem dMo_sum_23 : decode kMo_sum 23 = .ok (.istore_n 3, 1) := by decide +kernel
theorem dMo_sum_24 : decode kMo_sum 24 = .ok (.iinc 4 1, 3) := by decide +kernel
theorem dMo_sum_27 : decode kMo_sum 27 = .ok (.goto (-20), 3) := by decide +kernel
theorem dMo_sum_30 : decode kMo_sum 30 = .ok (.iload_n 3, 1) := by decide +kernel
theorem dMo_sum_31 : decode kMo_sum 31 = .ok (.ireturn, 1) := by decide +kernel
theorem dMo_entry_0 : decode kMo_entry 0 = .ok (.aload_n 0, 1) := by decide +kernel
theorem dMo_entry_1 : decode kMo_entry 1 = .ok (.iconst 0, 1) := by decide +kernel
theorem dMo_entry_2 : decode kMo_entry 2 = .ok (.putfield 1, 3) := by decide +kernel
theorem dMo_entry_5 : decode kMo_entry 5 = .ok (.aload_n 0, 1) := by decide +kernel
theorem dMo_entry_6 : decode kMo_entry 6 = .ok (.getfield 77, 3) := by decide +kernel
theorem dMo_entry_9 : decode kMo_entry 9 = .ok (.bipush 20, 2) := by decide +kernel
theorem dMo_entry_11 : decode kMo_entry 11 = .ok (.if_icmp .ne 6, 3) := by decide +kernel
theorem dMo_entry_14 : decode kMo_entry 14 = .ok (.bipush (-3), 2) := by decide +kernel
theorem dMo_entry_16 : decode kMo_entry 16 = .ok (.ireturn, 1) := by decide +kernel
theorem dMo_entry_17 : decode kMo_entry 17 = .ok (.aload_n 0, 1) := by decide +kernel
theorem dMo_entry_18 : decode kMo_entry 18 = .ok (.getfield 20, 3) := by decide +kernel
theorem dMo_entry_21 : decode kMo_entry 21 = .ok (.aload_n 0, 1) := by decide +kernel
theorem dMo_entry_22 : decode kMo_entry 22 = .ok (.getfield 77, 3) := by decide +kernel
theorem dMo_entry_25 : decode kMo_entry 25 = .ok (.iaload, 1) := by decide +kernel
theorem dMo_entry_26 : decode kMo_entry 26 = .ok (.istore_n 1, 1) := by decide +kernel
theorem dMo_entry_27 : decode kMo_entry 27 = .ok (.aload_n 0, 1) := by decide +kernel
theorem dMo_entry_28 : decode kMo_entry 28 = .ok (.getfield 13, 3) := by decide +kernel
theorem dMo_entry_31 : decode kMo_entry 31 = .ok (.iconst 0, 1) := by decide +kernel
theorem dMo_entry_32 : decode kMo_entry 32 = .ok (.aload_n 0, 1) := by decide +kernel
theorem dMo_entry_33 : decode kMo_entry 33 = .ok (.getfield 65, 3) := by decide +kernel
theorem dMo_entry_36 : decode kMo_entry 36 = .ok (.invokestatic 80, 3) := by decide +kernel
theorem dMo_entry_39 : decode kMo_entry 39 = .ok (.istore_n 2, 1) := by decide +kernel
theorem dMo_entry_40 : decode kMo_entry 40 = .ok (.aload_n 0, 1) := by decide +kernel
theorem dMo_entry_41 : decode kMo_entry 41 = .ok (.getfield 17, 3) := by decide +kernel
theorem dMo_entry_44 : decode kMo_entry 44 = .ok (.iload_n 1, 1) := by decide +kernel
theorem dMo_entry_45 : decode kMo_entry 45 = .ok (.aload_n 0, 1) := by decide +kernel
theorem dMo_entry_46 : decode kMo_entry 46 = .ok (.getfield 65, 3) := by decide +kernel
theorem dMo_entry_49 : decode kMo_entry 49 = .ok (.iastore, 1) := by decide +kernel
theorem dMo_entry_50 : decode kMo_entry 50 = .ok (.aload_n 0, 1) := by decide +kernel
theorem dMo_entry_51 : decode kMo_entry 51 = .ok (.getfield 17, 3) := by decide +kernel
theorem dMo_entry_54 : decode kMo_entry 54 = .ok (.iload_n 1, 1) := by decide +kernel
theorem dMo_entry_55 : decode kMo_entry 55 = .ok (.iconst 1, 1) := by decide +kernel
theorem dMo_entry_56 : decode kMo_entry 56 = .ok (.iadd, 1) := by decide +kernel
theorem dMo_entry_57 : decode kMo_entry 57 = .ok (.iload_n 2, 1) := by decide +kernel
theorem dMo_entry_58 : decode kMo_entry 58 = .ok (.sipush 256, 3) := by decide +kernel
theorem dMo_entry_61 : decode kMo_entry 61 = .ok (.irem, 1) := by decide +kernel
theorem dMo_entry_62 : decode kMo_entry 62 = .ok (.iastore, 1) := by decide +kernel
theorem dMo_entry_63 : decode kMo_entry 63 = .ok (.aload_n 0, 1) := by decide +kernel
theorem dMo_entry_64 : decode kMo_entry 64 = .ok (.getfield 17, 3) := by decide +kernel
theorem dMo_entry_67 : decode kMo_entry 67 = .ok (.iload_n 1, 1) := by decide +kernel
theorem dMo_entry_68 : decode kMo_entry 68 = .ok (.iconst 2, 1) := by decide +kernel
theorem dMo_entry_69 : decode kMo_entry 69 = .ok (.iadd, 1) := by decide +kernel
theorem dMo_entry_70 : decode kMo_entry 70 = .ok (.iload_n 2, 1) := by decide +kernel
theorem dMo_entry_71 : decode kMo_entry 71 = .ok (.sipush 256, 3) := by decide +kernel
theorem dMo_entry_74 : decode kMo_entry 74 = .ok (.idiv, 1) := by decide +kernel
theorem dMo_entry_75 : decode kMo_entry 75 = .ok (.iastore, 1) := by decide +kernel
theorem dMo_entry_76 : decode kMo_entry 76 = .ok (.iconst 0, 1) := by decide +kernel
theorem dMo_entry_77 : decode kMo_entry 77 = .ok (.istore_n 3, 1) := by decide +kernel
theorem dMo_entry_78 : decode kMo_entry 78 = .ok (.iload_n 3, 1) := by decide +kernel
theorem dMo_entry_79 : decode kMo_entry 79 = .ok (.aload_n 0, 1) := by decide +kernel
theorem dMo_entry_80 : decode kMo_entry 80 = .ok (.getfield 65, 3) := by decide +kernel
theorem dMo_entry_83 : decode kMo_entry 83 = .ok (.if_icmp .ge 25, 3) := by decide +kernel
theorem dMo_entry_86 : decode kMo_entry 86 = .ok (.aload_n 0, 1) := by decide +kernel
theorem dMo_entry_87 : decode kMo_entry 87 = .ok (.getfield 17, 3) := by decide +kernel
theorem dMo_entry_90 : decode kMo_entry 90 = .ok (.iload_n 1, 1) := by decide +kernel
theorem dMo_entry_91 : decode kMo_entry 91 = .ok (.iconst 3, 1) := by decide +kernel
theorem dMo_entry_92 : decode kMo_entry 92 = .ok (.iadd, 1) := by decide +kernel
theorem dMo_entry_93 : decode kMo_entry 93 = .ok (.iload_n 3, 1) := by decide +kernel
theorem dMo_entry_94 : decode kMo_entry 94 = .ok (.iadd, 1) := by decide +kernel
theorem dMo_entry_95 : decode kMo_entry 95 = .ok (.aload_n 0, 1) := by decide +kernel
theorem dMo_entry_96 : decode kMo_entry 96 = .ok (.getfield 13, 3) := by decide +kernel
theorem dMo_entry_99 : decode kMo_entry 99 = .ok (.iload_n 3, 1) := by decide +kernel
theorem dMo_entry_100 : decode kMo_entry 100 = .ok (.iaload, 1) := by decide +kernel
theorem dMo_entry_101 : decode kMo_entry 101 = .ok (.iastore, 1) := by decide +kernel
theorem dMo_entry_102 : decode kMo_entry 102 = .ok (.iinc 3 1, 3) := by decide +kernel
theorem dMo_entry_105 : decode kMo_entry 105 = .ok (.goto (-27), 3) := by decide +kernel
theorem dMo_entry_108 : decode kMo_entry 108 = .ok (.aload_n 0, 1) := by decide +kernel
theorem dMo_entry_109 : decode kMo_entry 109 = .ok (.dup, 1) := by decide +kernel
theorem dMo_entry_110 : decode kMo_entry 110 = .ok (.getfield 77, 3) := by decide +kernel
theorem dMo_entry_113 : decode kMo_entry 113 = .ok (.iconst 1, 1) := by decide +kernel
theorem dMo_entry_114 : decode kMo_entry 114 = .ok (.iadd, 1) := by decide +kernel
theorem dMo_entry_115 : decode kMo_entry 115 = .ok (.putfield 77, 3) := by decide +kernel
theorem dMo_entry_118 : decode kMo_entry 118 = .ok (.aload_n 0, 1) := by decide +kernel
theorem dMo_entry_119 : decode kMo_entry 119 = .ok (.getfield 20, 3) := by decide +kernel
theorem dMo_entry_122 : decode kMo_entry 122 = .ok (.aload_n 0, 1) := by decide +kernel
theorem dMo_entry_123 : decode kMo_entry 123 = .ok (.getfield 77, 3) := by decide +kernel
theorem dMo_entry_126 : decode kMo_entry 126 = .ok (.iload_n 1, 1) := by decide +kernel
theorem dMo_entry_127 : decode kMo_entry 127 = .ok (.iconst 3, 1) := by decide +kernel
theorem dMo_entry_128 : decode kMo_entry 128 = .ok (.iadd, 1) := by decide +kernel
theorem dMo_entry_129 : decode kMo_entry 129 = .ok (.aload_n 0, 1) := by decide +kernel
theorem dMo_entry_130 : decode kMo_entry 130 = .ok (.getfield 65, 3) := by decide +kernel
theorem dMo_entry_133 : decode kMo_entry 133 = .ok (.iadd, 1) := by decide +kernel
theorem dMo_entry_134 : decode kMo_entry 134 = .ok (.iastore, 1) := by decide +kernel
theorem dMo_entry_135 : decode kMo_entry 135 = .ok (.aload_n 0, 1) := by decide +kernel
theorem dMo_entry_136 : decode kMo_entry 136 = .ok (.iconst 0, 1) := by decide +kernel
theorem dMo_entry_137 : decode kMo_entry 137 = .ok (.putfield 65, 3) := by decide +kernel
theorem dMo_entry_140 : decode kMo_entry 140 = .ok (.aload_n 0, 1) := by decide +kernel
theorem dMo_entry_141 : decode kMo_entry 141 = .ok (.getfield 77, 3) := by decide +kernel
theorem dMo_entry_144 : decode kMo_entry 144 = .ok (.iconst 1, 1) := by decide +kernel
theorem dMo_entry_145 : decode kMo_entry 145 = .ok (.isub, 1) := by decide +kernel
theorem dMo_entry_146 : decode kMo_entry 146 = .ok (.ireturn, 1) := by decide +kernel
theorem dMo_clear_0 : decode kMo_clear 0 = .ok (.aload_n 0, 1) := by decide +kernel
theorem dMo_clear_1 : decode kMo_clear 1 = .ok (.iconst 0, 1) := by decide +kernel
theorem dMo_clear_2 : decode kMo_clear 2 = .ok (.putfield 1, 3) := by decide +kernel
theorem dMo_clear_5 : decode kMo_clear 5 = .ok (.aload_n 0, 1) := by decide +kernel
theorem dMo_clear_6 : decode kMo_clear 6 = .ok (.getfield 77, 3) := by decide +kernel
theorem dMo_clear_9 : decode kMo_clear 9 = .ok (.istore_n 1, 1) := by decide +kernel
theorem dMo_clear_10 : decode kMo_clear 10 = .ok (.aload_n 0, 1) := by decide +kernel
theorem dMo_clear_11 : decode kMo_clear 11 = .ok (.iconst 0, 1) := by decide +kernel
theorem dMo_clear_12 : decode kMo_clear 12 = .ok (.putfield 77, 3) := by decide +kernel
theorem dMo_clear_15 : decode kMo_clear 15 = .ok (.iload_n 1, 1) := by decide +kernel
theorem dMo_clear_16 : decode kMo_clear 16 = .ok (.ireturn, 1) := by decide +kernel
theorem dMo_rule_0 : decode kMo_rule 0 = .ok (.aload_n 0, 1) := by decide +kernel
theorem dMo_rule_1 : decode kMo_rule 1 = .ok (.iconst 0, 1) := by decide +kernel
theorem dMo_rule_2 : decode kMo_rule 2 = .ok (.putfield 1, 3) := by decide +kernel
theorem dMo_rule_5 : decode kMo_rule 5 = .ok (.iload_n 1, 1) := by decide +kernel
theorem dMo_rule_6 : decode kMo_rule 6 = .ok (.ifCond .ne 14, 3) := by decide +kernel
theorem dMo_rule_9 : decode kMo_rule 9 = .ok (.iload_n 2, 1) := by decide +kernel
theorem dMo_rule_10 : decode kMo_rule 10 = .ok (.bipush 20, 2) := by decide +kernel
theorem dMo_rule_12 : decode kMo_rule 12 = .ok (.bipush 80, 2) := by decide +kernel
theorem dMo_rule_14 : decode kMo_rule 14 = .ok (.invokestatic 68, 3) := by decide +kernel
theorem dMo_rule_17 : decode kMo_rule 17 = .ok (.goto 38, 3) := by decide +kernel
theorem dMo_rule_20 : decode kMo_rule 20 = .ok (.iload_n 1, 1) := by decide +kernel
theorem dMo_rule_21 : decode kMo_rule 21 = .ok (.iconst 1, 1) := by decide +kernel
theorem dMo_rule_22 : decode kMo_rule 22 = .ok (.if_icmp .ne 12, 3) := by decide +kernel
theorem dMo_rule_25 : decode kMo_rule 25 = .ok (.iload_n 2, 1) := by decide +kernel
theorem dMo_rule_26 : decode kMo_rule 26 = .ok (.iconst 0, 1) := by decide +kernel
theorem dMo_rule_27 : decode kMo_rule 27 = .ok (.iconst 3, 1) := by decide +kernel
theorem dMo_rule_28 : decode kMo_rule 28 = .ok (.invokestatic 68, 3) := by decide +kernel
theorem dMo_rule_31 : decode kMo_rule 31 = .ok (.goto 24, 3) := by decide +kernel
theorem dMo_rule_34 : decode kMo_rule 34 = .ok (.iload_n 1, 1) := by decide +kernel
theorem dMo_rule_35 : decode kMo_rule 35 = .ok (.iconst 2, 1) := by decide +kernel
theorem dMo_rule_36 : decode kMo_rule 36 = .ok (.if_icmp .ne 18, 3) := by decide +kernel
theorem dMo_rule_39 : decode kMo_rule 39 = .ok (.iload_n 2, 1) := by decide +kernel
theorem dMo_rule_40 : decode kMo_rule 40 = .ok (.iconst 0, 1) := by decide +kernel
theorem dMo_rule_41 : decode kMo_rule 41 = .ok (.sipush 255, 3) := by decide +kernel
theorem dMo_rule_44 : decode kMo_rule 44 = .ok (.invokestatic 68, 3) := by decide +kernel
theorem dMo_rule_47 : decode kMo_rule 47 = .ok (.ifCond .eq 7, 3) := by decide +kernel
theorem dMo_rule_50 : decode kMo_rule 50 = .ok (.iconst 1, 1) := by decide +kernel
theorem dMo_rule_51 : decode kMo_rule 51 = .ok (.goto 4, 3) := by decide +kernel
theorem dMo_rule_54 : decode kMo_rule 54 = .ok (.iconst 0, 1) := by decide +kernel
theorem dMo_rule_55 : decode kMo_rule 55 = .ok (.istore_n 3, 1) := by decide +kernel
theorem dMo_rule_56 : decode kMo_rule 56 = .ok (.iload_n 3, 1) := by decide +kernel
theorem dMo_rule_57 : decode kMo_rule 57 = .ok (.ifCond .ne 5, 3) := by decide +kernel
theorem dMo_rule_60 : decode kMo_rule 60 = .ok (.iconst (-1), 1) := by decide +kernel
theorem dMo_rule_61 : decode kMo_rule 61 = .ok (.ireturn, 1) := by decide +kernel
theorem dMo_rule_62 : decode kMo_rule 62 = .ok (.iload_n 1, 1) := by decide +kernel
theorem dMo_rule_63 : decode kMo_rule 63 = .ok (.ifCond .ne 10, 3) := by decide +kernel
theorem dMo_rule_66 : decode kMo_rule 66 = .ok (.aload_n 0, 1) := by decide +kernel
theorem dMo_rule_67 : decode kMo_rule 67 = .ok (.getfield 23, 3) := by decide +kernel
theorem dMo_rule_70 : decode kMo_rule 70 = .ok (.goto 19, 3) := by decide +kernel
theorem dMo_rule_73 : decode kMo_rule 73 = .ok (.iload_n 1, 1) := by decide +kernel
theorem dMo_rule_74 : decode kMo_rule 74 = .ok (.iconst 1, 1) := by decide +kernel
theorem dMo_rule_75 : decode kMo_rule 75 = .ok (.if_icmp .ne 10, 3) := by decide +kernel
theorem dMo_rule_78 : decode kMo_rule 78 = .ok (.aload_n 0, 1) := by decide +kernel
theorem dMo_rule_79 : decode kMo_rule 79 = .ok (.getfield 84, 3) := by decide +kernel
theorem dMo_rule_82 : decode kMo_rule 82 = .ok (.goto 7, 3) := by decide +kernel
theorem dMo_rule_85 : decode kMo_rule 85 = .ok (.aload_n 0, 1) := by decide +kernel
theorem dMo_rule_86 : decode kMo_rule 86 = .ok (.getfield 87, 3) := by decide +kernel
theorem dMo_rule_89 : decode kMo_rule 89 = .ok (.istore 4, 2) := by decide +kernel
theorem dMo_rule_91 : decode kMo_rule 91 = .ok (.aload_n 0, 1) := by decide +kernel
theorem dMo_rule_92 : decode kMo_rule 92 = .ok (.iload_n 1, 1) := by decide +kernel
theorem dMo_rule_93 : decode kMo_rule 93 = .ok (.ifCond .ne 7, 3) := by decide +kernel
theorem dMo_rule_96 : decode kMo_rule 96 = .ok (.iload_n 2, 1) := by decide +kernel
theorem dMo_rule_97 : decode kMo_rule 97 = .ok (.goto 7, 3) := by decide +kernel
theorem dMo_rule_100 : decode kMo_rule 100 = .ok (.aload_n 0, 1) := by decide +kernel
theorem dMo_rule_101 : decode kMo_rule 101 = .ok (.getfield 23, 3) := by decide +kernel
theorem dMo_rule_104 : decode kMo_rule 104 = .ok (.putfield 23, 3) := by decide +kernel
theorem dMo_rule_107 : decode kMo_rule 107 = .ok (.aload_n 0, 1) := by decide +kernel
theorem dMo_rule_108 : decode kMo_rule 108 = .ok (.iload_n 1, 1) := by decide +kernel
theorem dMo_rule_109 : decode kMo_rule 109 = .ok (.iconst 1, 1) := by decide +kernel
theorem dMo_rule_110 : decode kMo_rule 110 = .ok (.if_icmp .ne 7, 3) := by decide +kernel
theorem dMo_rule_113 : decode kMo_rule 113 = .ok (.iload_n 2, 1) := by decide +kernel
theorem dMo_rule_114 : decode kMo_rule 114 = .ok (.goto 7, 3) := by decide +kernel
theorem dMo_rule_117 : decode kMo_rule 117 = .ok (.aload_n 0, 1) := by decide +kernel
theorem dMo_rule_118 : decode kMo_rule 118 = .ok (.getfield 84, 3) := by decide +kernel
theorem dMo_rule_121 : decode kMo_rule 121 = .ok (.putfield 84, 3) := by decide +kernel
theorem dMo_rule_124 : decode kMo_rule 124 = .ok (.aload_n 0, 1) := by decide +kernel
theorem dMo_rule_125 : decode kMo_rule 125 = .ok (.iload_n 1, 1) := by decide +kernel
theorem dMo_rule_126 : decode kMo_rule 126 = .ok (.iconst 2, 1) := by decide +kernel
theorem dMo_rule_127 : decode kMo_rule 127 = .ok (.if_icmp .ne 7, 3) := by decide +kernel
theorem dMo_rule_130 : decode kMo_rule 130 = .ok (.iload_n 2, 1) := by decide +kernel
theorem dMo_rule_131 : decode kMo_rule 131 = .ok (.goto 7, 3) := by decide +kernel
theorem dMo_rule_134 : decode kMo_rule 134 = .ok (.aload_n 0, 1) := by decide +kernel
theorem dMo_rule_135 : decode kMo_rule 135 = .ok (.getfield 87, 3) := by decide +kernel
theorem dMo_rule_138 : decode kMo_rule 138 = .ok (.putfield 87, 3) := by decide +kernel
theorem dMo_rule_141 : decode kMo_rule 141 = .ok (.iload 4, 2) := by decide +kernel
theorem dMo_rule_143 : decode kMo_rule 143 = .ok (.ireturn, 1) := by decide +kernel
theorem dMo_length_0 : decode kMo_length 0 = .ok (.aload_n 0, 1) := by decide +kernel
theorem dMo_length_1 : decode kMo_length 1 = .ok (.getfield 20, 3) := by decide +kernel
theorem dMo_length_4 : decode kMo_length 4 = .ok (.aload_n 0, 1) := by decide +kernel
theorem dMo_length_5 : decode kMo_length 5 = .ok (.getfield 77, 3) := by decide +kernel
theorem dMo_length_8 : decode kMo_length 8 = .ok (.iaload, 1) := by decide +kernel
theorem dMo_length_9 : decode kMo_length 9 = .ok (.ireturn, 1) := by decide +kernel
theorem dMo_piece_0 : decode kMo_piece 0 = .ok (.aload_n 0, 1) := by decide +kernel
theorem dMo_piece_1 : decode kMo_piece 1 = .ok (.getfield 23, 3) := by decide +kernel
theorem dMo_piece_4 : decode kMo_piece 4 = .ok (.bipush 12, 2) := by decide +kernel
theorem dMo_piece_6 : decode kMo_piece 6 = .ok (.isub, 1) := by decide +kernel
theorem dMo_piece_7 : decode kMo_piece 7 = .ok (.ireturn, 1) := by decide +kernel
theorem dMo_pieces_0 : decode kMo_pieces 0 = .ok (.aload_n 0, 1) := by decide +kernel
theorem dMo_pieces_1 : decode kMo_pieces 1 = .ok (.invokevirtual 90, 3) := by decide +kernel
theorem dMo_pieces_4 : decode kMo_pieces 4 = .ok (.ifCond .ne 7, 3) := by decide +kernel
theorem dMo_pieces_7 : decode kMo_pieces 7 = .ok (.iconst 1, 1) := by decide +kernel
theorem dMo_pieces_8 : decode kMo_pieces 8 = .ok (.goto 19, 3) := by decide +kernel
theorem dMo_pieces_11 : decode kMo_pieces 11 = .ok (.aload_n 0, 1) := by decide +kernel
theorem dMo_pieces_12 : decode kMo_pieces 12 = .ok (.invokevirtual 90, 3) := by decide +kernel
theorem dMo_pieces_15 : decode kMo_pieces 15 = .ok (.aload_n 0, 1) := by decide +kernel
theorem dMo_pieces_16 : decode kMo_pieces 16 = .ok (.invokevirtual 94, 3) := by decide +kernel
theorem dMo_pieces_19 : decode kMo_pieces 19 = .ok (.iadd, 1) := by decide +kernel
theorem dMo_pieces_20 : decode kMo_pieces 20 = .ok (.iconst 1, 1) := by decide +kernel
theorem dMo_pieces_21 : decode kMo_pieces 21 = .ok (.isub, 1) := by decide +kernel
theorem dMo_pieces_22 : decode kMo_pieces 22 = .ok (.aload_n 0, 1) := by decide +kernel
theorem dMo_pieces_23 : decode kMo_pieces 23 = .ok (.invokevirtual 94, 3) := by decide +kernel
theorem dMo_pieces_26 : decode kMo_pieces 26 = .ok (.idiv, 1) := by decide +kernel
theorem dMo_pieces_27 : decode kMo_pieces 27 = .ok (.ireturn, 1) := by decide +kernel
theorem dMo_volumes_0 : decode kMo_volumes 0 = .ok (.aload_n 0, 1) := by decide +kernel
theorem dMo_volumes_1 : decode kMo_volumes 1 = .ok (.iconst 0, 1) := by decide +kernel
theorem dMo_volumes_2 : decode kMo_volumes 2 = .ok (.putfield 1, 3) := by decide +kernel
theorem dMo_volumes_5 : decode kMo_volumes 5 = .ok (.aload_n 0, 1) := by decide +kernel
theorem dMo_volumes_6 : decode kMo_volumes 6 = .ok (.invokevirtual 97, 3) := by decide +kernel
theorem dMo_volumes_9 : decode kMo_volumes 9 = .ok (.aload_n 0, 1) := by decide +kernel
theorem dMo_volumes_10 : decode kMo_volumes 10 = .ok (.getfield 84, 3) := by decide +kernel
theorem dMo_volumes_13 : decode kMo_volumes 13 = .ok (.iadd, 1) := by decide +kernel
theorem dMo_volumes_14 : decode kMo_volumes 14 = .ok (.bipush 60, 2) := by decide +kernel
theorem dMo_volumes_16 : decode kMo_volumes 16 = .ok (.if_icmp .le 8, 3) := by decide +kernel
theorem dMo_volumes_19 : decode kMo_volumes 19 = .ok (.bipush (-3), 2) := by decide +kernel
theorem dMo_volumes_21 : decode kMo_volumes 21 = .ok (.goto 12, 3) := by decide +kernel
theorem dMo_volumes_24 : decode kMo_volumes 24 = .ok (.aload_n 0, 1) := by decide +kernel
theorem dMo_volumes_25 : decode kMo_volumes 25 = .ok (.invokevirtual 97, 3) := by decide +kernel
theorem dMo_volumes_28 : decode kMo_volumes 28 = .ok (.aload_n 0, 1) := by decide +kernel
theorem dMo_volumes_29 : decode kMo_volumes 29 = .ok (.getfield 84, 3) := by decide +kernel
theorem dMo_volumes_32 : decode kMo_volumes 32 = .ok (.iadd, 1) := by decide +kernel
theorem dMo_volumes_33 : decode kMo_volumes 33 = .ok (.ireturn, 1) := by decide +kernel
theorem dMo_times_0 : decode kMo_times 0 = .ok (.iconst 0, 1) := by decide +kernel
theorem dMo_times_1 : decode kMo_times 1 = .ok (.istore_n 2, 1) := by decide +kernel
theorem dMo_times_2 : decode kMo_times 2 = .ok (.iload_n 0, 1) := by decide +kernel
theorem dMo_times_3 : decode kMo_times 3 = .ok (.istore_n 3, 1) := by decide +kernel
theorem dMo_times_4 : decode kMo_times 4 = .ok (.iconst 0, 1) := by decide +kernel
theorem dMo_times_5 : decode kMo_times 5 = .ok (.istore 4, 2) := by decide +kernel
theorem dMo_times_7 : decode kMo_times 7 = .ok (.iload 4, 2) := by decide +kernel
theorem dMo_times_9 : decode kMo_times 9 = .ok (.bipush 8, 2) := by decide +kernel
theorem dMo_times_11 : decode kMo_times 11 = .ok (.if_icmp .ge 50, 3) := by decide +kernel
theorem dMo_times_14 : decode kMo_times 14 = .ok (.iload_n 1, 1) := by decide +kernel
theorem dMo_times_15 : decode kMo_times 15 = .ok (.iload 4, 2) := by decide +kernel
theorem dMo_times_17 : decode kMo_times 17 = .ok (.ishr, 1) := by decide +kernel
theorem dMo_times_18 : decode kMo_times 18 = .ok (.iconst 1, 1) := by decide +kernel
theorem dMo_times_19 : decode kMo_times 19 = .ok (.iand, 1) := by decide +kernel
theorem dMo_times_20 : decode kMo_times 20 = .ok (.iconst 1, 1) := by decide +kernel
theorem dMo_times_21 : decode kMo_times 21 = .ok (.if_icmp .ne 9, 3) := by decide +kernel
theorem dMo_times_24 : decode kMo_times 24 = .ok (.iload_n 2, 1) := by decide +kernel
theorem dMo_times_25 : decode kMo_times 25 = .ok (.iload_n 3, 1) := by decide +kernel
theorem dMo_times_26 : decode kMo_times 26 = .ok (.ixor, 1) := by decide +kernel
theorem dMo_times_27 : decode kMo_times 27 = .ok (.goto 4, 3) := by decide +kernel
theorem dMo_times_30 : decode kMo_times 30 = .ok (.iload_n 2, 1) := by decide +kernel
theorem dMo_times_31 : decode kMo_times 31 = .ok (.istore_n 2, 1) := by decide +kernel
theorem dMo_times_32 : decode kMo_times 32 = .ok (.iload_n 3, 1) := by decide +kernel
theorem dMo_times_33 : decode kMo_times 33 = .ok (.bipush 127, 2) := by decide +kernel
theorem dMo_times_35 : decode kMo_times 35 = .ok (.if_icmp .le 16, 3) := by decide +kernel
theorem dMo_times_38 : decode kMo_times 38 = .ok (.iload_n 3, 1) := by decide +kernel
theorem dMo_times_39 : decode kMo_times 39 = .ok (.iconst 1, 1) := by decide +kernel
theorem dMo_times_40 : decode kMo_times 40 = .ok (.ishl, 1) := by decide +kernel
theorem dMo_times_41 : decode kMo_times 41 = .ok (.sipush 255, 3) := by decide +kernel
theorem dMo_times_44 : decode kMo_times 44 = .ok (.iand, 1) := by decide +kernel
theorem dMo_times_45 : decode kMo_times 45 = .ok (.bipush 29, 2) := by decide +kernel
theorem dMo_times_47 : decode kMo_times 47 = .ok (.ixor, 1) := by decide +kernel
theorem dMo_times_48 : decode kMo_times 48 = .ok (.goto 6, 3) := by decide +kernel
theorem dMo_times_51 : decode kMo_times 51 = .ok (.iload_n 3, 1) := by decide +kernel
theorem dMo_times_52 : decode kMo_times 52 = .ok (.iconst 1, 1) := by decide +kernel
theorem dMo_times_53 : decode kMo_times 53 = .ok (.ishl, 1) := by decide +kernel
theorem dMo_times_54 : decode kMo_times 54 = .ok (.istore_n 3, 1) := by decide +kernel
theorem dMo_times_55 : decode kMo_times 55 = .ok (.iinc 4 1, 3) := by decide +kernel
theorem dMo_times_58 : decode kMo_times 58 = .ok (.goto (-51), 3) := by decide +kernel
theorem dMo_times_61 : decode kMo_times 61 = .ok (.iload_n 2, 1) := by decide +kernel
theorem dMo_times_62 : decode kMo_times 62 = .ok (.ireturn, 1) := by decide +kernel
theorem dMo_power_0 : decode kMo_power 0 = .ok (.iconst 1, 1) := by decide +kernel
theorem dMo_power_1 : decode kMo_power 1 = .ok (.istore_n 1, 1) := by decide +kernel
theorem dMo_power_2 : decode kMo_power 2 = .ok (.iconst 0, 1) := by decide +kernel
theorem dMo_power_3 : decode kMo_power 3 = .ok (.istore_n 2, 1) := by decide +kernel
theorem dMo_power_4 : decode kMo_power 4 = .ok (.iload_n 2, 1) := by decide +kernel
theorem dMo_power_5 : decode kMo_power 5 = .ok (.iload_n 0, 1) := by decide +kernel
theorem dMo_power_6 : decode kMo_power 6 = .ok (.sipush 255, 3) := by decide +kernel
theorem dMo_power_9 : decode kMo_power 9 = .ok (.irem, 1) := by decide +kernel
theorem dMo_power_10 : decode kMo_power 10 = .ok (.if_icmp .ge 15, 3) := by decide +kernel
theorem dMo_power_13 : decode kMo_power 13 = .ok (.iload_n 1, 1) := by decide +kernel
theorem dMo_power_14 : decode kMo_power 14 = .ok (.iconst 2, 1) := by decide +kernel
theorem dMo_power_15 : decode kMo_power 15 = .ok (.invokestatic 100, 3) := by decide +kernel
theorem dMo_power_18 : decode kMo_power 18 = .ok (.istore_n 1, 1) := by decide +kernel
theorem dMo_power_19 : decode kMo_power 19 = .ok (.iinc 2 1, 3) := by decide +kernel
theorem dMo_power_22 : decode kMo_power 22 = .ok (.goto (-18), 3) := by decide +kernel
theorem dMo_power_25 : decode kMo_power 25 = .ok (.iload_n 1, 1) := by decide +kernel
theorem dMo_power_26 : decode kMo_power 26 = .ok (.ireturn, 1) := by decide +kernel
theorem dMo_over_0 : decode kMo_over 0 = .ok (.iconst 1, 1) := by decide +kernel
theorem dMo_over_1 : decode kMo_over 1 = .ok (.istore_n 1, 1) := by decide +kernel
theorem dMo_over_2 : decode kMo_over 2 = .ok (.iconst 0, 1) := by decide +kernel
theorem dMo_over_3 : decode kMo_over 3 = .ok (.istore_n 2, 1) := by decide +kernel
theorem dMo_over_4 : decode kMo_over 4 = .ok (.iload_n 2, 1) := by decide +kernel
theorem dMo_over_5 : decode kMo_over 5 = .ok (.sipush 254, 3) := by decide +kernel
theorem dMo_over_8 : decode kMo_over 8 = .ok (.if_icmp .ge 15, 3) := by decide +kernel
theorem dMo_over_11 : decode kMo_over 11 = .ok (.iload_n 1, 1) := by decide +kernel
theorem dMo_over_12 : decode kMo_over 12 = .ok (.iload_n 0, 1) := by decide +kernel
theorem dMo_over_13 : decode kMo_over 13 = .ok (.invokestatic 100, 3) := by decide +kernel
theorem dMo_over_16 : decode kMo_over 16 = .ok (.istore_n 1, 1) := by decide +kernel
theorem dMo_over_17 : decode kMo_over 17 = .ok (.iinc 2 1, 3) := by decide +kernel
theorem dMo_over_20 : decode kMo_over 20 = .ok (.goto (-16), 3) := by decide +kernel
theorem dMo_over_23 : decode kMo_over 23 = .ok (.iload_n 1, 1) := by decide +kernel
theorem dMo_over_24 : decode kMo_over 24 = .ok (.ireturn, 1) := by decide +kernel
theorem dMo_ofPiece_0 : decode kMo_ofPiece 0 = .ok (.iload_n 1, 1) := by decide +kernel
theorem dMo_ofPiece_1 : decode kMo_ofPiece 1 = .ok (.aload_n 0, 1) := by decide +kernel
theorem dMo_ofPiece_2 : decode kMo_ofPiece 2 = .ok (.invokevirtual 94, 3) := by decide +kernel
theorem dMo_ofPiece_5 : decode kMo_ofPiece 5 = .ok (.imul, 1) := by decide +kernel
theorem dMo_ofPiece_6 : decode kMo_ofPiece 6 = .ok (.istore_n 3, 1) := by decide +kernel
theorem dMo_ofPiece_7 : decode kMo_ofPiece 7 = .ok (.aload_n 0, 1) := by decide +kernel
theorem dMo_ofPiece_8 : decode kMo_ofPiece 8 = .ok (.invokevirtual 90, 3) := by decide +kernel
theorem dMo_ofPiece_11 : decode kMo_ofPiece 11 = .ok (.iload_n 3, 1) := by decide +kernel
theorem dMo_ofPiece_12 : decode kMo_ofPiece 12 = .ok (.isub, 1) := by decide +kernel
theorem dMo_ofPiece_13 : decode kMo_ofPiece 13 = .ok (.istore 4, 2) := by decide +kernel
theorem dMo_ofPiece_15 : decode kMo_ofPiece 15 = .ok (.iload 4, 2) := by decide +kernel
theorem dMo_ofPiece_17 : decode kMo_ofPiece 17 = .ok (.aload_n 0, 1) := by decide +kernel
theorem dMo_ofPiece_18 : decode kMo_ofPiece 18 = .ok (.invokevirtual 94, 3) := by decide +kernel
theorem dMo_ofPiece_21 : decode kMo_ofPiece 21 = .ok (.if_icmp .ge 8, 3) := by decide +kernel
theorem dMo_ofPiece_24 : decode kMo_ofPiece 24 = .ok (.iload 4, 2) := by decide +kernel
theorem dMo_ofPiece_26 : decode kMo_ofPiece 26 = .ok (.goto 7, 3) := by decide +kernel
theorem dMo_ofPiece_29 : decode kMo_ofPiece 29 = .ok (.aload_n 0, 1) := by decide +kernel
theorem dMo_ofPiece_30 : decode kMo_ofPiece 30 = .ok (.invokevirtual 94, 3) := by decide +kernel
theorem dMo_ofPiece_33 : decode kMo_ofPiece 33 = .ok (.istore 5, 2) := by decide +kernel
theorem dMo_ofPiece_35 : decode kMo_ofPiece 35 = .ok (.iload_n 2, 1) := by decide +kernel
theorem dMo_ofPiece_36 : decode kMo_ofPiece 36 = .ok (.ifCond .lt 22, 3) := by decide +kernel
theorem dMo_ofPiece_39 : decode kMo_ofPiece 39 = .ok (.iload_n 2, 1) := by decide +kernel
theorem dMo_ofPiece_40 : decode kMo_ofPiece 40 = .ok (.iload 5, 2) := by decide +kernel
theorem dMo_ofPiece_42 : decode kMo_ofPiece 42 = .ok (.if_icmp .ge 14, 3) := by decide +kernel
theorem dMo_ofPiece_45 : decode kMo_ofPiece 45 = .ok (.aload_n 0, 1) := by decide +kernel
theorem dMo_ofPiece_46 : decode kMo_ofPiece 46 = .ok (.getfield 17, 3) := by decide +kernel
theorem dMo_ofPiece_49 : decode kMo_ofPiece 49 = .ok (.iload_n 3, 1) := by decide +kernel
theorem dMo_ofPiece_50 : decode kMo_ofPiece 50 = .ok (.iload_n 2, 1) := by decide +kernel
theorem dMo_ofPiece_51 : decode kMo_ofPiece 51 = .ok (.iadd, 1) := by decide +kernel
theorem dMo_ofPiece_52 : decode kMo_ofPiece 52 = .ok (.iaload, 1) := by decide +kernel
theorem dMo_ofPiece_53 : decode kMo_ofPiece 53 = .ok (.goto 4, 3) := by decide +kernel
theorem dMo_ofPiece_56 : decode kMo_ofPiece 56 = .ok (.iconst 0, 1) := by decide +kernel
theorem dMo_ofPiece_57 : decode kMo_ofPiece 57 = .ok (.ireturn, 1) := by decide +kernel
theorem dMo_ofPiece_58 : decode kMo_ofPiece 58 = .ok (.iload_n 2, 1) := by decide +kernel
theorem dMo_ofPiece_59 : decode kMo_ofPiece 59 = .ok (.iconst (-1), 1) := by decide +kernel
theorem dMo_ofPiece_60 : decode kMo_ofPiece 60 = .ok (.if_icmp .ne 6, 3) := by decide +kernel
theorem dMo_ofPiece_63 : decode kMo_ofPiece 63 = .ok (.iload 5, 2) := by decide +kernel
theorem dMo_ofPiece_65 : decode kMo_ofPiece 65 = .ok (.ireturn, 1) := by decide +kernel
theorem dMo_ofPiece_66 : decode kMo_ofPiece 66 = .ok (.iconst 0, 1) := by decide +kernel
theorem dMo_ofPiece_67 : decode kMo_ofPiece 67 = .ok (.istore 6, 2) := by decide +kernel
theorem dMo_ofPiece_69 : decode kMo_ofPiece 69 = .ok (.iload 6, 2) := by decide +kernel
theorem dMo_ofPiece_71 : decode kMo_ofPiece 71 = .ok (.aload_n 0, 1) := by decide +kernel
theorem dMo_ofPiece_72 : decode kMo_ofPiece 72 = .ok (.getfield 77, 3) := by decide +kernel
theorem dMo_ofPiece_75 : decode kMo_ofPiece 75 = .ok (.if_icmp .ge 39, 3) := by decide +kernel
theorem dMo_ofPiece_78 : decode kMo_ofPiece 78 = .ok (.aload_n 0, 1) := by decide +kernel
theorem dMo_ofPiece_79 : decode kMo_ofPiece 79 = .ok (.getfield 20, 3) := by decide +kernel
theorem dMo_ofPiece_82 : decode kMo_ofPiece 82 = .ok (.iload 6, 2) := by decide +kernel
theorem dMo_ofPiece_84 : decode kMo_ofPiece 84 = .ok (.iaload, 1) := by decide +kernel
theorem dMo_ofPiece_85 : decode kMo_ofPiece 85 = .ok (.iload_n 3, 1) := by decide +kernel
theorem dMo_ofPiece_86 : decode kMo_ofPiece 86 = .ok (.iload_n 3, 1) := by decide +kernel
theorem dMo_ofPiece_87 : decode kMo_ofPiece 87 = .ok (.iload 5, 2) := by decide +kernel
theorem dMo_ofPiece_89 : decode kMo_ofPiece 89 = .ok (.iadd, 1) := by decide +kernel
theorem dMo_ofPiece_90 : decode kMo_ofPiece 90 = .ok (.iconst 1, 1) := by decide +kernel
theorem dMo_ofPiece_91 : decode kMo_ofPiece 91 = .ok (.isub, 1) := by decide +kernel
theorem dMo_ofPiece_92 : decode kMo_ofPiece 92 = .ok (.invokestatic 68, 3) := by decide +kernel
theorem dMo_ofPiece_95 : decode kMo_ofPiece 95 = .ok (.ifCond .eq 13, 3) := by decide +kernel
theorem dMo_ofPiece_98 : decode kMo_ofPiece 98 = .ok (.aload_n 0, 1) := by decide +kernel
theorem dMo_ofPiece_99 : decode kMo_ofPiece 99 = .ok (.getfield 20, 3) := by decide +kernel
theorem dMo_ofPiece_102 : decode kMo_ofPiece 102 = .ok (.iload 6, 2) := by decide +kernel
theorem dMo_ofPiece_104 : decode kMo_ofPiece 104 = .ok (.iaload, 1) := by decide +kernel
theorem dMo_ofPiece_105 : decode kMo_ofPiece 105 = .ok (.iload_n 3, 1) := by decide +kernel
theorem dMo_ofPiece_106 : decode kMo_ofPiece 106 = .ok (.isub, 1) := by decide +kernel
theorem dMo_ofPiece_107 : decode kMo_ofPiece 107 = .ok (.ireturn, 1) := by decide +kernel
theorem dMo_ofPiece_108 : decode kMo_ofPiece 108 = .ok (.iinc 6 1, 3) := by decide +kernel
theorem dMo_ofPiece_111 : decode kMo_ofPiece 111 = .ok (.goto (-42), 3) := by decide +kernel
theorem dMo_ofPiece_114 : decode kMo_ofPiece 114 = .ok (.sipush 255, 3) := by decide +kernel
theorem dMo_ofPiece_117 : decode kMo_ofPiece 117 = .ok (.ireturn, 1) := by decide +kernel
theorem dMo_ofVolume_0 : decode kMo_ofVolume 0 = .ok (.aload_n 0, 1) := by decide +kernel
theorem dMo_ofVolume_1 : decode kMo_ofVolume 1 = .ok (.invokevirtual 97, 3) := by decide +kernel
theorem dMo_ofVolume_4 : decode kMo_ofVolume 4 = .ok (.istore_n 3, 1) := by decide +kernel
theorem dMo_ofVolume_5 : decode kMo_ofVolume 5 = .ok (.iload_n 1, 1) := by decide +kernel
theorem dMo_ofVolume_6 : decode kMo_ofVolume 6 = .ok (.iload_n 3, 1) := by decide +kernel
theorem dMo_ofVolume_7 : decode kMo_ofVolume 7 = .ok (.if_icmp .ge 10, 3) := by decide +kernel
theorem dMo_ofVolume_10 : decode kMo_ofVolume 10 = .ok (.aload_n 0, 1) := by decide +kernel
theorem dMo_ofVolume_11 : decode kMo_ofVolume 11 = .ok (.iload_n 1, 1) := by decide +kernel
theorem dMo_ofVolume_12 : decode kMo_ofVolume 12 = .ok (.iload_n 2, 1) := by decide +kernel
theorem dMo_ofVolume_13 : decode kMo_ofVolume 13 = .ok (.invokevirtual 103, 3) := by decide +kernel
theorem dMo_ofVolume_16 : decode kMo_ofVolume 16 = .ok (.ireturn, 1) := by decide +kernel
theorem dMo_ofVolume_17 : decode kMo_ofVolume 17 = .ok (.iconst 0, 1) := by decide +kernel
theorem dMo_ofVolume_18 : decode kMo_ofVolume 18 = .ok (.istore 4, 2) := by decide +kernel
theorem dMo_ofVolume_20 : decode kMo_ofVolume 20 = .ok (.iconst 1, 1) := by decide +kernel
theorem dMo_ofVolume_21 : decode kMo_ofVolume 21 = .ok (.istore 5, 2) := by decide +kernel
theorem dMo_ofVolume_23 : decode kMo_ofVolume 23 = .ok (.iload_n 1, 1) := by decide +kernel
theorem dMo_ofVolume_24 : decode kMo_ofVolume 24 = .ok (.iload_n 3, 1) := by decide +kernel
theorem dMo_ofVolume_25 : decode kMo_ofVolume 25 = .ok (.isub, 1) := by decide +kernel
theorem dMo_ofVolume_26 : decode kMo_ofVolume 26 = .ok (.invokestatic 106, 3) := by decide +kernel
theorem dMo_ofVolume_29 : decode kMo_ofVolume 29 = .ok (.istore 6, 2) := by decide +kernel
theorem dMo_ofVolume_31 : decode kMo_ofVolume 31 = .ok (.iconst 0, 1) := by decide +kernel
theorem dMo_ofVolume_32 : decode kMo_ofVolume 32 = .ok (.istore 7, 2) := by decide +kernel
theorem dMo_ofVolume_34 : decode kMo_ofVolume 34 = .ok (.iload 7, 2) := by decide +kernel
theorem dMo_ofVolume_36 : decode kMo_ofVolume 36 = .ok (.iload_n 3, 1) := by decide +kernel
theorem dMo_ofVolume_37 : decode kMo_ofVolume 37 = .ok (.if_icmp .ge 35, 3) := by decide +kernel
theorem dMo_ofVolume_40 : decode kMo_ofVolume 40 = .ok (.iload 4, 2) := by decide +kernel
theorem dMo_ofVolume_42 : decode kMo_ofVolume 42 = .ok (.iload 5, 2) := by decide +kernel
theorem dMo_ofVolume_44 : decode kMo_ofVolume 44 = .ok (.aload_n 0, 1) := by decide +kernel
theorem dMo_ofVolume_45 : decode kMo_ofVolume 45 = .ok (.iload 7, 2) := by decide +kernel
theorem dMo_ofVolume_47 : decode kMo_ofVolume 47 = .ok (.iload_n 2, 1) := by decide +kernel
theorem dMo_ofVolume_48 : decode kMo_ofVolume 48 = .ok (.invokevirtual 103, 3) := by decide +kernel
theorem dMo_ofVolume_51 : decode kMo_ofVolume 51 = .ok (.invokestatic 100, 3) := by decide +kernel
theorem dMo_ofVolume_54 : decode kMo_ofVolume 54 = .ok (.ixor, 1) := by decide +kernel
theorem dMo_ofVolume_55 : decode kMo_ofVolume 55 = .ok (.istore 4, 2) := by decide +kernel
theorem dMo_ofVolume_57 : decode kMo_ofVolume 57 = .ok (.iload 5, 2) := by decide +kernel
theorem dMo_ofVolume_59 : decode kMo_ofVolume 59 = .ok (.iload 6, 2) := by decide +kernel
theorem dMo_ofVolume_61 : decode kMo_ofVolume 61 = .ok (.invokestatic 100, 3) := by decide +kernel
theorem dMo_ofVolume_64 : decode kMo_ofVolume 64 = .ok (.istore 5, 2) := by decide +kernel
theorem dMo_ofVolume_66 : decode kMo_ofVolume 66 = .ok (.iinc 7 1, 3) := by decide +kernel
theorem dMo_ofVolume_69 : decode kMo_ofVolume 69 = .ok (.goto (-35), 3) := by decide +kernel
theorem dMo_ofVolume_72 : decode kMo_ofVolume 72 = .ok (.iload 4, 2) := by decide +kernel
theorem dMo_ofVolume_74 : decode kMo_ofVolume 74 = .ok (.ireturn, 1) := by decide +kernel
theorem dMo_make_0 : decode kMo_make 0 = .ok (.iconst 0, 1) := by decide +kernel
theorem dMo_make_1 : decode kMo_make 1 = .ok (.istore_n 2, 1) := by decide +kernel
theorem dMo_make_2 : decode kMo_make 2 = .ok (.iload_n 2, 1) := by decide +kernel
theorem dMo_make_3 : decode kMo_make 3 = .ok (.aload_n 0, 1) := by decide +kernel
theorem dMo_make_4 : decode kMo_make 4 = .ok (.invokevirtual 94, 3) := by decide +kernel
theorem dMo_make_7 : decode kMo_make 7 = .ok (.if_icmp .ge 24, 3) := by decide +kernel
theorem dMo_make_10 : decode kMo_make 10 = .ok (.aload_n 0, 1) := by decide +kernel
theorem dMo_make_11 : decode kMo_make 11 = .ok (.getfield 32, 3) := by decide +kernel
theorem dMo_make_14 : decode kMo_make 14 = .ok (.bipush 12, 2) := by decide +kernel
theorem dMo_make_16 : decode kMo_make 16 = .ok (.iload_n 2, 1) := by decide +kernel
theorem dMo_make_17 : decode kMo_make 17 = .ok (.iadd, 1) := by decide +kernel
theorem dMo_make_18 : decode kMo_make 18 = .ok (.aload_n 0, 1) := by decide +kernel
theorem dMo_make_19 : decode kMo_make 19 = .ok (.iload_n 1, 1) := by decide +kernel
theorem dMo_make_20 : decode kMo_make 20 = .ok (.iload_n 2, 1) := by decide +kernel
theorem dMo_make_21 : decode kMo_make 21 = .ok (.invokevirtual 110, 3) := by decide +kernel
theorem dMo_make_24 : decode kMo_make 24 = .ok (.iastore, 1) := by decide +kernel
theorem dMo_make_25 : decode kMo_make 25 = .ok (.iinc 2 1, 3) := by decide +kernel
theorem dMo_make_28 : decode kMo_make 28 = .ok (.goto (-26), 3) := by decide +kernel
theorem dMo_make_31 : decode kMo_make 31 = .ok (.aload_n 0, 1) := by decide +kernel
theorem dMo_make_32 : decode kMo_make 32 = .ok (.getfield 32, 3) := by decide +kernel
theorem dMo_make_35 : decode kMo_make 35 = .ok (.iconst 0, 1) := by decide +kernel
theorem dMo_make_36 : decode kMo_make 36 = .ok (.bipush 86, 2) := by decide +kernel
theorem dMo_make_38 : decode kMo_make 38 = .ok (.iastore, 1) := by decide +kernel
theorem dMo_make_39 : decode kMo_make 39 = .ok (.aload_n 0, 1) := by decide +kernel
theorem dMo_make_40 : decode kMo_make 40 = .ok (.getfield 32, 3) := by decide +kernel
theorem dMo_make_43 : decode kMo_make 43 = .ok (.iconst 1, 1) := by decide +kernel
theorem dMo_make_44 : decode kMo_make 44 = .ok (.bipush 83, 2) := by decide +kernel
theorem dMo_make_46 : decode kMo_make 46 = .ok (.iastore, 1) := by decide +kernel
theorem dMo_make_47 : decode kMo_make 47 = .ok (.aload_n 0, 1) := by decide +kernel
theorem dMo_make_48 : decode kMo_make 48 = .ok (.getfield 32, 3) := by decide +kernel
theorem dMo_make_51 : decode kMo_make 51 = .ok (.iconst 2, 1) := by decide +kernel
theorem dMo_make_52 : decode kMo_make 52 = .ok (.aload_n 0, 1) := by decide +kernel
theorem dMo_make_53 : decode kMo_make 53 = .ok (.getfield 87, 3) := by decide +kernel
theorem dMo_make_56 : decode kMo_make 56 = .ok (.iastore, 1) := by decide +kernel
theorem dMo_make_57 : decode kMo_make 57 = .ok (.aload_n 0, 1) := by decide +kernel
theorem dMo_make_58 : decode kMo_make 58 = .ok (.getfield 32, 3) := by decide +kernel
theorem dMo_make_61 : decode kMo_make 61 = .ok (.iconst 3, 1) := by decide +kernel
theorem dMo_make_62 : decode kMo_make 62 = .ok (.iload_n 1, 1) := by decide +kernel
theorem dMo_make_63 : decode kMo_make 63 = .ok (.iastore, 1) := by decide +kernel
theorem dMo_make_64 : decode kMo_make 64 = .ok (.aload_n 0, 1) := by decide +kernel
theorem dMo_make_65 : decode kMo_make 65 = .ok (.getfield 32, 3) := by decide +kernel
theorem dMo_make_68 : decode kMo_make 68 = .ok (.iconst 4, 1) := by decide +kernel
theorem dMo_make_69 : decode kMo_make 69 = .ok (.aload_n 0, 1) := by decide +kernel
theorem dMo_make_70 : decode kMo_make 70 = .ok (.invokevirtual 97, 3) := by decide +kernel
theorem dMo_make_73 : decode kMo_make 73 = .ok (.iastore, 1) := by decide +kernel
theorem dMo_make_74 : decode kMo_make 74 = .ok (.aload_n 0, 1) := by decide +kernel
theorem dMo_make_75 : decode kMo_make 75 = .ok (.getfield 32, 3) := by decide +kernel
theorem dMo_make_78 : decode kMo_make 78 = .ok (.iconst 5, 1) := by decide +kernel
theorem dMo_make_79 : decode kMo_make 79 = .ok (.aload_n 0, 1) := by decide +kernel
theorem dMo_make_80 : decode kMo_make 80 = .ok (.getfield 84, 3) := by decide +kernel
theorem dMo_make_83 : decode kMo_make 83 = .ok (.iastore, 1) := by decide +kernel
theorem dMo_make_84 : decode kMo_make 84 = .ok (.aload_n 0, 1) := by decide +kernel
theorem dMo_make_85 : decode kMo_make 85 = .ok (.getfield 32, 3) := by decide +kernel
theorem dMo_make_88 : decode kMo_make 88 = .ok (.bipush 6, 2) := by decide +kernel
theorem dMo_make_90 : decode kMo_make 90 = .ok (.aload_n 0, 1) := by decide +kernel
theorem dMo_make_91 : decode kMo_make 91 = .ok (.iload_n 1, 1) := by decide +kernel
theorem dMo_make_92 : decode kMo_make 92 = .ok (.iconst (-1), 1) := by decide +kernel
theorem dMo_make_93 : decode kMo_make 93 = .ok (.invokevirtual 110, 3) := by decide +kernel
theorem dMo_make_96 : decode kMo_make 96 = .ok (.iastore, 1) := by decide +kernel
theorem dMo_make_97 : decode kMo_make 97 = .ok (.aload_n 0, 1) := by decide +kernel
theorem dMo_make_98 : decode kMo_make 98 = .ok (.getfield 32, 3) := by decide +kernel
theorem dMo_make_101 : decode kMo_make 101 = .ok (.bipush 7, 2) := by decide +kernel
theorem dMo_make_103 : decode kMo_make 103 = .ok (.aload_n 0, 1) := by decide +kernel
theorem dMo_make_104 : decode kMo_make 104 = .ok (.iload_n 1, 1) := by decide +kernel
theorem dMo_make_105 : decode kMo_make 105 = .ok (.bipush (-2), 2) := by decide +kernel
theorem dMo_make_107 : decode kMo_make 107 = .ok (.invokevirtual 110, 3) := by decide +kernel
theorem dMo_make_110 : decode kMo_make 110 = .ok (.iastore, 1) := by decide +kernel
theorem dMo_make_111 : decode kMo_make 111 = .ok (.aload_n 0, 1) := by decide +kernel
theorem dMo_make_112 : decode kMo_make 112 = .ok (.getfield 32, 3) := by decide +kernel
theorem dMo_make_115 : decode kMo_make 115 = .ok (.bipush 12, 2) := by decide +kernel
theorem dMo_make_117 : decode kMo_make 117 = .ok (.aload_n 0, 1) := by decide +kernel
theorem dMo_make_118 : decode kMo_make 118 = .ok (.invokevirtual 94, 3) := by decide +kernel
theorem dMo_make_121 : decode kMo_make 121 = .ok (.invokestatic 80, 3) := by decide +kernel
theorem dMo_make_124 : decode kMo_make 124 = .ok (.istore_n 2, 1) := by decide +kernel
theorem dMo_make_125 : decode kMo_make 125 = .ok (.aload_n 0, 1) := by decide +kernel
theorem dMo_make_126 : decode kMo_make 126 = .ok (.getfield 32, 3) := by decide +kernel
theorem dMo_make_129 : decode kMo_make 129 = .ok (.bipush 8, 2) := by decide +kernel
theorem dMo_make_131 : decode kMo_make 131 = .ok (.iload_n 2, 1) := by decide +kernel
theorem dMo_make_132 : decode kMo_make 132 = .ok (.sipush 256, 3) := by decide +kernel
theorem dMo_make_135 : decode kMo_make 135 = .ok (.irem, 1) := by decide +kernel
theorem dMo_make_136 : decode kMo_make 136 = .ok (.iastore, 1) := by decide +kernel
theorem dMo_make_137 : decode kMo_make 137 = .ok (.aload_n 0, 1) := by decide +kernel
theorem dMo_make_138 : decode kMo_make 138 = .ok (.getfield 32, 3) := by decide +kernel
theorem dMo_make_141 : decode kMo_make 141 = .ok (.bipush 9, 2) := by decide +kernel
theorem dMo_make_143 : decode kMo_make 143 = .ok (.iload_n 2, 1) := by decide +kernel
theorem dMo_make_144 : decode kMo_make 144 = .ok (.sipush 256, 3) := by decide +kernel
theorem dMo_make_147 : decode kMo_make 147 = .ok (.idiv, 1) := by decide +kernel
theorem dMo_make_148 : decode kMo_make 148 = .ok (.iastore, 1) := by decide +kernel
theorem dMo_make_149 : decode kMo_make 149 = .ok (.aload_n 0, 1) := by decide +kernel
theorem dMo_make_150 : decode kMo_make 150 = .ok (.getfield 32, 3) := by decide +kernel
theorem dMo_make_153 : decode kMo_make 153 = .ok (.iconst 0, 1) := by decide +kernel
theorem dMo_make_154 : decode kMo_make 154 = .ok (.bipush 10, 2) := by decide +kernel
theorem dMo_make_156 : decode kMo_make 156 = .ok (.invokestatic 80, 3) := by decide +kernel
theorem dMo_make_159 : decode kMo_make 159 = .ok (.istore_n 3, 1) := by decide +kernel
theorem dMo_make_160 : decode kMo_make 160 = .ok (.aload_n 0, 1) := by decide +kernel
theorem dMo_make_161 : decode kMo_make 161 = .ok (.getfield 32, 3) := by decide +kernel
theorem dMo_make_164 : decode kMo_make 164 = .ok (.bipush 10, 2) := by decide +kernel
theorem dMo_make_166 : decode kMo_make 166 = .ok (.iload_n 3, 1) := by decide +kernel
theorem dMo_make_167 : decode kMo_make 167 = .ok (.sipush 256, 3) := by decide +kernel
theorem dMo_make_170 : decode kMo_make 170 = .ok (.irem, 1) := by decide +kernel
theorem dMo_make_171 : decode kMo_make 171 = .ok (.iastore, 1) := by decide +kernel
theorem dMo_make_172 : decode kMo_make 172 = .ok (.aload_n 0, 1) := by decide +kernel
theorem dMo_make_173 : decode kMo_make 173 = .ok (.getfield 32, 3) := by decide +kernel
theorem dMo_make_176 : decode kMo_make 176 = .ok (.bipush 11, 2) := by decide +kernel
theorem dMo_make_178 : decode kMo_make 178 = .ok (.iload_n 3, 1) := by decide +kernel
theorem dMo_make_179 : decode kMo_make 179 = .ok (.sipush 256, 3) := by decide +kernel
theorem dMo_make_182 : decode kMo_make 182 = .ok (.idiv, 1) := by decide +kernel
theorem dMo_make_183 : decode kMo_make 183 = .ok (.iastore, 1) := by decide +kernel
theorem dMo_make_184 : decode kMo_make 184 = .ok (.return_, 1) := by decide +kernel
theorem dMo_byteOf_0 : decode kMo_byteOf 0 = .ok (.aload_n 0, 1) := by decide +kernel
theorem dMo_byteOf_1 : decode kMo_byteOf 1 = .ok (.invokevirtual 113, 3) := by decide +kernel
theorem dMo_byteOf_4 : decode kMo_byteOf 4 = .ok (.istore_n 3, 1) := by decide +kernel
theorem dMo_byteOf_5 : decode kMo_byteOf 5 = .ok (.iload_n 3, 1) := by decide +kernel
theorem dMo_byteOf_6 : decode kMo_byteOf 6 = .ok (.bipush (-3), 2) := by decide +kernel
theorem dMo_byteOf_8 : decode kMo_byteOf 8 = .ok (.if_icmp .ne 6, 3) := by decide +kernel
theorem dMo_byteOf_11 : decode kMo_byteOf 11 = .ok (.bipush (-3), 2) := by decide +kernel
theorem dMo_byteOf_13 : decode kMo_byteOf 13 = .ok (.ireturn, 1) := by decide +kernel
theorem dMo_byteOf_14 : decode kMo_byteOf 14 = .ok (.iload_n 1, 1) := by decide +kernel
theorem dMo_byteOf_15 : decode kMo_byteOf 15 = .ok (.iconst 0, 1) := by decide +kernel
theorem dMo_byteOf_16 : decode kMo_byteOf 16 = .ok (.iload_n 3, 1) := by decide +kernel
theorem dMo_byteOf_17 : decode kMo_byteOf 17 = .ok (.iconst 1, 1) := by decide +kernel
theorem dMo_byteOf_18 : decode kMo_byteOf 18 = .ok (.isub, 1) := by decide +kernel
theorem dMo_byteOf_19 : decode kMo_byteOf 19 = .ok (.invokestatic 68, 3) := by decide +kernel
theorem dMo_byteOf_22 : decode kMo_byteOf 22 = .ok (.ifCond .eq 17, 3) := by decide +kernel
theorem dMo_byteOf_25 : decode kMo_byteOf 25 = .ok (.iload_n 2, 1) := by decide +kernel
theorem dMo_byteOf_26 : decode kMo_byteOf 26 = .ok (.iconst 0, 1) := by decide +kernel
theorem dMo_byteOf_27 : decode kMo_byteOf 27 = .ok (.aload_n 0, 1) := by decide +kernel
theorem dMo_byteOf_28 : decode kMo_byteOf 28 = .ok (.getfield 23, 3) := by decide +kernel
theorem dMo_byteOf_31 : decode kMo_byteOf 31 = .ok (.iconst 1, 1) := by decide +kernel
theorem dMo_byteOf_32 : decode kMo_byteOf 32 = .ok (.isub, 1) := by decide +kernel
theorem dMo_byteOf_33 : decode kMo_byteOf 33 = .ok (.invokestatic 68, 3) := by decide +kernel
theorem dMo_byteOf_36 : decode kMo_byteOf 36 = .ok (.ifCond .ne 5, 3) := by decide +kernel
theorem dMo_byteOf_39 : decode kMo_byteOf 39 = .ok (.iconst (-1), 1) := by decide +kernel
theorem dMo_byteOf_40 : decode kMo_byteOf 40 = .ok (.ireturn, 1) := by decide +kernel
theorem dMo_byteOf_41 : decode kMo_byteOf 41 = .ok (.aload_n 0, 1) := by decide +kernel
theorem dMo_byteOf_42 : decode kMo_byteOf 42 = .ok (.iload_n 1, 1) := by decide +kernel
theorem dMo_byteOf_43 : decode kMo_byteOf 43 = .ok (.invokevirtual 116, 3) := by decide +kernel
theorem dMo_byteOf_46 : decode kMo_byteOf 46 = .ok (.aload_n 0, 1) := by decide +kernel
theorem dMo_byteOf_47 : decode kMo_byteOf 47 = .ok (.getfield 32, 3) := by decide +kernel
theorem dMo_byteOf_50 : decode kMo_byteOf 50 = .ok (.iload_n 2, 1) := by decide +kernel
theorem dMo_byteOf_51 : decode kMo_byteOf 51 = .ok (.iaload, 1) := by decide +kernel
theorem dMo_byteOf_52 : decode kMo_byteOf 52 = .ok (.ireturn, 1) := by decide +kernel
theorem dMo_isThere_0 : decode kMo_isThere 0 = .ok (.iconst 0, 1) := by decide +kernel
theorem dMo_isThere_1 : decode kMo_isThere 1 = .ok (.istore_n 1, 1) := by decide +kernel
theorem dMo_isThere_2 : decode kMo_isThere 2 = .ok (.iload_n 1, 1) := by decide +kernel
theorem dMo_isThere_3 : decode kMo_isThere 3 = .ok (.bipush 60, 2) := by decide +kernel
theorem dMo_isThere_5 : decode kMo_isThere 5 = .ok (.if_icmp .ge 80, 3) := by decide +kernel
theorem dMo_isThere_8 : decode kMo_isThere 8 = .ok (.aload_n 0, 1) := by decide +kernel
theorem dMo_isThere_9 : decode kMo_isThere 9 = .ok (.getfield 29, 3) := by decide +kernel
theorem dMo_isThere_12 : decode kMo_isThere 12 = .ok (.iload_n 1, 1) := by decide +kernel
theorem dMo_isThere_13 : decode kMo_isThere 13 = .ok (.iaload, 1) := by decide +kernel
theorem dMo_isThere_14 : decode kMo_isThere 14 = .ok (.aload_n 0, 1) := by decide +kernel
theorem dMo_isThere_15 : decode kMo_isThere 15 = .ok (.getfield 23, 3) := by decide +kernel
theorem dMo_isThere_18 : decode kMo_isThere 18 = .ok (.if_icmp .ne 7, 3) := by decide +kernel
theorem dMo_isThere_21 : decode kMo_isThere 21 = .ok (.iconst 1, 1) := by decide +kernel
theorem dMo_isThere_22 : decode kMo_isThere 22 = .ok (.goto 4, 3) := by decide +kernel
theorem dMo_isThere_25 : decode kMo_isThere 25 = .ok (.iconst 0, 1) := by decide +kernel
theorem dMo_isThere_26 : decode kMo_isThere 26 = .ok (.istore_n 2, 1) := by decide +kernel
theorem dMo_isThere_27 : decode kMo_isThere 27 = .ok (.iconst 0, 1) := by decide +kernel
theorem dMo_isThere_28 : decode kMo_isThere 28 = .ok (.istore_n 3, 1) := by decide +kernel
theorem dMo_isThere_29 : decode kMo_isThere 29 = .ok (.iload_n 3, 1) := by decide +kernel
theorem dMo_isThere_30 : decode kMo_isThere 30 = .ok (.aload_n 0, 1) := by decide +kernel
theorem dMo_isThere_31 : decode kMo_isThere 31 = .ok (.getfield 23, 3) := by decide +kernel
theorem dMo_isThere_34 : decode kMo_isThere 34 = .ok (.if_icmp .ge 39, 3) := by decide +kernel
theorem dMo_isThere_37 : decode kMo_isThere 37 = .ok (.iload_n 2, 1) := by decide +kernel
theorem dMo_isThere_38 : decode kMo_isThere 38 = .ok (.ifCond .eq 35, 3) := by decide +kernel
theorem dMo_isThere_41 : decode kMo_isThere 41 = .ok (.aload_n 0, 1) := by decide +kernel
theorem dMo_isThere_42 : decode kMo_isThere 42 = .ok (.getfield 26, 3) := by decide +kernel
theorem dMo_isThere_45 : decode kMo_isThere 45 = .ok (.bipush 80, 2) := by decide +kernel
theorem dMo_isThere_47 : decode kMo_isThere 47 = .ok (.iload_n 1, 1) := by decide +kernel
theorem dMo_isThere_48 : decode kMo_isThere 48 = .ok (.imul, 1) := by decide +kernel
theorem dMo_isThere_49 : decode kMo_isThere 49 = .ok (.iload_n 3, 1) := by decide +kernel
theorem dMo_isThere_50 : decode kMo_isThere 50 = .ok (.iadd, 1) := by decide +kernel
theorem dMo_isThere_51 : decode kMo_isThere 51 = .ok (.iaload, 1) := by decide +kernel
theorem dMo_isThere_52 : decode kMo_isThere 52 = .ok (.aload_n 0, 1) := by decide +kernel
theorem dMo_isThere_53 : decode kMo_isThere 53 = .ok (.getfield 32, 3) := by decide +kernel
theorem dMo_isThere_56 : decode kMo_isThere 56 = .ok (.iload_n 3, 1) := by decide +kernel
theorem dMo_isThere_57 : decode kMo_isThere 57 = .ok (.iaload, 1) := by decide +kernel
theorem dMo_isThere_58 : decode kMo_isThere 58 = .ok (.if_icmp .ne 7, 3) := by decide +kernel
theorem dMo_isThere_61 : decode kMo_isThere 61 = .ok (.iconst 1, 1) := by decide +kernel
theorem dMo_isThere_62 : decode kMo_isThere 62 = .ok (.goto 4, 3) := by decide +kernel
theorem dMo_isThere_65 : decode kMo_isThere 65 = .ok (.iconst 0, 1) := by decide +kernel
theorem dMo_isThere_66 : decode kMo_isThere 66 = .ok (.istore_n 2, 1) := by decide +kernel
theorem dMo_isThere_67 : decode kMo_isThere 67 = .ok (.iinc 3 1, 3) := by decide +kernel
theorem dMo_isThere_70 : decode kMo_isThere 70 = .ok (.goto (-41), 3) := by decide +kernel
theorem dMo_isThere_73 : decode kMo_isThere 73 = .ok (.iload_n 2, 1) := by decide +kernel
theorem dMo_isThere_74 : decode kMo_isThere 74 = .ok (.ifCond .eq 5, 3) := by decide +kernel
theorem dMo_isThere_77 : decode kMo_isThere 77 = .ok (.iconst 1, 1) := by decide +kernel
theorem dMo_isThere_78 : decode kMo_isThere 78 = .ok (.ireturn, 1) := by decide +kernel
theorem dMo_isThere_79 : decode kMo_isThere 79 = .ok (.iinc 1 1, 3) := by decide +kernel
theorem dMo_isThere_82 : decode kMo_isThere 82 = .ok (.goto (-80), 3) := by decide +kernel
theorem dMo_isThere_85 : decode kMo_isThere 85 = .ok (.iconst 0, 1) := by decide +kernel
theorem dMo_isThere_86 : decode kMo_isThere 86 = .ok (.ireturn, 1) := by decide +kernel
theorem dMo_emptySlots_0 : decode kMo_emptySlots 0 = .ok (.iconst 0, 1) := by decide +kernel
theorem dMo_emptySlots_1 : decode kMo_emptySlots 1 = .ok (.istore_n 1, 1) := by decide +kernel
theorem dMo_emptySlots_2 : decode kMo_emptySlots 2 = .ok (.iconst 0, 1) := by decide +kernel
theorem dMo_emptySlots_3 : decode kMo_emptySlots 3 = .ok (.istore_n 2, 1) := by decide +kernel
theorem dMo_emptySlots_4 : decode kMo_emptySlots 4 = .ok (.iload_n 2, 1) := by decide +kernel
theorem dMo_emptySlots_5 : decode kMo_emptySlots 5 = .ok (.bipush 60, 2) := by decide +kernel
theorem dMo_emptySlots_7 : decode kMo_emptySlots 7 = .ok (.if_icmp .ge 26, 3) := by decide +kernel
theorem dMo_emptySlots_10 : decode kMo_emptySlots 10 = .ok (.aload_n 0, 1) := by decide +kernel
theorem dMo_emptySlots_11 : decode kMo_emptySlots 11 = .ok (.getfield 29, 3) := by decide +kernel
theorem dMo_emptySlots_14 : decode kMo_emptySlots 14 = .ok (.iload_n 2, 1) := by decide +kernel
theorem dMo_emptySlots_15 : decode kMo_emptySlots 15 = .ok (.iaload, 1) := by decide +kernel
theorem dMo_emptySlots_16 : decode kMo_emptySlots 16 = .ok (.ifCond .ne 9, 3) := by decide +kernel
theorem dMo_emptySlots_19 : decode kMo_emptySlots 19 = .ok (.iload_n 1, 1) := by decide +kernel
theorem dMo_emptySlots_20 : decode kMo_emptySlots 20 = .ok (.iconst 1, 1) := by decide +kernel
theorem dMo_emptySlots_21 : decode kMo_emptySlots 21 = .ok (.iadd, 1) := by decide +kernel
theorem dMo_emptySlots_22 : decode kMo_emptySlots 22 = .ok (.goto 4, 3) := by decide +kernel
theorem dMo_emptySlots_25 : decode kMo_emptySlots 25 = .ok (.iload_n 1, 1) := by decide +kernel
theorem dMo_emptySlots_26 : decode kMo_emptySlots 26 = .ok (.istore_n 1, 1) := by decide +kernel
theorem dMo_emptySlots_27 : decode kMo_emptySlots 27 = .ok (.iinc 2 1, 3) := by decide +kernel
theorem dMo_emptySlots_30 : decode kMo_emptySlots 30 = .ok (.goto (-26), 3) := by decide +kernel
theorem dMo_emptySlots_33 : decode kMo_emptySlots 33 = .ok (.iload_n 1, 1) := by decide +kernel
theorem dMo_emptySlots_34 : decode kMo_emptySlots 34 = .ok (.ireturn, 1) := by decide +kernel
theorem dMo_lay_0 : decode kMo_lay 0 = .ok (.iconst 0, 1) := by decide +kernel
theorem dMo_lay_1 : decode kMo_lay 1 = .ok (.istore_n 2, 1) := by decide +kernel
theorem dMo_lay_2 : decode kMo_lay 2 = .ok (.aload_n 0, 1) := by decide +kernel
theorem dMo_lay_3 : decode kMo_lay 3 = .ok (.getfield 29, 3) := by decide +kernel
theorem dMo_lay_6 : decode kMo_lay 6 = .ok (.iload_n 2, 1) := by decide +kernel
theorem dMo_lay_7 : decode kMo_lay 7 = .ok (.iaload, 1) := by decide +kernel
theorem dMo_lay_8 : decode kMo_lay 8 = .ok (.ifCond .le 9, 3) := by decide +kernel
theorem dMo_lay_11 : decode kMo_lay 11 = .ok (.iinc 2 1, 3) := by decide +kernel
theorem dMo_lay_14 : decode kMo_lay 14 = .ok (.goto (-12), 3) := by decide +kernel
theorem dMo_lay_17 : decode kMo_lay 17 = .ok (.aload_n 0, 1) := by decide +kernel
theorem dMo_lay_18 : decode kMo_lay 18 = .ok (.getfield 29, 3) := by decide +kernel
theorem dMo_lay_21 : decode kMo_lay 21 = .ok (.iload_n 2, 1) := by decide +kernel
theorem dMo_lay_22 : decode kMo_lay 22 = .ok (.aload_n 0, 1) := by decide +kernel
theorem dMo_lay_23 : decode kMo_lay 23 = .ok (.getfield 23, 3) := by decide +kernel
theorem dMo_lay_26 : decode kMo_lay 26 = .ok (.iastore, 1) := by decide +kernel
theorem dMo_lay_27 : decode kMo_lay 27 = .ok (.iconst 0, 1) := by decide +kernel
theorem dMo_lay_28 : decode kMo_lay 28 = .ok (.istore_n 3, 1) := by decide +kernel
theorem dMo_lay_29 : decode kMo_lay 29 = .ok (.iload_n 3, 1) := by decide +kernel
theorem dMo_lay_30 : decode kMo_lay 30 = .ok (.aload_n 0, 1) := by decide +kernel
theorem dMo_lay_31 : decode kMo_lay 31 = .ok (.getfield 23, 3) := by decide +kernel
theorem dMo_lay_34 : decode kMo_lay 34 = .ok (.if_icmp .ge 35, 3) := by decide +kernel
theorem dMo_lay_37 : decode kMo_lay 37 = .ok (.aload_n 0, 1) := by decide +kernel
theorem dMo_lay_38 : decode kMo_lay 38 = .ok (.getfield 26, 3) := by decide +kernel
theorem dMo_lay_41 : decode kMo_lay 41 = .ok (.bipush 80, 2) := by decide +kernel
theorem dMo_lay_43 : decode kMo_lay 43 = .ok (.iload_n 2, 1) := by decide +kernel
theorem dMo_lay_44 : decode kMo_lay 44 = .ok (.imul, 1) := by decide +kernel
theorem dMo_lay_45 : decode kMo_lay 45 = .ok (.iload_n 3, 1) := by decide +kernel
theorem dMo_lay_46 : decode kMo_lay 46 = .ok (.iadd, 1) := by decide +kernel
theorem dMo_lay_47 : decode kMo_lay 47 = .ok (.iload_n 3, 1) := by decide +kernel
theorem dMo_lay_48 : decode kMo_lay 48 = .ok (.iload_n 1, 1) := by decide +kernel
theorem dMo_lay_49 : decode kMo_lay 49 = .ok (.if_icmp .ge 12, 3) := by decide +kernel
theorem dMo_lay_52 : decode kMo_lay 52 = .ok (.aload_n 0, 1) := by decide +kernel
theorem dMo_lay_53 : decode kMo_lay 53 = .ok (.getfield 32, 3) := by decide +kernel
theorem dMo_lay_56 : decode kMo_lay 56 = .ok (.iload_n 3, 1) := by decide +kernel
theorem dMo_lay_57 : decode kMo_lay 57 = .ok (.iaload, 1) := by decide +kernel
theorem dMo_lay_58 : decode kMo_lay 58 = .ok (.goto 4, 3) := by decide +kernel
theorem dMo_lay_61 : decode kMo_lay 61 = .ok (.iconst 0, 1) := by decide +kernel
theorem dMo_lay_62 : decode kMo_lay 62 = .ok (.iastore, 1) := by decide +kernel
theorem dMo_lay_63 : decode kMo_lay 63 = .ok (.iinc 3 1, 3) := by decide +kernel
theorem dMo_lay_66 : decode kMo_lay 66 = .ok (.goto (-37), 3) := by decide +kernel
theorem dMo_lay_69 : decode kMo_lay 69 = .ok (.return_, 1) := by decide +kernel
theorem dMo_write_0 : decode kMo_write 0 = .ok (.iload_n 1, 1) := by decide +kernel
theorem dMo_write_1 : decode kMo_write 1 = .ok (.iconst (-1), 1) := by decide +kernel
theorem dMo_write_2 : decode kMo_write 2 = .ok (.bipush 60, 2) := by decide +kernel
theorem dMo_write_4 : decode kMo_write 4 = .ok (.invokestatic 68, 3) := by decide +kernel
theorem dMo_write_7 : decode kMo_write 7 = .ok (.ifCond .ne 10, 3) := by decide +kernel
theorem dMo_write_10 : decode kMo_write 10 = .ok (.aload_n 0, 1) := by decide +kernel
theorem dMo_write_11 : decode kMo_write 11 = .ok (.iconst 0, 1) := by decide +kernel
theorem dMo_write_12 : decode kMo_write 12 = .ok (.putfield 1, 3) := by decide +kernel
theorem dMo_write_15 : decode kMo_write 15 = .ok (.iconst (-1), 1) := by decide +kernel
theorem dMo_write_16 : decode kMo_write 16 = .ok (.ireturn, 1) := by decide +kernel
theorem dMo_write_17 : decode kMo_write 17 = .ok (.aload_n 0, 1) := by decide +kernel
theorem dMo_write_18 : decode kMo_write 18 = .ok (.invokevirtual 113, 3) := by decide +kernel
theorem dMo_write_21 : decode kMo_write 21 = .ok (.istore_n 2, 1) := by decide +kernel
theorem dMo_write_22 : decode kMo_write 22 = .ok (.iload_n 2, 1) := by decide +kernel
theorem dMo_write_23 : decode kMo_write 23 = .ok (.bipush (-3), 2) := by decide +kernel
theorem dMo_write_25 : decode kMo_write 25 = .ok (.if_icmp .ne 6, 3) := by decide +kernel
theorem dMo_write_28 : decode kMo_write 28 = .ok (.bipush (-3), 2) := by decide +kernel
theorem dMo_write_30 : decode kMo_write 30 = .ok (.ireturn, 1) := by decide +kernel
theorem dMo_write_31 : decode kMo_write 31 = .ok (.iconst 0, 1) := by decide +kernel
theorem dMo_write_32 : decode kMo_write 32 = .ok (.istore_n 3, 1) := by decide +kernel
theorem dMo_write_33 : decode kMo_write 33 = .ok (.iconst 0, 1) := by decide +kernel
theorem dMo_write_34 : decode kMo_write 34 = .ok (.istore 4, 2) := by decide +kernel
theorem dMo_write_36 : decode kMo_write 36 = .ok (.iload 4, 2) := by decide +kernel
theorem dMo_write_38 : decode kMo_write 38 = .ok (.iload_n 2, 1) := by decide +kernel
theorem dMo_write_39 : decode kMo_write 39 = .ok (.if_icmp .ge 30, 3) := by decide +kernel
theorem dMo_write_42 : decode kMo_write 42 = .ok (.aload_n 0, 1) := by decide +kernel
theorem dMo_write_43 : decode kMo_write 43 = .ok (.iload 4, 2) := by decide +kernel
theorem dMo_write_45 : decode kMo_write 45 = .ok (.invokevirtual 116, 3) := by decide +kernel
theorem dMo_write_48 : decode kMo_write 48 = .ok (.aload_n 0, 1) := by decide +kernel
theorem dMo_write_49 : decode kMo_write 49 = .ok (.invokevirtual 120, 3) := by decide +kernel
theorem dMo_write_52 : decode kMo_write 52 = .ok (.ifCond .eq 7, 3) := by decide +kernel
theorem dMo_write_55 : decode kMo_write 55 = .ok (.iload_n 3, 1) := by decide +kernel
theorem dMo_write_56 : decode kMo_write 56 = .ok (.goto 6, 3) := by decide +kernel
theorem dMo_write_59 : decode kMo_write 59 = .ok (.iload_n 3, 1) := by decide +kernel
theorem dMo_write_60 : decode kMo_write 60 = .ok (.iconst 1, 1) := by decide +kernel
theorem dMo_write_61 : decode kMo_write 61 = .ok (.iadd, 1) := by decide +kernel
theorem dMo_write_62 : decode kMo_write 62 = .ok (.istore_n 3, 1) := by decide +kernel
theorem dMo_write_63 : decode kMo_write 63 = .ok (.iinc 4 1, 3) := by decide +kernel
theorem dMo_write_66 : decode kMo_write 66 = .ok (.goto (-30), 3) := by decide +kernel
theorem dMo_write_69 : decode kMo_write 69 = .ok (.iload_n 1, 1) := by decide +kernel
theorem dMo_write_70 : decode kMo_write 70 = .ok (.ifCond .lt 8, 3) := by decide +kernel
theorem dMo_write_73 : decode kMo_write 73 = .ok (.iload_n 1, 1) := by decide +kernel
theorem dMo_write_74 : decode kMo_write 74 = .ok (.iload_n 3, 1) := by decide +kernel
theorem dMo_write_75 : decode kMo_write 75 = .ok (.if_icmp .le 7, 3) := by decide +kernel
theorem dMo_write_78 : decode kMo_write 78 = .ok (.iload_n 3, 1) := by decide +kernel
theorem dMo_write_79 : decode kMo_write 79 = .ok (.goto 4, 3) := by decide +kernel
theorem dMo_write_82 : decode kMo_write 82 = .ok (.iload_n 1, 1) := by decide +kernel
theorem dMo_write_83 : decode kMo_write 83 = .ok (.istore 4, 2) := by decide +kernel
theorem dMo_write_85 : decode kMo_write 85 = .ok (.aload_n 0, 1) := by decide +kernel
theorem dMo_write_86 : decode kMo_write 86 = .ok (.invokevirtual 124, 3) := by decide +kernel
theorem dMo_write_89 : decode kMo_write 89 = .ok (.iload 4, 2) := by decide +kernel
theorem dMo_write_91 : decode kMo_write 91 = .ok (.iload_n 3, 1) := by decide +kernel
theorem dMo_write_92 : decode kMo_write 92 = .ok (.if_icmp .ge 10, 3) := by decide +kernel
theorem dMo_write_95 : decode kMo_write 95 = .ok (.iload 4, 2) := by decide +kernel
theorem dMo_write_97 : decode kMo_write 97 = .ok (.iconst 1, 1) := by decide +kernel
theorem dMo_write_98 : decode kMo_write 98 = .ok (.iadd, 1) := by decide +kernel
theorem dMo_write_99 : decode kMo_write 99 = .ok (.goto 5, 3) := by decide +kernel
theorem dMo_write_102 : decode kMo_write 102 = .ok (.iload 4, 2) := by decide +kernel
theorem dMo_write_104 : decode kMo_write 104 = .ok (.if_icmp .ge 6, 3) := by decide +kernel
theorem dMo_write_107 : decode kMo_write 107 = .ok (.bipush (-3), 2) := by decide +kernel
theorem dMo_write_109 : decode kMo_write 109 = .ok (.ireturn, 1) := by decide +kernel
theorem dMo_write_110 : decode kMo_write 110 = .ok (.iconst 0, 1) := by decide +kernel
theorem dMo_write_111 : decode kMo_write 111 = .ok (.istore 5, 2) := by decide +kernel
theorem dMo_write_113 : decode kMo_write 113 = .ok (.iconst 0, 1) := by decide +kernel
theorem dMo_write_114 : decode kMo_write 114 = .ok (.istore 6, 2) := by decide +kernel
theorem dMo_write_116 : decode kMo_write 116 = .ok (.iload 6, 2) := by decide +kernel
theorem dMo_write_118 : decode kMo_write 118 = .ok (.iload_n 2, 1) := by decide +kernel
theorem dMo_write_119 : decode kMo_write 119 = .ok (.if_icmp .ge 53, 3) := by decide +kernel
theorem dMo_write_122 : decode kMo_write 122 = .ok (.aload_n 0, 1) := by decide +kernel
theorem dMo_write_123 : decode kMo_write 123 = .ok (.iload 6, 2) := by decide +kernel
theorem dMo_write_125 : decode kMo_write 125 = .ok (.invokevirtual 116, 3) := by decide +kernel
theorem dMo_write_128 : decode kMo_write 128 = .ok (.aload_n 0, 1) := by decide +kernel
theorem dMo_write_129 : decode kMo_write 129 = .ok (.invokevirtual 120, 3) := by decide +kernel
theorem dMo_write_132 : decode kMo_write 132 = .ok (.ifCond .ne 34, 3) := by decide +kernel
theorem dMo_write_135 : decode kMo_write 135 = .ok (.iload 5, 2) := by decide +kernel
theorem dMo_write_137 : decode kMo_write 137 = .ok (.iload 4, 2) := by decide +kernel
theorem dMo_write_139 : decode kMo_write 139 = .ok (.if_icmp .ne 16, 3) := by decide +kernel
theorem dMo_write_142 : decode kMo_write 142 = .ok (.aload_n 0, 1) := by decide +kernel
theorem dMo_write_143 : decode kMo_write 143 = .ok (.aload_n 0, 1) := by decide +kernel
theorem dMo_write_144 : decode kMo_write 144 = .ok (.getfield 23, 3) := by decide +kernel
theorem dMo_write_147 : decode kMo_write 147 = .ok (.iconst 2, 1) := by decide +kernel
theorem dMo_write_148 : decode kMo_write 148 = .ok (.idiv, 1) := by decide +kernel
theorem dMo_write_149 : decode kMo_write 149 = .ok (.invokevirtual 127, 3) := by decide +kernel
theorem dMo_write_152 : decode kMo_write 152 = .ok (.iload 5, 2) := by decide +kernel
theorem dMo_write_154 : decode kMo_write 154 = .ok (.ireturn, 1) := by decide +kernel
theorem dMo_write_155 : decode kMo_write 155 = .ok (.aload_n 0, 1) := by decide +kernel
theorem dMo_write_156 : decode kMo_write 156 = .ok (.aload_n 0, 1) := by decide +kernel
theorem dMo_write_157 : decode kMo_write 157 = .ok (.getfield 23, 3) := by decide +kernel
theorem dMo_write_160 : decode kMo_write 160 = .ok (.invokevirtual 127, 3) := by decide +kernel
theorem dMo_write_163 : decode kMo_write 163 = .ok (.iinc 5 1, 3) := by decide +kernel
theorem dMo_write_166 : decode kMo_write 166 = .ok (.iinc 6 1, 3) := by decide +kernel
theorem dMo_write_169 : decode kMo_write 169 = .ok (.goto (-53), 3) := by decide +kernel
theorem dMo_write_172 : decode kMo_write 172 = .ok (.iload 5, 2) := by decide +kernel
theorem dMo_write_174 : decode kMo_write 174 = .ok (.ireturn, 1) := by decide +kernel
theorem dMo_noSlot_0 : decode kMo_noSlot 0 = .ok (.iload_n 1, 1) := by decide +kernel
theorem dMo_noSlot_1 : decode kMo_noSlot 1 = .ok (.iconst 0, 1) := by decide +kernel
theorem dMo_noSlot_2 : decode kMo_noSlot 2 = .ok (.bipush 59, 2) := by decide +kernel
theorem dMo_noSlot_4 : decode kMo_noSlot 4 = .ok (.invokestatic 68, 3) := by decide +kernel
theorem dMo_noSlot_7 : decode kMo_noSlot 7 = .ok (.ifCond .ne 7, 3) := by decide +kernel
theorem dMo_noSlot_10 : decode kMo_noSlot 10 = .ok (.iconst 1, 1) := by decide +kernel
theorem dMo_noSlot_11 : decode kMo_noSlot 11 = .ok (.goto 4, 3) := by decide +kernel
theorem dMo_noSlot_14 : decode kMo_noSlot 14 = .ok (.iconst 0, 1) := by decide +kernel
theorem dMo_noSlot_15 : decode kMo_noSlot 15 = .ok (.ireturn, 1) := by decide +kernel
theorem dMo_lose_0 : decode kMo_lose 0 = .ok (.aload_n 0, 1) := by decide +kernel
theorem dMo_lose_1 : decode kMo_lose 1 = .ok (.iconst 0, 1) := by decide +kernel
theorem dMo_lose_2 : decode kMo_lose 2 = .ok (.putfield 1, 3) := by decide +kernel
theorem dMo_lose_5 : decode kMo_lose 5 = .ok (.aload_n 0, 1) := by decide +kernel
theorem dMo_lose_6 : decode kMo_lose 6 = .ok (.iload_n 1, 1) := by decide +kernel
theorem dMo_lose_7 : decode kMo_lose 7 = .ok (.invokevirtual 130, 3) := by decide +kernel
theorem dMo_lose_10 : decode kMo_lose 10 = .ok (.ifCond .ne 12, 3) := by decide +kernel
theorem dMo_lose_13 : decode kMo_lose 13 = .ok (.aload_n 0, 1) := by decide +kernel
theorem dMo_lose_14 : decode kMo_lose 14 = .ok (.getfield 29, 3) := by decide +kernel
theorem dMo_lose_17 : decode kMo_lose 17 = .ok (.iload_n 1, 1) := by decide +kernel
theorem dMo_lose_18 : decode kMo_lose 18 = .ok (.iaload, 1) := by decide +kernel
theorem dMo_lose_19 : decode kMo_lose 19 = .ok (.ifCond .ne 5, 3) := by decide +kernel
theorem dMo_lose_22 : decode kMo_lose 22 = .ok (.iconst (-1), 1) := by decide +kernel
theorem dMo_lose_23 : decode kMo_lose 23 = .ok (.ireturn, 1) := by decide +kernel
theorem dMo_lose_24 : decode kMo_lose 24 = .ok (.aload_n 0, 1) := by decide +kernel
theorem dMo_lose_25 : decode kMo_lose 25 = .ok (.getfield 29, 3) := by decide +kernel
theorem dMo_lose_28 : decode kMo_lose 28 = .ok (.iload_n 1, 1) := by decide +kernel
theorem dMo_lose_29 : decode kMo_lose 29 = .ok (.iaload, 1) := by decide +kernel
theorem dMo_lose_30 : decode kMo_lose 30 = .ok (.istore_n 2, 1) := by decide +kernel
theorem dMo_lose_31 : decode kMo_lose 31 = .ok (.aload_n 0, 1) := by decide +kernel
theorem dMo_lose_32 : decode kMo_lose 32 = .ok (.getfield 29, 3) := by decide +kernel
theorem dMo_lose_35 : decode kMo_lose 35 = .ok (.iload_n 1, 1) := by decide +kernel
theorem dMo_lose_36 : decode kMo_lose 36 = .ok (.iconst 0, 1) := by decide +kernel
theorem dMo_lose_37 : decode kMo_lose 37 = .ok (.iastore, 1) := by decide +kernel
theorem dMo_lose_38 : decode kMo_lose 38 = .ok (.iload_n 2, 1) := by decide +kernel
theorem dMo_lose_39 : decode kMo_lose 39 = .ok (.ireturn, 1) := by decide +kernel
theorem dMo_poke_0 : decode kMo_poke 0 = .ok (.aload_n 0, 1) := by decide +kernel
theorem dMo_poke_1 : decode kMo_poke 1 = .ok (.iconst 0, 1) := by decide +kernel
theorem dMo_poke_2 : decode kMo_poke 2 = .ok (.putfield 1, 3) := by decide +kernel
theorem dMo_poke_5 : decode kMo_poke 5 = .ok (.aload_n 0, 1) := by decide +kernel
theorem dMo_poke_6 : decode kMo_poke 6 = .ok (.iload_n 1, 1) := by decide +kernel
theorem dMo_poke_7 : decode kMo_poke 7 = .ok (.invokevirtual 130, 3) := by decide +kernel
theorem dMo_poke_10 : decode kMo_poke 10 = .ok (.ifCond .ne 30, 3) := by decide +kernel
theorem dMo_poke_13 : decode kMo_poke 13 = .ok (.iload_n 2, 1) := by decide +kernel
theorem dMo_poke_14 : decode kMo_poke 14 = .ok (.iconst 0, 1) := by decide +kernel
theorem dMo_poke_15 : decode kMo_poke 15 = .ok (.aload_n 0, 1) := by decide +kernel
theorem dMo_poke_16 : decode kMo_poke 16 = .ok (.getfield 29, 3) := by decide +kernel
theorem dMo_poke_19 : decode kMo_poke 19 = .ok (.iload_n 1, 1) := by decide +kernel
theorem dMo_poke_20 : decode kMo_poke 20 = .ok (.iaload, 1) := by decide +kernel
theorem dMo_poke_21 : decode kMo_poke 21 = .ok (.iconst 1, 1) := by decide +kernel
theorem dMo_poke_22 : decode kMo_poke 22 = .ok (.isub, 1) := by decide +kernel
theorem dMo_poke_23 : decode kMo_poke 23 = .ok (.invokestatic 68, 3) := by decide +kernel
theorem dMo_poke_26 : decode kMo_poke 26 = .ok (.ifCond .eq 14, 3) := by decide +kernel
theorem dMo_poke_29 : decode kMo_poke 29 = .ok (.iload_n 3, 1) := by decide +kernel
theorem dMo_poke_30 : decode kMo_poke 30 = .ok (.iconst 1, 1) := by decide +kernel
theorem dMo_poke_31 : decode kMo_poke 31 = .ok (.sipush 255, 3) := by decide +kernel
theorem dMo_poke_34 : decode kMo_poke 34 = .ok (.invokestatic 68, 3) := by decide +kernel
theorem dMo_poke_37 : decode kMo_poke 37 = .ok (.ifCond .ne 5, 3) := by decide +kernel
theorem dMo_poke_40 : decode kMo_poke 40 = .ok (.iconst (-1), 1) := by decide +kernel
theorem dMo_poke_41 : decode kMo_poke 41 = .ok (.ireturn, 1) := by decide +kernel
theorem dMo_poke_42 : decode kMo_poke 42 = .ok (.aload_n 0, 1) := by decide +kernel
theorem dMo_poke_43 : decode kMo_poke 43 = .ok (.getfield 26, 3) := by decide +kernel
theorem dMo_poke_46 : decode kMo_poke 46 = .ok (.bipush 80, 2) := by decide +kernel
theorem dMo_poke_48 : decode kMo_poke 48 = .ok (.iload_n 1, 1) := by decide +kernel
theorem dMo_poke_49 : decode kMo_poke 49 = .ok (.imul, 1) := by decide +kernel
theorem dMo_poke_50 : decode kMo_poke 50 = .ok (.iload_n 2, 1) := by decide +kernel
theorem dMo_poke_51 : decode kMo_poke 51 = .ok (.iadd, 1) := by decide +kernel
theorem dMo_poke_52 : decode kMo_poke 52 = .ok (.aload_n 0, 1) := by decide +kernel
theorem dMo_poke_53 : decode kMo_poke 53 = .ok (.getfield 26, 3) := by decide +kernel
theorem dMo_poke_56 : decode kMo_poke 56 = .ok (.bipush 80, 2) := by decide +kernel
theorem dMo_poke_58 : decode kMo_poke 58 = .ok (.iload_n 1, 1) := by decide +kernel
theorem dMo_poke_59 : decode kMo_poke 59 = .ok (.imul, 1) := by decide +kernel
theorem dMo_poke_60 : decode kMo_poke 60 = .ok (.iload_n 2, 1) := by decide +kernel
theorem dMo_poke_61 : decode kMo_poke 61 = .ok (.iadd, 1) := by decide +kernel
theorem dMo_poke_62 : decode kMo_poke 62 = .ok (.iaload, 1) := by decide +kernel
theorem dMo_poke_63 : decode kMo_poke 63 = .ok (.iload_n 3, 1) := by decide +kernel
theorem dMo_poke_64 : decode kMo_poke 64 = .ok (.ixor, 1) := by decide +kernel
theorem dMo_poke_65 : decode kMo_poke 65 = .ok (.iastore, 1) := by decide +kernel
theorem dMo_poke_66 : decode kMo_poke 66 = .ok (.aload_n 0, 1) := by decide +kernel
theorem dMo_poke_67 : decode kMo_poke 67 = .ok (.getfield 26, 3) := by decide +kernel
theorem dMo_poke_70 : decode kMo_poke 70 = .ok (.bipush 80, 2) := by decide +kernel
theorem dMo_poke_72 : decode kMo_poke 72 = .ok (.iload_n 1, 1) := by decide +kernel
theorem dMo_poke_73 : decode kMo_poke 73 = .ok (.imul, 1) := by decide +kernel
theorem dMo_poke_74 : decode kMo_poke 74 = .ok (.iload_n 2, 1) := by decide +kernel
theorem dMo_poke_75 : decode kMo_poke 75 = .ok (.iadd, 1) := by decide +kernel
theorem dMo_poke_76 : decode kMo_poke 76 = .ok (.iaload, 1) := by decide +kernel
theorem dMo_poke_77 : decode kMo_poke 77 = .ok (.ireturn, 1) := by decide +kernel
theorem dMo_swap_0 : decode kMo_swap 0 = .ok (.aload_n 0, 1) := by decide +kernel
theorem dMo_swap_1 : decode kMo_swap 1 = .ok (.iconst 0, 1) := by decide +kernel
theorem dMo_swap_2 : decode kMo_swap 2 = .ok (.putfield 1, 3) := by decide +kernel
theorem dMo_swap_5 : decode kMo_swap 5 = .ok (.aload_n 0, 1) := by decide +kernel
theorem dMo_swap_6 : decode kMo_swap 6 = .ok (.iload_n 1, 1) := by decide +kernel
theorem dMo_swap_7 : decode kMo_swap 7 = .ok (.invokevirtual 130, 3) := by decide +kernel
theorem dMo_swap_10 : decode kMo_swap 10 = .ok (.ifCond .ne 11, 3) := by decide +kernel
theorem dMo_swap_13 : decode kMo_swap 13 = .ok (.aload_n 0, 1) := by decide +kernel
theorem dMo_swap_14 : decode kMo_swap 14 = .ok (.iload_n 2, 1) := by decide +kernel
theorem dMo_swap_15 : decode kMo_swap 15 = .ok (.invokevirtual 130, 3) := by decide +kernel
theorem dMo_swap_18 : decode kMo_swap 18 = .ok (.ifCond .eq 5, 3) := by decide +kernel
theorem dMo_swap_21 : decode kMo_swap 21 = .ok (.iconst (-1), 1) := by decide +kernel
theorem dMo_swap_22 : decode kMo_swap 22 = .ok (.ireturn, 1) := by decide +kernel
theorem dMo_swap_23 : decode kMo_swap 23 = .ok (.aload_n 0, 1) := by decide +kernel
theorem dMo_swap_24 : decode kMo_swap 24 = .ok (.getfield 29, 3) := by decide +kernel
theorem dMo_swap_27 : decode kMo_swap 27 = .ok (.iload_n 1, 1) := by decide +kernel
theorem dMo_swap_28 : decode kMo_swap 28 = .ok (.iaload, 1) := by decide +kernel
theorem dMo_swap_29 : decode kMo_swap 29 = .ok (.istore_n 3, 1) := by decide +kernel
theorem dMo_swap_30 : decode kMo_swap 30 = .ok (.aload_n 0, 1) := by decide +kernel
theorem dMo_swap_31 : decode kMo_swap 31 = .ok (.getfield 29, 3) := by decide +kernel
theorem dMo_swap_34 : decode kMo_swap 34 = .ok (.iload_n 1, 1) := by decide +kernel
theorem dMo_swap_35 : decode kMo_swap 35 = .ok (.aload_n 0, 1) := by decide +kernel
theorem dMo_swap_36 : decode kMo_swap 36 = .ok (.getfield 29, 3) := by decide +kernel
theorem dMo_swap_39 : decode kMo_swap 39 = .ok (.iload_n 2, 1) := by decide +kernel
theorem dMo_swap_40 : decode kMo_swap 40 = .ok (.iaload, 1) := by decide +kernel
theorem dMo_swap_41 : decode kMo_swap 41 = .ok (.iastore, 1) := by decide +kernel
theorem dMo_swap_42 : decode kMo_swap 42 = .ok (.aload_n 0, 1) := by decide +kernel
theorem dMo_swap_43 : decode kMo_swap 43 = .ok (.getfield 29, 3) := by decide +kernel
theorem dMo_swap_46 : decode kMo_swap 46 = .ok (.iload_n 2, 1) := by decide +kernel
theorem dMo_swap_47 : decode kMo_swap 47 = .ok (.iload_n 3, 1) := by decide +kernel
theorem dMo_swap_48 : decode kMo_swap 48 = .ok (.iastore, 1) := by decide +kernel
theorem dMo_swap_49 : decode kMo_swap 49 = .ok (.iconst 0, 1) := by decide +kernel
theorem dMo_swap_50 : decode kMo_swap 50 = .ok (.istore 4, 2) := by decide +kernel
theorem dMo_swap_52 : decode kMo_swap 52 = .ok (.iload 4, 2) := by decide +kernel
theorem dMo_swap_54 : decode kMo_swap 54 = .ok (.bipush 80, 2) := by decide +kernel
theorem dMo_swap_56 : decode kMo_swap 56 = .ok (.if_icmp .ge 61, 3) := by decide +kernel
theorem dMo_swap_59 : decode kMo_swap 59 = .ok (.aload_n 0, 1) := by decide +kernel
theorem dMo_swap_60 : decode kMo_swap 60 = .ok (.getfield 26, 3) := by decide +kernel
theorem dMo_swap_63 : decode kMo_swap 63 = .ok (.bipush 80, 2) := by decide +kernel
theorem dMo_swap_65 : decode kMo_swap 65 = .ok (.iload_n 1, 1) := by decide +kernel
theorem dMo_swap_66 : decode kMo_swap 66 = .ok (.imul, 1) := by decide +kernel
theorem dMo_swap_67 : decode kMo_swap 67 = .ok (.iload 4, 2) := by decide +kernel
theorem dMo_swap_69 : decode kMo_swap 69 = .ok (.iadd, 1) := by decide +kernel
theorem dMo_swap_70 : decode kMo_swap 70 = .ok (.iaload, 1) := by decide +kernel
theorem dMo_swap_71 : decode kMo_swap 71 = .ok (.istore 5, 2) := by decide +kernel
theorem dMo_swap_73 : decode kMo_swap 73 = .ok (.aload_n 0, 1) := by decide +kernel
theorem dMo_swap_74 : decode kMo_swap 74 = .ok (.getfield 26, 3) := by decide +kernel
theorem dMo_swap_77 : decode kMo_swap 77 = .ok (.bipush 80, 2) := by decide +kernel
theorem dMo_swap_79 : decode kMo_swap 79 = .ok (.iload_n 1, 1) := by decide +kernel
theorem dMo_swap_80 : decode kMo_swap 80 = .ok (.imul, 1) := by decide +kernel
theorem dMo_swap_81 : decode kMo_swap 81 = .ok (.iload 4, 2) := by decide +kernel
theorem dMo_swap_83 : decode kMo_swap 83 = .ok (.iadd, 1) := by decide +kernel
theorem dMo_swap_84 : decode kMo_swap 84 = .ok (.aload_n 0, 1) := by decide +kernel
theorem dMo_swap_85 : decode kMo_swap 85 = .ok (.getfield 26, 3) := by decide +kernel
theorem dMo_swap_88 : decode kMo_swap 88 = .ok (.bipush 80, 2) := by decide +kernel
theorem dMo_swap_90 : decode kMo_swap 90 = .ok (.iload_n 2, 1) := by decide +kernel
theorem dMo_swap_91 : decode kMo_swap 91 = .ok (.imul, 1) := by decide +kernel
theorem dMo_swap_92 : decode kMo_swap 92 = .ok (.iload 4, 2) := by decide +kernel
theorem dMo_swap_94 : decode kMo_swap 94 = .ok (.iadd, 1) := by decide +kernel
theorem dMo_swap_95 : decode kMo_swap 95 = .ok (.iaload, 1) := by decide +kernel
theorem dMo_swap_96 : decode kMo_swap 96 = .ok (.iastore, 1) := by decide +kernel
theorem dMo_swap_97 : decode kMo_swap 97 = .ok (.aload_n 0, 1) := by decide +kernel
theorem dMo_swap_98 : decode kMo_swap 98 = .ok (.getfield 26, 3) := by decide +kernel
theorem dMo_swap_101 : decode kMo_swap 101 = .ok (.bipush 80, 2) := by decide +kernel
theorem dMo_swap_103 : decode kMo_swap 103 = .ok (.iload_n 2, 1) := by decide +kernel
theorem dMo_swap_104 : decode kMo_swap 104 = .ok (.imul, 1) := by decide +kernel
theorem dMo_swap_105 : decode kMo_swap 105 = .ok (.iload 4, 2) := by decide +kernel
theorem dMo_swap_107 : decode kMo_swap 107 = .ok (.iadd, 1) := by decide +kernel
theorem dMo_swap_108 : decode kMo_swap 108 = .ok (.iload 5, 2) := by decide +kernel
theorem dMo_swap_110 : decode kMo_swap 110 = .ok (.iastore, 1) := by decide +kernel
theorem dMo_swap_111 : decode kMo_swap 111 = .ok (.iinc 4 1, 3) := by decide +kernel
theorem dMo_swap_114 : decode kMo_swap 114 = .ok (.goto (-62), 3) := by decide +kernel
theorem dMo_swap_117 : decode kMo_swap 117 = .ok (.iconst 1, 1) := by decide +kernel
theorem dMo_swap_118 : decode kMo_swap 118 = .ok (.ireturn, 1) := by decide +kernel
theorem dMo_copy_0 : decode kMo_copy 0 = .ok (.aload_n 0, 1) := by decide +kernel
theorem dMo_copy_1 : decode kMo_copy 1 = .ok (.iconst 0, 1) := by decide +kernel
theorem dMo_copy_2 : decode kMo_copy 2 = .ok (.putfield 1, 3) := by decide +kernel
theorem dMo_copy_5 : decode kMo_copy 5 = .ok (.aload_n 0, 1) := by decide +kernel
theorem dMo_copy_6 : decode kMo_copy 6 = .ok (.iload_n 1, 1) := by decide +kernel
theorem dMo_copy_7 : decode kMo_copy 7 = .ok (.invokevirtual 130, 3) := by decide +kernel
theorem dMo_copy_10 : decode kMo_copy 10 = .ok (.ifCond .ne 29, 3) := by decide +kernel
theorem dMo_copy_13 : decode kMo_copy 13 = .ok (.aload_n 0, 1) := by decide +kernel
theorem dMo_copy_14 : decode kMo_copy 14 = .ok (.iload_n 2, 1) := by decide +kernel
theorem dMo_copy_15 : decode kMo_copy 15 = .ok (.invokevirtual 130, 3) := by decide +kernel
theorem dMo_copy_18 : decode kMo_copy 18 = .ok (.ifCond .ne 21, 3) := by decide +kernel
theorem dMo_copy_21 : decode kMo_copy 21 = .ok (.aload_n 0, 1) := by decide +kernel
theorem dMo_copy_22 : decode kMo_copy 22 = .ok (.getfield 29, 3) := by decide +kernel
theorem dMo_copy_25 : decode kMo_copy 25 = .ok (.iload_n 1, 1) := by decide +kernel
theorem dMo_copy_26 : decode kMo_copy 26 = .ok (.iaload, 1) := by decide +kernel
theorem dMo_copy_27 : decode kMo_copy 27 = .ok (.ifCond .eq 12, 3) := by decide +kernel
theorem dMo_copy_30 : decode kMo_copy 30 = .ok (.aload_n 0, 1) := by decide +kernel
theorem dMo_copy_31 : decode kMo_copy 31 = .ok (.getfield 29, 3) := by decide +kernel
theorem dMo_copy_34 : decode kMo_copy 34 = .ok (.iload_n 2, 1) := by decide +kernel
theorem dMo_copy_35 : decode kMo_copy 35 = .ok (.iaload, 1) := by decide +kernel
theorem dMo_copy_36 : decode kMo_copy 36 = .ok (.ifCond .le 5, 3) := by decide +kernel
theorem dMo_copy_39 : decode kMo_copy 39 = .ok (.iconst (-1), 1) := by decide +kernel
theorem dMo_copy_40 : decode kMo_copy 40 = .ok (.ireturn, 1) := by decide +kernel
theorem dMo_copy_41 : decode kMo_copy 41 = .ok (.aload_n 0, 1) := by decide +kernel
theorem dMo_copy_42 : decode kMo_copy 42 = .ok (.getfield 29, 3) := by decide +kernel
theorem dMo_copy_45 : decode kMo_copy 45 = .ok (.iload_n 2, 1) := by decide +kernel
theorem dMo_copy_46 : decode kMo_copy 46 = .ok (.aload_n 0, 1) := by decide +kernel
theorem dMo_copy_47 : decode kMo_copy 47 = .ok (.getfield 29, 3) := by decide +kernel
theorem dMo_copy_50 : decode kMo_copy 50 = .ok (.iload_n 1, 1) := by decide +kernel
theorem dMo_copy_51 : decode kMo_copy 51 = .ok (.iaload, 1) := by decide +kernel
theorem dMo_copy_52 : decode kMo_copy 52 = .ok (.iastore, 1) := by decide +kernel
theorem dMo_copy_53 : decode kMo_copy 53 = .ok (.iconst 0, 1) := by decide +kernel
theorem dMo_copy_54 : decode kMo_copy 54 = .ok (.istore_n 3, 1) := by decide +kernel
theorem dMo_copy_55 : decode kMo_copy 55 = .ok (.iload_n 3, 1) := by decide +kernel
theorem dMo_copy_56 : decode kMo_copy 56 = .ok (.bipush 80, 2) := by decide +kernel
theorem dMo_copy_58 : decode kMo_copy 58 = .ok (.if_icmp .ge 31, 3) := by decide +kernel
theorem dMo_copy_61 : decode kMo_copy 61 = .ok (.aload_n 0, 1) := by decide +kernel
theorem dMo_copy_62 : decode kMo_copy 62 = .ok (.getfield 26, 3) := by decide +kernel
theorem dMo_copy_65 : decode kMo_copy 65 = .ok (.bipush 80, 2) := by decide +kernel
theorem dMo_copy_67 : decode kMo_copy 67 = .ok (.iload_n 2, 1) := by decide +kernel
theorem dMo_copy_68 : decode kMo_copy 68 = .ok (.imul, 1) := by decide +kernel
theorem dMo_copy_69 : decode kMo_copy 69 = .ok (.iload_n 3, 1) := by decide +kernel
theorem dMo_copy_70 : decode kMo_copy 70 = .ok (.iadd, 1) := by decide +kernel
theorem dMo_copy_71 : decode kMo_copy 71 = .ok (.aload_n 0, 1) := by decide +kernel
theorem dMo_copy_72 : decode kMo_copy 72 = .ok (.getfield 26, 3) := by decide +kernel
theorem dMo_copy_75 : decode kMo_copy 75 = .ok (.bipush 80, 2) := by decide +kernel
theorem dMo_copy_77 : decode kMo_copy 77 = .ok (.iload_n 1, 1) := by decide +kernel
theorem dMo_copy_78 : decode kMo_copy 78 = .ok (.imul, 1) := by decide +kernel
theorem dMo_copy_79 : decode kMo_copy 79 = .ok (.iload_n 3, 1) := by decide +kernel
theorem dMo_copy_80 : decode kMo_copy 80 = .ok (.iadd, 1) := by decide +kernel
theorem dMo_copy_81 : decode kMo_copy 81 = .ok (.iaload, 1) := by decide +kernel
theorem dMo_copy_82 : decode kMo_copy 82 = .ok (.iastore, 1) := by decide +kernel
theorem dMo_copy_83 : decode kMo_copy 83 = .ok (.iinc 3 1, 3) := by decide +kernel
theorem dMo_copy_86 : decode kMo_copy 86 = .ok (.goto (-31), 3) := by decide +kernel
theorem dMo_copy_89 : decode kMo_copy 89 = .ok (.aload_n 0, 1) := by decide +kernel
theorem dMo_copy_90 : decode kMo_copy 90 = .ok (.getfield 29, 3) := by decide +kernel
theorem dMo_copy_93 : decode kMo_copy 93 = .ok (.iload_n 2, 1) := by decide +kernel
theorem dMo_copy_94 : decode kMo_copy 94 = .ok (.iaload, 1) := by decide +kernel
theorem dMo_copy_95 : decode kMo_copy 95 = .ok (.ireturn, 1) := by decide +kernel
theorem dMo_two_0 : decode kMo_two 0 = .ok (.aload_n 0, 1) := by decide +kernel
theorem dMo_two_1 : decode kMo_two 1 = .ok (.getfield 26, 3) := by decide +kernel
theorem dMo_two_4 : decode kMo_two 4 = .ok (.iload_n 1, 1) := by decide +kernel
theorem dMo_two_5 : decode kMo_two 5 = .ok (.iaload, 1) := by decide +kernel
theorem dMo_two_6 : decode kMo_two 6 = .ok (.sipush 256, 3) := by decide +kernel
theorem dMo_two_9 : decode kMo_two 9 = .ok (.aload_n 0, 1) := by decide +kernel
theorem dMo_two_10 : decode kMo_two 10 = .ok (.getfield 26, 3) := by decide +kernel
theorem dMo_two_13 : decode kMo_two 13 = .ok (.iload_n 1, 1) := by decide +kernel
theorem dMo_two_14 : decode kMo_two 14 = .ok (.iconst 1, 1) := by decide +kernel
theorem dMo_two_15 : decode kMo_two 15 = .ok (.iadd, 1) := by decide +kernel
theorem dMo_two_16 : decode kMo_two 16 = .ok (.iaload, 1) := by decide +kernel
theorem dMo_two_17 : decode kMo_two 17 = .ok (.imul, 1) := by decide +kernel
theorem dMo_two_18 : decode kMo_two 18 = .ok (.iadd, 1) := by decide +kernel
theorem dMo_two_19 : decode kMo_two 19 = .ok (.ireturn, 1) := by decide +kernel
theorem dMo_state_0 : decode kMo_state 0 = .ok (.aload_n 0, 1) := by decide +kernel
theorem dMo_state_1 : decode kMo_state 1 = .ok (.getfield 29, 3) := by decide +kernel
theorem dMo_state_4 : decode kMo_state 4 = .ok (.iload_n 1, 1) := by decide +kernel
theorem dMo_state_5 : decode kMo_state 5 = .ok (.iaload, 1) := by decide +kernel
theorem dMo_state_6 : decode kMo_state 6 = .ok (.ifCond .ne 5, 3) := by decide +kernel
theorem dMo_state_9 : decode kMo_state 9 = .ok (.iconst 0, 1) := by decide +kernel
theorem dMo_state_10 : decode kMo_state 10 = .ok (.ireturn, 1) := by decide +kernel
theorem dMo_state_11 : decode kMo_state 11 = .ok (.bipush 80, 2) := by decide +kernel
theorem dMo_state_13 : decode kMo_state 13 = .ok (.iload_n 1, 1) := by decide +kernel
theorem dMo_state_14 : decode kMo_state 14 = .ok (.imul, 1) := by decide +kernel
theorem dMo_state_15 : decode kMo_state 15 = .ok (.istore_n 2, 1) := by decide +kernel
theorem dMo_state_16 : decode kMo_state 16 = .ok (.aload_n 0, 1) := by decide +kernel
theorem dMo_state_17 : decode kMo_state 17 = .ok (.getfield 26, 3) := by decide +kernel
theorem dMo_state_20 : decode kMo_state 20 = .ok (.iload_n 2, 1) := by decide +kernel
theorem dMo_state_21 : decode kMo_state 21 = .ok (.iaload, 1) := by decide +kernel
theorem dMo_state_22 : decode kMo_state 22 = .ok (.bipush 86, 2) := by decide +kernel
theorem dMo_state_24 : decode kMo_state 24 = .ok (.if_icmp .ne 41, 3) := by decide +kernel
theorem dMo_state_27 : decode kMo_state 27 = .ok (.aload_n 0, 1) := by decide +kernel
theorem dMo_state_28 : decode kMo_state 28 = .ok (.getfield 26, 3) := by decide +kernel
theorem dMo_state_31 : decode kMo_state 31 = .ok (.iload_n 2, 1) := by decide +kernel
theorem dMo_state_32 : decode kMo_state 32 = .ok (.iconst 1, 1) := by decide +kernel
theorem dMo_state_33 : decode kMo_state 33 = .ok (.iadd, 1) := by decide +kernel
theorem dMo_state_34 : decode kMo_state 34 = .ok (.iaload, 1) := by decide +kernel
theorem dMo_state_35 : decode kMo_state 35 = .ok (.bipush 83, 2) := by decide +kernel
theorem dMo_state_37 : decode kMo_state 37 = .ok (.if_icmp .ne 28, 3) := by decide +kernel
theorem dMo_state_40 : decode kMo_state 40 = .ok (.aload_n 0, 1) := by decide +kernel
theorem dMo_state_41 : decode kMo_state 41 = .ok (.getfield 26, 3) := by decide +kernel
theorem dMo_state_44 : decode kMo_state 44 = .ok (.iload_n 2, 1) := by decide +kernel
theorem dMo_state_45 : decode kMo_state 45 = .ok (.bipush 10, 2) := by decide +kernel
theorem dMo_state_47 : decode kMo_state 47 = .ok (.invokestatic 80, 3) := by decide +kernel
theorem dMo_state_50 : decode kMo_state 50 = .ok (.aload_n 0, 1) := by decide +kernel
theorem dMo_state_51 : decode kMo_state 51 = .ok (.iload_n 2, 1) := by decide +kernel
theorem dMo_state_52 : decode kMo_state 52 = .ok (.bipush 10, 2) := by decide +kernel
theorem dMo_state_54 : decode kMo_state 54 = .ok (.iadd, 1) := by decide +kernel
theorem dMo_state_55 : decode kMo_state 55 = .ok (.invokevirtual 134, 3) := by decide +kernel
theorem dMo_state_58 : decode kMo_state 58 = .ok (.if_icmp .ne 7, 3) := by decide +kernel
theorem dMo_state_61 : decode kMo_state 61 = .ok (.iconst 1, 1) := by decide +kernel
theorem dMo_state_62 : decode kMo_state 62 = .ok (.goto 4, 3) := by decide +kernel
theorem dMo_state_65 : decode kMo_state 65 = .ok (.iconst 0, 1) := by decide +kernel
theorem dMo_state_66 : decode kMo_state 66 = .ok (.istore_n 3, 1) := by decide +kernel
theorem dMo_state_67 : decode kMo_state 67 = .ok (.iload_n 3, 1) := by decide +kernel
theorem dMo_state_68 : decode kMo_state 68 = .ok (.ifCond .eq 68, 3) := by decide +kernel
theorem dMo_state_71 : decode kMo_state 71 = .ok (.aload_n 0, 1) := by decide +kernel
theorem dMo_state_72 : decode kMo_state 72 = .ok (.getfield 26, 3) := by decide +kernel
theorem dMo_state_75 : decode kMo_state 75 = .ok (.iload_n 2, 1) := by decide +kernel
theorem dMo_state_76 : decode kMo_state 76 = .ok (.iconst 4, 1) := by decide +kernel
theorem dMo_state_77 : decode kMo_state 77 = .ok (.iadd, 1) := by decide +kernel
theorem dMo_state_78 : decode kMo_state 78 = .ok (.iaload, 1) := by decide +kernel
theorem dMo_state_79 : decode kMo_state 79 = .ok (.iconst 1, 1) := by decide +kernel
theorem dMo_state_80 : decode kMo_state 80 = .ok (.bipush 60, 2) := by decide +kernel
theorem dMo_state_82 : decode kMo_state 82 = .ok (.invokestatic 68, 3) := by decide +kernel
theorem dMo_state_85 : decode kMo_state 85 = .ok (.ifCond .eq 51, 3) := by decide +kernel
theorem dMo_state_88 : decode kMo_state 88 = .ok (.aload_n 0, 1) := by decide +kernel
theorem dMo_state_89 : decode kMo_state 89 = .ok (.getfield 26, 3) := by decide +kernel
theorem dMo_state_92 : decode kMo_state 92 = .ok (.iload_n 2, 1) := by decide +kernel
theorem dMo_state_93 : decode kMo_state 93 = .ok (.iconst 5, 1) := by decide +kernel
theorem dMo_state_94 : decode kMo_state 94 = .ok (.iadd, 1) := by decide +kernel
theorem dMo_state_95 : decode kMo_state 95 = .ok (.iaload, 1) := by decide +kernel
theorem dMo_state_96 : decode kMo_state 96 = .ok (.iconst 0, 1) := by decide +kernel
theorem dMo_state_97 : decode kMo_state 97 = .ok (.iconst 3, 1) := by decide +kernel
theorem dMo_state_98 : decode kMo_state 98 = .ok (.invokestatic 68, 3) := by decide +kernel
theorem dMo_state_101 : decode kMo_state 101 = .ok (.ifCond .eq 35, 3) := by decide +kernel
theorem dMo_state_104 : decode kMo_state 104 = .ok (.aload_n 0, 1) := by decide +kernel
theorem dMo_state_105 : decode kMo_state 105 = .ok (.getfield 26, 3) := by decide +kernel
theorem dMo_state_108 : decode kMo_state 108 = .ok (.iload_n 2, 1) := by decide +kernel
theorem dMo_state_109 : decode kMo_state 109 = .ok (.iconst 3, 1) := by decide +kernel
theorem dMo_state_110 : decode kMo_state 110 = .ok (.iadd, 1) := by decide +kernel
theorem dMo_state_111 : decode kMo_state 111 = .ok (.iaload, 1) := by decide +kernel
theorem dMo_state_112 : decode kMo_state 112 = .ok (.aload_n 0, 1) := by decide +kernel
theorem dMo_state_113 : decode kMo_state 113 = .ok (.getfield 26, 3) := by decide +kernel
theorem dMo_state_116 : decode kMo_state 116 = .ok (.iload_n 2, 1) := by decide +kernel
theorem dMo_state_117 : decode kMo_state 117 = .ok (.iconst 4, 1) := by decide +kernel
theorem dMo_state_118 : decode kMo_state 118 = .ok (.iadd, 1) := by decide +kernel
theorem dMo_state_119 : decode kMo_state 119 = .ok (.iaload, 1) := by decide +kernel
theorem dMo_state_120 : decode kMo_state 120 = .ok (.aload_n 0, 1) := by decide +kernel
theorem dMo_state_121 : decode kMo_state 121 = .ok (.getfield 26, 3) := by decide +kernel
theorem dMo_state_124 : decode kMo_state 124 = .ok (.iload_n 2, 1) := by decide +kernel
theorem dMo_state_125 : decode kMo_state 125 = .ok (.iconst 5, 1) := by decide +kernel
theorem dMo_state_126 : decode kMo_state 126 = .ok (.iadd, 1) := by decide +kernel
theorem dMo_state_127 : decode kMo_state 127 = .ok (.iaload, 1) := by decide +kernel
theorem dMo_state_128 : decode kMo_state 128 = .ok (.iadd, 1) := by decide +kernel
theorem dMo_state_129 : decode kMo_state 129 = .ok (.if_icmp .ge 7, 3) := by decide +kernel
theorem dMo_state_132 : decode kMo_state 132 = .ok (.iconst 1, 1) := by decide +kernel
theorem dMo_state_133 : decode kMo_state 133 = .ok (.goto 4, 3) := by decide +kernel
theorem dMo_state_136 : decode kMo_state 136 = .ok (.iconst 0, 1) := by decide +kernel
theorem dMo_state_137 : decode kMo_state 137 = .ok (.istore_n 3, 1) := by decide +kernel
theorem dMo_state_138 : decode kMo_state 138 = .ok (.iload_n 3, 1) := by decide +kernel
theorem dMo_state_139 : decode kMo_state 139 = .ok (.ifCond .ne 7, 3) := by decide +kernel
theorem dMo_state_142 : decode kMo_state 142 = .ok (.iconst 3, 1) := by decide +kernel
theorem dMo_state_143 : decode kMo_state 143 = .ok (.goto 39, 3) := by decide +kernel
theorem dMo_state_146 : decode kMo_state 146 = .ok (.aload_n 0, 1) := by decide +kernel
theorem dMo_state_147 : decode kMo_state 147 = .ok (.getfield 26, 3) := by decide +kernel
theorem dMo_state_150 : decode kMo_state 150 = .ok (.iload_n 2, 1) := by decide +kernel
theorem dMo_state_151 : decode kMo_state 151 = .ok (.bipush 12, 2) := by decide +kernel
theorem dMo_state_153 : decode kMo_state 153 = .ok (.iadd, 1) := by decide +kernel
theorem dMo_state_154 : decode kMo_state 154 = .ok (.aload_n 0, 1) := by decide +kernel
theorem dMo_state_155 : decode kMo_state 155 = .ok (.getfield 29, 3) := by decide +kernel
theorem dMo_state_158 : decode kMo_state 158 = .ok (.iload_n 1, 1) := by decide +kernel
theorem dMo_state_159 : decode kMo_state 159 = .ok (.iaload, 1) := by decide +kernel
theorem dMo_state_160 : decode kMo_state 160 = .ok (.bipush 12, 2) := by decide +kernel
theorem dMo_state_162 : decode kMo_state 162 = .ok (.isub, 1) := by decide +kernel
theorem dMo_state_163 : decode kMo_state 163 = .ok (.invokestatic 80, 3) := by decide +kernel
theorem dMo_state_166 : decode kMo_state 166 = .ok (.aload_n 0, 1) := by decide +kernel
theorem dMo_state_167 : decode kMo_state 167 = .ok (.iload_n 2, 1) := by decide +kernel
theorem dMo_state_168 : decode kMo_state 168 = .ok (.bipush 8, 2) := by decide +kernel
theorem dMo_state_170 : decode kMo_state 170 = .ok (.iadd, 1) := by decide +kernel
theorem dMo_state_171 : decode kMo_state 171 = .ok (.invokevirtual 134, 3) := by decide +kernel
theorem dMo_state_174 : decode kMo_state 174 = .ok (.if_icmp .ne 7, 3) := by decide +kernel
theorem dMo_state_177 : decode kMo_state 177 = .ok (.iconst 1, 1) := by decide +kernel
theorem dMo_state_178 : decode kMo_state 178 = .ok (.goto 4, 3) := by decide +kernel
theorem dMo_state_181 : decode kMo_state 181 = .ok (.iconst 2, 1) := by decide +kernel
theorem dMo_state_182 : decode kMo_state 182 = .ok (.ireturn, 1) := by decide +kernel
theorem dMo_slot_0 : decode kMo_slot 0 = .ok (.aload_n 0, 1) := by decide +kernel
theorem dMo_slot_1 : decode kMo_slot 1 = .ok (.iconst 0, 1) := by decide +kernel
theorem dMo_slot_2 : decode kMo_slot 2 = .ok (.putfield 1, 3) := by decide +kernel
theorem dMo_slot_5 : decode kMo_slot 5 = .ok (.aload_n 0, 1) := by decide +kernel
theorem dMo_slot_6 : decode kMo_slot 6 = .ok (.iload_n 1, 1) := by decide +kernel
theorem dMo_slot_7 : decode kMo_slot 7 = .ok (.invokevirtual 130, 3) := by decide +kernel
theorem dMo_slot_10 : decode kMo_slot 10 = .ok (.ifCond .ne 12, 3) := by decide +kernel
theorem dMo_slot_13 : decode kMo_slot 13 = .ok (.iload_n 2, 1) := by decide +kernel
theorem dMo_slot_14 : decode kMo_slot 14 = .ok (.iconst 0, 1) := by decide +kernel
theorem dMo_slot_15 : decode kMo_slot 15 = .ok (.iconst 5, 1) := by decide +kernel
theorem dMo_slot_16 : decode kMo_slot 16 = .ok (.invokestatic 68, 3) := by decide +kernel
theorem dMo_slot_19 : decode kMo_slot 19 = .ok (.ifCond .ne 5, 3) := by decide +kernel
theorem dMo_slot_22 : decode kMo_slot 22 = .ok (.iconst (-1), 1) := by decide +kernel
theorem dMo_slot_23 : decode kMo_slot 23 = .ok (.ireturn, 1) := by decide +kernel
theorem dMo_slot_24 : decode kMo_slot 24 = .ok (.aload_n 0, 1) := by decide +kernel
theorem dMo_slot_25 : decode kMo_slot 25 = .ok (.iload_n 1, 1) := by decide +kernel
theorem dMo_slot_26 : decode kMo_slot 26 = .ok (.invokevirtual 137, 3) := by decide +kernel
theorem dMo_slot_29 : decode kMo_slot 29 = .ok (.istore_n 3, 1) := by decide +kernel
theorem dMo_slot_30 : decode kMo_slot 30 = .ok (.iload_n 2, 1) := by decide +kernel
theorem dMo_slot_31 : decode kMo_slot 31 = .ok (.ifCond .ne 5, 3) := by decide +kernel
theorem dMo_slot_34 : decode kMo_slot 34 = .ok (.iload_n 3, 1) := by decide +kernel
theorem dMo_slot_35 : decode kMo_slot 35 = .ok (.ireturn, 1) := by decide +kernel
theorem dMo_slot_36 : decode kMo_slot 36 = .ok (.iload_n 2, 1) := by decide +kernel
theorem dMo_slot_37 : decode kMo_slot 37 = .ok (.iconst 5, 1) := by decide +kernel
theorem dMo_slot_38 : decode kMo_slot 38 = .ok (.if_icmp .ne 19, 3) := by decide +kernel
theorem dMo_slot_41 : decode kMo_slot 41 = .ok (.iload_n 3, 1) := by decide +kernel
theorem dMo_slot_42 : decode kMo_slot 42 = .ok (.ifCond .ne 8, 3) := by decide +kernel
theorem dMo_slot_45 : decode kMo_slot 45 = .ok (.bipush (-2), 2) := by decide +kernel
theorem dMo_slot_47 : decode kMo_slot 47 = .ok (.goto 9, 3) := by decide +kernel
theorem dMo_slot_50 : decode kMo_slot 50 = .ok (.aload_n 0, 1) := by decide +kernel
theorem dMo_slot_51 : decode kMo_slot 51 = .ok (.getfield 29, 3) := by decide +kernel
theorem dMo_slot_54 : decode kMo_slot 54 = .ok (.iload_n 1, 1) := by decide +kernel
theorem dMo_slot_55 : decode kMo_slot 55 = .ok (.iaload, 1) := by decide +kernel
theorem dMo_slot_56 : decode kMo_slot 56 = .ok (.ireturn, 1) := by decide +kernel
theorem dMo_slot_57 : decode kMo_slot 57 = .ok (.iload_n 3, 1) := by decide +kernel
theorem dMo_slot_58 : decode kMo_slot 58 = .ok (.iconst 1, 1) := by decide +kernel
theorem dMo_slot_59 : decode kMo_slot 59 = .ok (.iconst 2, 1) := by decide +kernel
theorem dMo_slot_60 : decode kMo_slot 60 = .ok (.invokestatic 68, 3) := by decide +kernel
theorem dMo_slot_63 : decode kMo_slot 63 = .ok (.ifCond .eq 19, 3) := by decide +kernel
theorem dMo_slot_66 : decode kMo_slot 66 = .ok (.aload_n 0, 1) := by decide +kernel
theorem dMo_slot_67 : decode kMo_slot 67 = .ok (.getfield 26, 3) := by decide +kernel
theorem dMo_slot_70 : decode kMo_slot 70 = .ok (.bipush 80, 2) := by decide +kernel
theorem dMo_slot_72 : decode kMo_slot 72 = .ok (.iload_n 1, 1) := by decide +kernel
theorem dMo_slot_73 : decode kMo_slot 73 = .ok (.imul, 1) := by decide +kernel
theorem dMo_slot_74 : decode kMo_slot 74 = .ok (.iconst 1, 1) := by decide +kernel
theorem dMo_slot_75 : decode kMo_slot 75 = .ok (.iadd, 1) := by decide +kernel
theorem dMo_slot_76 : decode kMo_slot 76 = .ok (.iload_n 2, 1) := by decide +kernel
theorem dMo_slot_77 : decode kMo_slot 77 = .ok (.iadd, 1) := by decide +kernel
theorem dMo_slot_78 : decode kMo_slot 78 = .ok (.iaload, 1) := by decide +kernel
theorem dMo_slot_79 : decode kMo_slot 79 = .ok (.goto 5, 3) := by decide +kernel
theorem dMo_slot_82 : decode kMo_slot 82 = .ok (.bipush (-2), 2) := by decide +kernel
theorem dMo_slot_84 : decode kMo_slot 84 = .ok (.ireturn, 1) := by decide +kernel
theorem dMo_read_0 : decode kMo_read 0 = .ok (.aload_n 0, 1) := by decide +kernel
theorem dMo_read_1 : decode kMo_read 1 = .ok (.iconst 0, 1) := by decide +kernel
theorem dMo_read_2 : decode kMo_read 2 = .ok (.putfield 1, 3) := by decide +kernel
theorem dMo_read_5 : decode kMo_read 5 = .ok (.iload_n 1, 1) := by decide +kernel
theorem dMo_read_6 : decode kMo_read 6 = .ok (.iconst 0, 1) := by decide +kernel
theorem dMo_read_7 : decode kMo_read 7 = .ok (.sipush 255, 3) := by decide +kernel
theorem dMo_read_10 : decode kMo_read 10 = .ok (.invokestatic 68, 3) := by decide +kernel
theorem dMo_read_13 : decode kMo_read 13 = .ok (.ifCond .ne 5, 3) := by decide +kernel
theorem dMo_read_16 : decode kMo_read 16 = .ok (.iconst (-1), 1) := by decide +kernel
theorem dMo_read_17 : decode kMo_read 17 = .ok (.ireturn, 1) := by decide +kernel
theorem dMo_read_18 : decode kMo_read 18 = .ok (.aload_n 0, 1) := by decide +kernel
theorem dMo_read_19 : decode kMo_read 19 = .ok (.iconst 0, 1) := by decide +kernel
theorem dMo_read_20 : decode kMo_read 20 = .ok (.putfield 140, 3) := by decide +kernel
theorem dMo_read_23 : decode kMo_read 23 = .ok (.iconst 0, 1) := by decide +kernel
theorem dMo_read_24 : decode kMo_read 24 = .ok (.istore_n 2, 1) := by decide +kernel
theorem dMo_read_25 : decode kMo_read 25 = .ok (.iload_n 2, 1) := by decide +kernel
theorem dMo_read_26 : decode kMo_read 26 = .ok (.bipush 60, 2) := by decide +kernel
theorem dMo_read_28 : decode kMo_read 28 = .ok (.if_icmp .ge 85, 3) := by decide +kernel
theorem dMo_read_31 : decode kMo_read 31 = .ok (.aload_n 0, 1) := by decide +kernel
theorem dMo_read_32 : decode kMo_read 32 = .ok (.getfield 140, 3) := by decide +kernel
theorem dMo_read_35 : decode kMo_read 35 = .ok (.ifCond .ne 78, 3) := by decide +kernel
theorem dMo_read_38 : decode kMo_read 38 = .ok (.aload_n 0, 1) := by decide +kernel
theorem dMo_read_39 : decode kMo_read 39 = .ok (.iload_n 2, 1) := by decide +kernel
theorem dMo_read_40 : decode kMo_read 40 = .ok (.invokevirtual 137, 3) := by decide +kernel
theorem dMo_read_43 : decode kMo_read 43 = .ok (.iconst 1, 1) := by decide +kernel
theorem dMo_read_44 : decode kMo_read 44 = .ok (.if_icmp .ne 63, 3) := by decide +kernel
theorem dMo_read_47 : decode kMo_read 47 = .ok (.aload_n 0, 1) := by decide +kernel
theorem dMo_read_48 : decode kMo_read 48 = .ok (.getfield 26, 3) := by decide +kernel
theorem dMo_read_51 : decode kMo_read 51 = .ok (.bipush 80, 2) := by decide +kernel
theorem dMo_read_53 : decode kMo_read 53 = .ok (.iload_n 2, 1) := by decide +kernel
theorem dMo_read_54 : decode kMo_read 54 = .ok (.imul, 1) := by decide +kernel
theorem dMo_read_55 : decode kMo_read 55 = .ok (.iconst 2, 1) := by decide +kernel
theorem dMo_read_56 : decode kMo_read 56 = .ok (.iadd, 1) := by decide +kernel
theorem dMo_read_57 : decode kMo_read 57 = .ok (.iaload, 1) := by decide +kernel
theorem dMo_read_58 : decode kMo_read 58 = .ok (.iload_n 1, 1) := by decide +kernel
theorem dMo_read_59 : decode kMo_read 59 = .ok (.if_icmp .ne 48, 3) := by decide +kernel
theorem dMo_read_62 : decode kMo_read 62 = .ok (.aload_n 0, 1) := by decide +kernel
theorem dMo_read_63 : decode kMo_read 63 = .ok (.iconst 1, 1) := by decide +kernel
theorem dMo_read_64 : decode kMo_read 64 = .ok (.putfield 140, 3) := by decide +kernel
theorem dMo_read_67 : decode kMo_read 67 = .ok (.aload_n 0, 1) := by decide +kernel
theorem dMo_read_68 : decode kMo_read 68 = .ok (.aload_n 0, 1) := by decide +kernel
theorem dMo_read_69 : decode kMo_read 69 = .ok (.getfield 26, 3) := by decide +kernel
theorem dMo_read_72 : decode kMo_read 72 = .ok (.bipush 80, 2) := by decide +kernel
theorem dMo_read_74 : decode kMo_read 74 = .ok (.iload_n 2, 1) := by decide +kernel
theorem dMo_read_75 : decode kMo_read 75 = .ok (.imul, 1) := by decide +kernel
theorem dMo_read_76 : decode kMo_read 76 = .ok (.iconst 4, 1) := by decide +kernel
theorem dMo_read_77 : decode kMo_read 77 = .ok (.iadd, 1) := by decide +kernel
theorem dMo_read_78 : decode kMo_read 78 = .ok (.iaload, 1) := by decide +kernel
theorem dMo_read_79 : decode kMo_read 79 = .ok (.putfield 144, 3) := by decide +kernel
theorem dMo_read_82 : decode kMo_read 82 = .ok (.aload_n 0, 1) := by decide +kernel
theorem dMo_read_83 : decode kMo_read 83 = .ok (.aload_n 0, 1) := by decide +kernel
theorem dMo_read_84 : decode kMo_read 84 = .ok (.getfield 26, 3) := by decide +kernel
theorem dMo_read_87 : decode kMo_read 87 = .ok (.bipush 80, 2) := by decide +kernel
theorem dMo_read_89 : decode kMo_read 89 = .ok (.iload_n 2, 1) := by decide +kernel
theorem dMo_read_90 : decode kMo_read 90 = .ok (.imul, 1) := by decide +kernel
theorem dMo_read_91 : decode kMo_read 91 = .ok (.iconst 5, 1) := by decide +kernel
theorem dMo_read_92 : decode kMo_read 92 = .ok (.iadd, 1) := by decide +kernel
theorem dMo_read_93 : decode kMo_read 93 = .ok (.iaload, 1) := by decide +kernel
theorem dMo_read_94 : decode kMo_read 94 = .ok (.putfield 147, 3) := by decide +kernel
theorem dMo_read_97 : decode kMo_read 97 = .ok (.aload_n 0, 1) := by decide +kernel
theorem dMo_read_98 : decode kMo_read 98 = .ok (.aload_n 0, 1) := by decide +kernel
theorem dMo_read_99 : decode kMo_read 99 = .ok (.getfield 29, 3) := by decide +kernel
theorem dMo_read_102 : decode kMo_read 102 = .ok (.iload_n 2, 1) := by decide +kernel
theorem dMo_read_103 : decode kMo_read 103 = .ok (.iaload, 1) := by decide +kernel
theorem dMo_read_104 : decode kMo_read 104 = .ok (.putfield 150, 3) := by decide +kernel
theorem dMo_read_107 : decode kMo_read 107 = .ok (.iinc 2 1, 3) := by decide +kernel
theorem dMo_read_110 : decode kMo_read 110 = .ok (.goto (-85), 3) := by decide +kernel
theorem dMo_read_113 : decode kMo_read 113 = .ok (.aload_n 0, 1) := by decide +kernel
theorem dMo_read_114 : decode kMo_read 114 = .ok (.getfield 140, 3) := by decide +kernel
theorem dMo_read_117 : decode kMo_read 117 = .ok (.ifCond .ne 6, 3) := by decide +kernel
theorem dMo_read_120 : decode kMo_read 120 = .ok (.bipush (-2), 2) := by decide +kernel
theorem dMo_read_122 : decode kMo_read 122 = .ok (.ireturn, 1) := by decide +kernel
theorem dMo_read_123 : decode kMo_read 123 = .ok (.iconst 0, 1) := by decide +kernel
theorem dMo_read_124 : decode kMo_read 124 = .ok (.istore_n 2, 1) := by decide +kernel
theorem dMo_read_125 : decode kMo_read 125 = .ok (.iload_n 2, 1) := by decide +kernel
theorem dMo_read_126 : decode kMo_read 126 = .ok (.aload_n 0, 1) := by decide +kernel
theorem dMo_read_127 : decode kMo_read 127 = .ok (.getfield 144, 3) := by decide +kernel
theorem dMo_read_130 : decode kMo_read 130 = .ok (.aload_n 0, 1) := by decide +kernel
theorem dMo_read_131 : decode kMo_read 131 = .ok (.getfield 147, 3) := by decide +kernel
theorem dMo_read_134 : decode kMo_read 134 = .ok (.iadd, 1) := by decide +kernel
theorem dMo_read_135 : decode kMo_read 135 = .ok (.if_icmp .ge 17, 3) := by decide +kernel
theorem dMo_read_138 : decode kMo_read 138 = .ok (.aload_n 0, 1) := by decide +kernel
theorem dMo_read_139 : decode kMo_read 139 = .ok (.getfield 35, 3) := by decide +kernel
theorem dMo_read_142 : decode kMo_read 142 = .ok (.iload_n 2, 1) := by decide +kernel
theorem dMo_read_143 : decode kMo_read 143 = .ok (.bipush (-2), 2) := by decide +kernel
theorem dMo_read_145 : decode kMo_read 145 = .ok (.iastore, 1) := by decide +kernel
theorem dMo_read_146 : decode kMo_read 146 = .ok (.iinc 2 1, 3) := by decide +kernel
theorem dMo_read_149 : decode kMo_read 149 = .ok (.goto (-24), 3) := by decide +kernel
theorem dMo_read_152 : decode kMo_read 152 = .ok (.bipush 59, 2) := by decide +kernel
theorem dMo_read_154 : decode kMo_read 154 = .ok (.istore_n 2, 1) := by decide +kernel
theorem dMo_read_155 : decode kMo_read 155 = .ok (.iload_n 2, 1) := by decide +kernel
theorem dMo_read_156 : decode kMo_read 156 = .ok (.ifCond .lt 92, 3) := by decide +kernel
theorem dMo_read_159 : decode kMo_read 159 = .ok (.bipush 80, 2) := by decide +kernel
theorem dMo_read_161 : decode kMo_read 161 = .ok (.iload_n 2, 1) := by decide +kernel
theorem dMo_read_162 : decode kMo_read 162 = .ok (.imul, 1) := by decide +kernel
theorem dMo_read_163 : decode kMo_read 163 = .ok (.istore_n 3, 1) := by decide +kernel
theorem dMo_read_164 : decode kMo_read 164 = .ok (.aload_n 0, 1) := by decide +kernel
theorem dMo_read_165 : decode kMo_read 165 = .ok (.iload_n 2, 1) := by decide +kernel
theorem dMo_read_166 : decode kMo_read 166 = .ok (.invokevirtual 137, 3) := by decide +kernel
theorem dMo_read_169 : decode kMo_read 169 = .ok (.iconst 1, 1) := by decide +kernel
theorem dMo_read_170 : decode kMo_read 170 = .ok (.if_icmp .ne 72, 3) := by decide +kernel
theorem dMo_read_173 : decode kMo_read 173 = .ok (.aload_n 0, 1) := by decide +kernel
theorem dMo_read_174 : decode kMo_read 174 = .ok (.getfield 26, 3) := by decide +kernel
theorem dMo_read_177 : decode kMo_read 177 = .ok (.iload_n 3, 1) := by decide +kernel
theorem dMo_read_178 : decode kMo_read 178 = .ok (.iconst 2, 1) := by decide +kernel
theorem dMo_read_179 : decode kMo_read 179 = .ok (.iadd, 1) := by decide +kernel
theorem dMo_read_180 : decode kMo_read 180 = .ok (.iaload, 1) := by decide +kernel
theorem dMo_read_181 : decode kMo_read 181 = .ok (.iload_n 1, 1) := by decide +kernel
theorem dMo_read_182 : decode kMo_read 182 = .ok (.if_icmp .ne 60, 3) := by decide +kernel
theorem dMo_read_185 : decode kMo_read 185 = .ok (.aload_n 0, 1) := by decide +kernel
theorem dMo_read_186 : decode kMo_read 186 = .ok (.getfield 26, 3) := by decide +kernel
theorem dMo_read_189 : decode kMo_read 189 = .ok (.iload_n 3, 1) := by decide +kernel
theorem dMo_read_190 : decode kMo_read 190 = .ok (.iconst 4, 1) := by decide +kernel
theorem dMo_read_191 : decode kMo_read 191 = .ok (.iadd, 1) := by decide +kernel
theorem dMo_read_192 : decode kMo_read 192 = .ok (.iaload, 1) := by decide +kernel
theorem dMo_read_193 : decode kMo_read 193 = .ok (.aload_n 0, 1) := by decide +kernel
theorem dMo_read_194 : decode kMo_read 194 = .ok (.getfield 144, 3) := by decide +kernel
theorem dMo_read_197 : decode kMo_read 197 = .ok (.if_icmp .ne 45, 3) := by decide +kernel
theorem dMo_read_200 : decode kMo_read 200 = .ok (.aload_n 0, 1) := by decide +kernel
theorem dMo_read_201 : decode kMo_read 201 = .ok (.getfield 26, 3) := by decide +kernel
theorem dMo_read_204 : decode kMo_read 204 = .ok (.iload_n 3, 1) := by decide +kernel
theorem dMo_read_205 : decode kMo_read 205 = .ok (.iconst 5, 1) := by decide +kernel
theorem dMo_read_206 : decode kMo_read 206 = .ok (.iadd, 1) := by decide +kernel
theorem dMo_read_207 : decode kMo_read 207 = .ok (.iaload, 1) := by decide +kernel
theorem dMo_read_208 : decode kMo_read 208 = .ok (.aload_n 0, 1) := by decide +kernel
theorem dMo_read_209 : decode kMo_read 209 = .ok (.getfield 147, 3) := by decide +kernel
theorem dMo_read_212 : decode kMo_read 212 = .ok (.if_icmp .ne 30, 3) := by decide +kernel
theorem dMo_read_215 : decode kMo_read 215 = .ok (.aload_n 0, 1) := by decide +kernel
theorem dMo_read_216 : decode kMo_read 216 = .ok (.getfield 29, 3) := by decide +kernel
theorem dMo_read_219 : decode kMo_read 219 = .ok (.iload_n 2, 1) := by decide +kernel
theorem dMo_read_220 : decode kMo_read 220 = .ok (.iaload, 1) := by decide +kernel
theorem dMo_read_221 : decode kMo_read 221 = .ok (.aload_n 0, 1) := by decide +kernel
theorem dMo_read_222 : decode kMo_read 222 = .ok (.getfield 150, 3) := by decide +kernel
theorem dMo_read_225 : decode kMo_read 225 = .ok (.if_icmp .ne 17, 3) := by decide +kernel
theorem dMo_read_228 : decode kMo_read 228 = .ok (.aload_n 0, 1) := by decide +kernel
theorem dMo_read_229 : decode kMo_read 229 = .ok (.getfield 35, 3) := by decide +kernel
theorem dMo_read_232 : decode kMo_read 232 = .ok (.aload_n 0, 1) := by decide +kernel
theorem dMo_read_233 : decode kMo_read 233 = .ok (.getfield 26, 3) := by decide +kernel
theorem dMo_read_236 : decode kMo_read 236 = .ok (.iload_n 3, 1) := by decide +kernel
theorem dMo_read_237 : decode kMo_read 237 = .ok (.iconst 3, 1) := by decide +kernel
theorem dMo_read_238 : decode kMo_read 238 = .ok (.iadd, 1) := by decide +kernel
theorem dMo_read_239 : decode kMo_read 239 = .ok (.iaload, 1) := by decide +kernel
theorem dMo_read_240 : decode kMo_read 240 = .ok (.iload_n 2, 1) := by decide +kernel
theorem dMo_read_241 : decode kMo_read 241 = .ok (.iastore, 1) := by decide +kernel
theorem dMo_read_242 : decode kMo_read 242 = .ok (.iinc 2 (-1), 3) := by decide +kernel
theorem dMo_read_245 : decode kMo_read 245 = .ok (.goto (-90), 3) := by decide +kernel
theorem dMo_read_248 : decode kMo_read 248 = .ok (.iconst 0, 1) := by decide +kernel
theorem dMo_read_249 : decode kMo_read 249 = .ok (.istore_n 2, 1) := by decide +kernel
theorem dMo_read_250 : decode kMo_read 250 = .ok (.iload_n 2, 1) := by decide +kernel
theorem dMo_read_251 : decode kMo_read 251 = .ok (.aload_n 0, 1) := by decide +kernel
theorem dMo_read_252 : decode kMo_read 252 = .ok (.getfield 144, 3) := by decide +kernel
theorem dMo_read_255 : decode kMo_read 255 = .ok (.if_icmp .ge 118, 3) := by decide +kernel
theorem dMo_read_258 : decode kMo_read 258 = .ok (.aload_n 0, 1) := by decide +kernel
theorem dMo_read_259 : decode kMo_read 259 = .ok (.getfield 35, 3) := by decide +kernel
theorem dMo_read_262 : decode kMo_read 262 = .ok (.iload_n 2, 1) := by decide +kernel
theorem dMo_read_263 : decode kMo_read 263 = .ok (.iaload, 1) := by decide +kernel
theorem dMo_read_264 : decode kMo_read 264 = .ok (.ifCond .lt 103, 3) := by decide +kernel
theorem dMo_read_267 : decode kMo_read 267 = .ok (.aload_n 0, 1) := by decide +kernel
theorem dMo_read_268 : decode kMo_read 268 = .ok (.getfield 38, 3) := by decide +kernel
theorem dMo_read_271 : decode kMo_read 271 = .ok (.iload_n 2, 1) := by decide +kernel
theorem dMo_read_272 : decode kMo_read 272 = .ok (.aload_n 0, 1) := by decide +kernel
theorem dMo_read_273 : decode kMo_read 273 = .ok (.getfield 26, 3) := by decide +kernel
theorem dMo_read_276 : decode kMo_read 276 = .ok (.bipush 80, 2) := by decide +kernel
theorem dMo_read_278 : decode kMo_read 278 = .ok (.aload_n 0, 1) := by decide +kernel
theorem dMo_read_279 : decode kMo_read 279 = .ok (.getfield 35, 3) := by decide +kernel
theorem dMo_read_282 : decode kMo_read 282 = .ok (.iload_n 2, 1) := by decide +kernel
theorem dMo_read_283 : decode kMo_read 283 = .ok (.iaload, 1) := by decide +kernel
theorem dMo_read_284 : decode kMo_read 284 = .ok (.imul, 1) := by decide +kernel
theorem dMo_read_285 : decode kMo_read 285 = .ok (.bipush 6, 2) := by decide +kernel
theorem dMo_read_287 : decode kMo_read 287 = .ok (.iadd, 1) := by decide +kernel
theorem dMo_read_288 : decode kMo_read 288 = .ok (.iaload, 1) := by decide +kernel
theorem dMo_read_289 : decode kMo_read 289 = .ok (.iastore, 1) := by decide +kernel
theorem dMo_read_290 : decode kMo_read 290 = .ok (.aload_n 0, 1) := by decide +kernel
theorem dMo_read_291 : decode kMo_read 291 = .ok (.getfield 41, 3) := by decide +kernel
theorem dMo_read_294 : decode kMo_read 294 = .ok (.iload_n 2, 1) := by decide +kernel
theorem dMo_read_295 : decode kMo_read 295 = .ok (.aload_n 0, 1) := by decide +kernel
theorem dMo_read_296 : decode kMo_read 296 = .ok (.getfield 26, 3) := by decide +kernel
theorem dMo_read_299 : decode kMo_read 299 = .ok (.bipush 80, 2) := by decide +kernel
theorem dMo_read_301 : decode kMo_read 301 = .ok (.aload_n 0, 1) := by decide +kernel
theorem dMo_read_302 : decode kMo_read 302 = .ok (.getfield 35, 3) := by decide +kernel
theorem dMo_read_305 : decode kMo_read 305 = .ok (.iload_n 2, 1) := by decide +kernel
theorem dMo_read_306 : decode kMo_read 306 = .ok (.iaload, 1) := by decide +kernel
theorem dMo_read_307 : decode kMo_read 307 = .ok (.imul, 1) := by decide +kernel
theorem dMo_read_308 : decode kMo_read 308 = .ok (.bipush 7, 2) := by decide +kernel
theorem dMo_read_310 : decode kMo_read 310 = .ok (.iadd, 1) := by decide +kernel
theorem dMo_read_311 : decode kMo_read 311 = .ok (.iaload, 1) := by decide +kernel
theorem dMo_read_312 : decode kMo_read 312 = .ok (.iastore, 1) := by decide +kernel
theorem dMo_read_313 : decode kMo_read 313 = .ok (.iconst 0, 1) := by decide +kernel
theorem dMo_read_314 : decode kMo_read 314 = .ok (.istore_n 3, 1) := by decide +kernel
theorem dMo_read_315 : decode kMo_read 315 = .ok (.iload_n 3, 1) := by decide +kernel
theorem dMo_read_316 : decode kMo_read 316 = .ok (.aload_n 0, 1) := by decide +kernel
theorem dMo_read_317 : decode kMo_read 317 = .ok (.getfield 150, 3) := by decide +kernel
theorem dMo_read_320 : decode kMo_read 320 = .ok (.bipush 12, 2) := by decide +kernel
theorem dMo_read_322 : decode kMo_read 322 = .ok (.isub, 1) := by decide +kernel
theorem dMo_read_323 : decode kMo_read 323 = .ok (.if_icmp .ge 44, 3) := by decide +kernel
theorem dMo_read_326 : decode kMo_read 326 = .ok (.aload_n 0, 1) := by decide +kernel
theorem dMo_read_327 : decode kMo_read 327 = .ok (.getfield 44, 3) := by decide +kernel
theorem dMo_read_330 : decode kMo_read 330 = .ok (.iload_n 2, 1) := by decide +kernel
theorem dMo_read_331 : decode kMo_read 331 = .ok (.aload_n 0, 1) := by decide +kernel
theorem dMo_read_332 : decode kMo_read 332 = .ok (.getfield 150, 3) := by decide +kernel
theorem dMo_read_335 : decode kMo_read 335 = .ok (.bipush 12, 2) := by decide +kernel
theorem dMo_read_337 : decode kMo_read 337 = .ok (.isub, 1) := by decide +kernel
theorem dMo_read_338 : decode kMo_read 338 = .ok (.imul, 1) := by decide +kernel
theorem dMo_read_339 : decode kMo_read 339 = .ok (.iload_n 3, 1) := by decide +kernel
theorem dMo_read_340 : decode kMo_read 340 = .ok (.iadd, 1) := by decide +kernel
theorem dMo_read_341 : decode kMo_read 341 = .ok (.aload_n 0, 1) := by decide +kernel
theorem dMo_read_342 : decode kMo_read 342 = .ok (.getfield 26, 3) := by decide +kernel
theorem dMo_read_345 : decode kMo_read 345 = .ok (.bipush 80, 2) := by decide +kernel
theorem dMo_read_347 : decode kMo_read 347 = .ok (.aload_n 0, 1) := by decide +kernel
theorem dMo_read_348 : decode kMo_read 348 = .ok (.getfield 35, 3) := by decide +kernel
theorem dMo_read_351 : decode kMo_read 351 = .ok (.iload_n 2, 1) := by decide +kernel
theorem dMo_read_352 : decode kMo_read 352 = .ok (.iaload, 1) := by decide +kernel
theorem dMo_read_353 : decode kMo_read 353 = .ok (.imul, 1) := by decide +kernel
theorem dMo_read_354 : decode kMo_read 354 = .ok (.bipush 12, 2) := by decide +kernel
theorem dMo_read_356 : decode kMo_read 356 = .ok (.iadd, 1) := by decide +kernel
theorem dMo_read_357 : decode kMo_read 357 = .ok (.iload_n 3, 1) := by decide +kernel
theorem dMo_read_358 : decode kMo_read 358 = .ok (.iadd, 1) := by decide +kernel
theorem dMo_read_359 : decode kMo_read 359 = .ok (.iaload, 1) := by decide +kernel
theorem dMo_read_360 : decode kMo_read 360 = .ok (.iastore, 1) := by decide +kernel
theorem dMo_read_361 : decode kMo_read 361 = .ok (.iinc 3 1, 3) := by decide +kernel
theorem dMo_read_364 : decode kMo_read 364 = .ok (.goto (-49), 3) := by decide +kernel
theorem dMo_read_367 : decode kMo_read 367 = .ok (.iinc 2 1, 3) := by decide +kernel
theorem dMo_read_370 : decode kMo_read 370 = .ok (.goto (-120), 3) := by decide +kernel
theorem dMo_read_373 : decode kMo_read 373 = .ok (.aload_n 0, 1) := by decide +kernel
theorem dMo_read_374 : decode kMo_read 374 = .ok (.invokevirtual 153, 3) := by decide +kernel
theorem dMo_read_377 : decode kMo_read 377 = .ok (.aload_n 0, 1) := by decide +kernel
theorem dMo_read_378 : decode kMo_read 378 = .ok (.invokevirtual 156, 3) := by decide +kernel
theorem dMo_read_381 : decode kMo_read 381 = .ok (.iconst 0, 1) := by decide +kernel
theorem dMo_read_382 : decode kMo_read 382 = .ok (.istore_n 2, 1) := by decide +kernel
theorem dMo_read_383 : decode kMo_read 383 = .ok (.iconst 0, 1) := by decide +kernel
theorem dMo_read_384 : decode kMo_read 384 = .ok (.istore_n 3, 1) := by decide +kernel
theorem dMo_read_385 : decode kMo_read 385 = .ok (.iload_n 3, 1) := by decide +kernel
theorem dMo_read_386 : decode kMo_read 386 = .ok (.aload_n 0, 1) := by decide +kernel
theorem dMo_read_387 : decode kMo_read 387 = .ok (.getfield 144, 3) := by decide +kernel
theorem dMo_read_390 : decode kMo_read 390 = .ok (.if_icmp .ge 28, 3) := by decide +kernel
theorem dMo_read_393 : decode kMo_read 393 = .ok (.aload_n 0, 1) := by decide +kernel
theorem dMo_read_394 : decode kMo_read 394 = .ok (.getfield 35, 3) := by decide +kernel
theorem dMo_read_397 : decode kMo_read 397 = .ok (.iload_n 3, 1) := by decide +kernel
theorem dMo_read_398 : decode kMo_read 398 = .ok (.iaload, 1) := by decide +kernel
theorem dMo_read_399 : decode kMo_read 399 = .ok (.bipush (-2), 2) := by decide +kernel
theorem dMo_read_401 : decode kMo_read 401 = .ok (.if_icmp .eq 9, 3) := by decide +kernel
theorem dMo_read_404 : decode kMo_read 404 = .ok (.iload_n 2, 1) := by decide +kernel
theorem dMo_read_405 : decode kMo_read 405 = .ok (.iconst 1, 1) := by decide +kernel
theorem dMo_read_406 : decode kMo_read 406 = .ok (.iadd, 1) := by decide +kernel
theorem dMo_read_407 : decode kMo_read 407 = .ok (.goto 4, 3) := by decide +kernel
theorem dMo_read_410 : decode kMo_read 410 = .ok (.iload_n 2, 1) := by decide +kernel
theorem dMo_read_411 : decode kMo_read 411 = .ok (.istore_n 2, 1) := by decide +kernel
theorem dMo_read_412 : decode kMo_read 412 = .ok (.iinc 3 1, 3) := by decide +kernel
theorem dMo_read_415 : decode kMo_read 415 = .ok (.goto (-30), 3) := by decide +kernel
theorem dMo_read_418 : decode kMo_read 418 = .ok (.iload_n 2, 1) := by decide +kernel
theorem dMo_read_419 : decode kMo_read 419 = .ok (.ireturn, 1) := by decide +kernel
theorem dMo_makeAgain_0 : decode kMo_makeAgain 0 = .ok (.aload_n 0, 1) := by decide +kernel
theorem dMo_makeAgain_1 : decode kMo_makeAgain 1 = .ok (.iconst 0, 1) := by decide +kernel
theorem dMo_makeAgain_2 : decode kMo_makeAgain 2 = .ok (.putfield 159, 3) := by decide +kernel
theorem dMo_makeAgain_5 : decode kMo_makeAgain 5 = .ok (.iconst 0, 1) := by decide +kernel
theorem dMo_makeAgain_6 : decode kMo_makeAgain 6 = .ok (.istore_n 1, 1) := by decide +kernel
theorem dMo_makeAgain_7 : decode kMo_makeAgain 7 = .ok (.iconst 0, 1) := by decide +kernel
theorem dMo_makeAgain_8 : decode kMo_makeAgain 8 = .ok (.istore_n 2, 1) := by decide +kernel
theorem dMo_makeAgain_9 : decode kMo_makeAgain 9 = .ok (.iload_n 2, 1) := by decide +kernel
theorem dMo_makeAgain_10 : decode kMo_makeAgain 10 = .ok (.aload_n 0, 1) := by decide +kernel
theorem dMo_makeAgain_11 : decode kMo_makeAgain 11 = .ok (.getfield 144, 3) := by decide +kernel
theorem dMo_makeAgain_14 : decode kMo_makeAgain 14 = .ok (.if_icmp .ge 30, 3) := by decide +kernel
theorem dMo_makeAgain_17 : decode kMo_makeAgain 17 = .ok (.aload_n 0, 1) := by decide +kernel
theorem dMo_makeAgain_18 : decode kMo_makeAgain 18 = .ok (.getfield 35, 3) := by decide +kernel
theorem dMo_makeAgain_21 : decode kMo_makeAgain 21 = .ok (.iload_n 2, 1) := by decide +kernel
theorem dMo_makeAgain_22 : decode kMo_makeAgain 22 = .ok (.iaload, 1) := by decide +kernel
theorem dMo_makeAgain_23 : decode kMo_makeAgain 23 = .ok (.bipush (-2), 2) := by decide +kernel
theorem dMo_makeAgain_25 : decode kMo_makeAgain 25 = .ok (.if_icmp .ne 13, 3) := by decide +kernel
theorem dMo_makeAgain_28 : decode kMo_makeAgain 28 = .ok (.aload_n 0, 1) := by decide +kernel
theorem dMo_makeAgain_29 : decode kMo_makeAgain 29 = .ok (.getfield 56, 3) := by decide +kernel
theorem dMo_makeAgain_32 : decode kMo_makeAgain 32 = .ok (.iload_n 1, 1) := by decide +kernel
theorem dMo_makeAgain_33 : decode kMo_makeAgain 33 = .ok (.iload_n 2, 1) := by decide +kernel
theorem dMo_makeAgain_34 : decode kMo_makeAgain 34 = .ok (.iastore, 1) := by decide +kernel
theorem dMo_makeAgain_35 : decode kMo_makeAgain 35 = .ok (.iinc 1 1, 3) := by decide +kernel
theorem dMo_makeAgain_38 : decode kMo_makeAgain 38 = .ok (.iinc 2 1, 3) := by decide +kernel
theorem dMo_makeAgain_41 : decode kMo_makeAgain 41 = .ok (.goto (-32), 3) := by decide +kernel
theorem dMo_makeAgain_44 : decode kMo_makeAgain 44 = .ok (.iconst 0, 1) := by decide +kernel
theorem dMo_makeAgain_45 : decode kMo_makeAgain 45 = .ok (.istore_n 2, 1) := by decide +kernel
theorem dMo_makeAgain_46 : decode kMo_makeAgain 46 = .ok (.iconst 0, 1) := by decide +kernel
theorem dMo_makeAgain_47 : decode kMo_makeAgain 47 = .ok (.istore_n 3, 1) := by decide +kernel
theorem dMo_makeAgain_48 : decode kMo_makeAgain 48 = .ok (.iload_n 3, 1) := by decide +kernel
theorem dMo_makeAgain_49 : decode kMo_makeAgain 49 = .ok (.aload_n 0, 1) := by decide +kernel
theorem dMo_makeAgain_50 : decode kMo_makeAgain 50 = .ok (.getfield 147, 3) := by decide +kernel
theorem dMo_makeAgain_53 : decode kMo_makeAgain 53 = .ok (.if_icmp .ge 40, 3) := by decide +kernel
theorem dMo_makeAgain_56 : decode kMo_makeAgain 56 = .ok (.aload_n 0, 1) := by decide +kernel
theorem dMo_makeAgain_57 : decode kMo_makeAgain 57 = .ok (.getfield 35, 3) := by decide +kernel
theorem dMo_makeAgain_60 : decode kMo_makeAgain 60 = .ok (.aload_n 0, 1) := by decide +kernel
theorem dMo_makeAgain_61 : decode kMo_makeAgain 61 = .ok (.getfield 144, 3) := by decide +kernel
theorem dMo_makeAgain_64 : decode kMo_makeAgain 64 = .ok (.iload_n 3, 1) := by decide +kernel
theorem dMo_makeAgain_65 : decode kMo_makeAgain 65 = .ok (.iadd, 1) := by decide +kernel
theorem dMo_makeAgain_66 : decode kMo_makeAgain 66 = .ok (.iaload, 1) := by decide +kernel
theorem dMo_makeAgain_67 : decode kMo_makeAgain 67 = .ok (.bipush (-2), 2) := by decide +kernel
theorem dMo_makeAgain_69 : decode kMo_makeAgain 69 = .ok (.if_icmp .eq 18, 3) := by decide +kernel
theorem dMo_makeAgain_72 : decode kMo_makeAgain 72 = .ok (.iload_n 2, 1) := by decide +kernel
theorem dMo_makeAgain_73 : decode kMo_makeAgain 73 = .ok (.iload_n 1, 1) := by decide +kernel
theorem dMo_makeAgain_74 : decode kMo_makeAgain 74 = .ok (.if_icmp .ge 13, 3) := by decide +kernel
theorem dMo_makeAgain_77 : decode kMo_makeAgain 77 = .ok (.aload_n 0, 1) := by decide +kernel
theorem dMo_makeAgain_78 : decode kMo_makeAgain 78 = .ok (.getfield 59, 3) := by decide +kernel
theorem dMo_makeAgain_81 : decode kMo_makeAgain 81 = .ok (.iload_n 2, 1) := by decide +kernel
theorem dMo_makeAgain_82 : decode kMo_makeAgain 82 = .ok (.iload_n 3, 1) := by decide +kernel
theorem dMo_makeAgain_83 : decode kMo_makeAgain 83 = .ok (.iastore, 1) := by decide +kernel
theorem dMo_makeAgain_84 : decode kMo_makeAgain 84 = .ok (.iinc 2 1, 3) := by decide +kernel
theorem dMo_makeAgain_87 : decode kMo_makeAgain 87 = .ok (.iinc 3 1, 3) := by decide +kernel
theorem dMo_makeAgain_90 : decode kMo_makeAgain 90 = .ok (.goto (-42), 3) := by decide +kernel
theorem dMo_makeAgain_93 : decode kMo_makeAgain 93 = .ok (.iload_n 2, 1) := by decide +kernel
theorem dMo_makeAgain_94 : decode kMo_makeAgain 94 = .ok (.iload_n 1, 1) := by decide +kernel
theorem dMo_makeAgain_95 : decode kMo_makeAgain 95 = .ok (.if_icmp .ge 4, 3) := by decide +kernel
theorem dMo_makeAgain_98 : decode kMo_makeAgain 98 = .ok (.return_, 1) := by decide +kernel
theorem dMo_makeAgain_99 : decode kMo_makeAgain 99 = .ok (.bipush (-2), 2) := by decide +kernel
theorem dMo_makeAgain_101 : decode kMo_makeAgain 101 = .ok (.istore_n 3, 1) := by decide +kernel
theorem dMo_makeAgain_102 : decode kMo_makeAgain 102 = .ok (.iload_n 3, 1) := by decide +kernel
theorem dMo_makeAgain_103 : decode kMo_makeAgain 103 = .ok (.aload_n 0, 1) := by decide +kernel
theorem dMo_makeAgain_104 : decode kMo_makeAgain 104 = .ok (.getfield 150, 3) := by decide +kernel
theorem dMo_makeAgain_107 : decode kMo_makeAgain 107 = .ok (.bipush 12, 2) := by decide +kernel
theorem dMo_makeAgain_109 : decode kMo_makeAgain 109 = .ok (.isub, 1) := by decide +kernel
theorem dMo_makeAgain_110 : decode kMo_makeAgain 110 = .ok (.if_icmp .ge 19, 3) := by decide +kernel
theorem dMo_makeAgain_113 : decode kMo_makeAgain 113 = .ok (.iload_n 1, 1) := by decide +kernel
theorem dMo_makeAgain_114 : decode kMo_makeAgain 114 = .ok (.ifCond .le 15, 3) := by decide +kernel
theorem dMo_makeAgain_117 : decode kMo_makeAgain 117 = .ok (.aload_n 0, 1) := by decide +kernel
theorem dMo_makeAgain_118 : decode kMo_makeAgain 118 = .ok (.iload_n 1, 1) := by decide +kernel
theorem dMo_makeAgain_119 : decode kMo_makeAgain 119 = .ok (.iload_n 3, 1) := by decide +kernel
theorem dMo_makeAgain_120 : decode kMo_makeAgain 120 = .ok (.invokevirtual 162, 3) := by decide +kernel
theorem dMo_makeAgain_123 : decode kMo_makeAgain 123 = .ok (.iinc 3 1, 3) := by decide +kernel
theorem dMo_makeAgain_126 : decode kMo_makeAgain 126 = .ok (.goto (-24), 3) := by decide +kernel
theorem dMo_makeAgain_129 : decode kMo_makeAgain 129 = .ok (.iconst 0, 1) := by decide +kernel
theorem dMo_makeAgain_130 : decode kMo_makeAgain 130 = .ok (.istore_n 3, 1) := by decide +kernel
theorem dMo_makeAgain_131 : decode kMo_makeAgain 131 = .ok (.iload_n 3, 1) := by decide +kernel
theorem dMo_makeAgain_132 : decode kMo_makeAgain 132 = .ok (.iload_n 1, 1) := by decide +kernel
theorem dMo_makeAgain_133 : decode kMo_makeAgain 133 = .ok (.if_icmp .ge 22, 3) := by decide +kernel
theorem dMo_makeAgain_136 : decode kMo_makeAgain 136 = .ok (.aload_n 0, 1) := by decide +kernel
theorem dMo_makeAgain_137 : decode kMo_makeAgain 137 = .ok (.getfield 35, 3) := by decide +kernel
theorem dMo_makeAgain_140 : decode kMo_makeAgain 140 = .ok (.aload_n 0, 1) := by decide +kernel
theorem dMo_makeAgain_141 : decode kMo_makeAgain 141 = .ok (.getfield 56, 3) := by decide +kernel
theorem dMo_makeAgain_144 : decode kMo_makeAgain 144 = .ok (.iload_n 3, 1) := by decide +kernel
theorem dMo_makeAgain_145 : decode kMo_makeAgain 145 = .ok (.iaload, 1) := by decide +kernel
theorem dMo_makeAgain_146 : decode kMo_makeAgain 146 = .ok (.bipush 100, 2) := by decide +kernel
theorem dMo_makeAgain_148 : decode kMo_makeAgain 148 = .ok (.iastore, 1) := by decide +kernel
theorem dMo_makeAgain_149 : decode kMo_makeAgain 149 = .ok (.iinc 3 1, 3) := by decide +kernel
theorem dMo_makeAgain_152 : decode kMo_makeAgain 152 = .ok (.goto (-21), 3) := by decide +kernel
theorem dMo_makeAgain_155 : decode kMo_makeAgain 155 = .ok (.aload_n 0, 1) := by decide +kernel
theorem dMo_makeAgain_156 : decode kMo_makeAgain 156 = .ok (.iload_n 1, 1) := by decide +kernel
theorem dMo_makeAgain_157 : decode kMo_makeAgain 157 = .ok (.putfield 159, 3) := by decide +kernel
theorem dMo_makeAgain_160 : decode kMo_makeAgain 160 = .ok (.return_, 1) := by decide +kernel
theorem dMo_known_0 : decode kMo_known 0 = .ok (.iload_n 2, 1) := by decide +kernel
theorem dMo_known_1 : decode kMo_known 1 = .ok (.iconst (-1), 1) := by decide +kernel
theorem dMo_known_2 : decode kMo_known 2 = .ok (.if_icmp .ne 12, 3) := by decide +kernel
theorem dMo_known_5 : decode kMo_known 5 = .ok (.aload_n 0, 1) := by decide +kernel
theorem dMo_known_6 : decode kMo_known 6 = .ok (.getfield 38, 3) := by decide +kernel
theorem dMo_known_9 : decode kMo_known 9 = .ok (.iload_n 1, 1) := by decide +kernel
theorem dMo_known_10 : decode kMo_known 10 = .ok (.iaload, 1) := by decide +kernel
theorem dMo_known_11 : decode kMo_known 11 = .ok (.goto 34, 3) := by decide +kernel
theorem dMo_known_14 : decode kMo_known 14 = .ok (.iload_n 2, 1) := by decide +kernel
theorem dMo_known_15 : decode kMo_known 15 = .ok (.bipush (-2), 2) := by decide +kernel
theorem dMo_known_17 : decode kMo_known 17 = .ok (.if_icmp .ne 12, 3) := by decide +kernel
theorem dMo_known_20 : decode kMo_known 20 = .ok (.aload_n 0, 1) := by decide +kernel
theorem dMo_known_21 : decode kMo_known 21 = .ok (.getfield 41, 3) := by decide +kernel
theorem dMo_known_24 : decode kMo_known 24 = .ok (.iload_n 1, 1) := by decide +kernel
theorem dMo_known_25 : decode kMo_known 25 = .ok (.iaload, 1) := by decide +kernel
theorem dMo_known_26 : decode kMo_known 26 = .ok (.goto 19, 3) := by decide +kernel
theorem dMo_known_29 : decode kMo_known 29 = .ok (.aload_n 0, 1) := by decide +kernel
theorem dMo_known_30 : decode kMo_known 30 = .ok (.getfield 44, 3) := by decide +kernel
theorem dMo_known_33 : decode kMo_known 33 = .ok (.iload_n 1, 1) := by decide +kernel
theorem dMo_known_34 : decode kMo_known 34 = .ok (.aload_n 0, 1) := by decide +kernel
theorem dMo_known_35 : decode kMo_known 35 = .ok (.getfield 150, 3) := by decide +kernel
theorem dMo_known_38 : decode kMo_known 38 = .ok (.bipush 12, 2) := by decide +kernel
theorem dMo_known_40 : decode kMo_known 40 = .ok (.isub, 1) := by decide +kernel
theorem dMo_known_41 : decode kMo_known 41 = .ok (.imul, 1) := by decide +kernel
theorem dMo_known_42 : decode kMo_known 42 = .ok (.iload_n 2, 1) := by decide +kernel
theorem dMo_known_43 : decode kMo_known 43 = .ok (.iadd, 1) := by decide +kernel
theorem dMo_known_44 : decode kMo_known 44 = .ok (.iaload, 1) := by decide +kernel
theorem dMo_known_45 : decode kMo_known 45 = .ok (.ireturn, 1) := by decide +kernel
theorem dMo_solve_0 : decode kMo_solve 0 = .ok (.iconst 0, 1) := by decide +kernel
theorem dMo_solve_1 : decode kMo_solve 1 = .ok (.istore_n 3, 1) := by decide +kernel
theorem dMo_solve_2 : decode kMo_solve 2 = .ok (.iload_n 3, 1) := by decide +kernel
theorem dMo_solve_3 : decode kMo_solve 3 = .ok (.iload_n 1, 1) := by decide +kernel
theorem dMo_solve_4 : decode kMo_solve 4 = .ok (.if_icmp .ge 198, 3) := by decide +kernel
theorem dMo_solve_7 : decode kMo_solve 7 = .ok (.bipush 80, 2) := by decide +kernel
theorem dMo_solve_9 : decode kMo_solve 9 = .ok (.aload_n 0, 1) := by decide +kernel
theorem dMo_solve_10 : decode kMo_solve 10 = .ok (.getfield 35, 3) := by decide +kernel
theorem dMo_solve_13 : decode kMo_solve 13 = .ok (.aload_n 0, 1) := by decide +kernel
theorem dMo_solve_14 : decode kMo_solve 14 = .ok (.getfield 144, 3) := by decide +kernel
theorem dMo_solve_17 : decode kMo_solve 17 = .ok (.aload_n 0, 1) := by decide +kernel
theorem dMo_solve_18 : decode kMo_solve 18 = .ok (.getfield 59, 3) := by decide +kernel
theorem dMo_solve_21 : decode kMo_solve 21 = .ok (.iload_n 3, 1) := by decide +kernel
theorem dMo_solve_22 : decode kMo_solve 22 = .ok (.iaload, 1) := by decide +kernel
theorem dMo_solve_23 : decode kMo_solve 23 = .ok (.iadd, 1) := by decide +kernel
theorem dMo_solve_24 : decode kMo_solve 24 = .ok (.iaload, 1) := by decide +kernel
theorem dMo_solve_25 : decode kMo_solve 25 = .ok (.imul, 1) := by decide +kernel
theorem dMo_solve_26 : decode kMo_solve 26 = .ok (.istore 4, 2) := by decide +kernel
theorem dMo_solve_28 : decode kMo_solve 28 = .ok (.iload_n 2, 1) := by decide +kernel
theorem dMo_solve_29 : decode kMo_solve 29 = .ok (.iconst (-1), 1) := by decide +kernel
theorem dMo_solve_30 : decode kMo_solve 30 = .ok (.if_icmp .ne 16, 3) := by decide +kernel
theorem dMo_solve_33 : decode kMo_solve 33 = .ok (.aload_n 0, 1) := by decide +kernel
theorem dMo_solve_34 : decode kMo_solve 34 = .ok (.getfield 26, 3) := by decide +kernel
theorem dMo_solve_37 : decode kMo_solve 37 = .ok (.iload 4, 2) := by decide +kernel
theorem dMo_solve_39 : decode kMo_solve 39 = .ok (.bipush 6, 2) := by decide +kernel
theorem dMo_solve_41 : decode kMo_solve 41 = .ok (.iadd, 1) := by decide +kernel
theorem dMo_solve_42 : decode kMo_solve 42 = .ok (.iaload, 1) := by decide +kernel
theorem dMo_solve_43 : decode kMo_solve 43 = .ok (.goto 34, 3) := by decide +kernel
theorem dMo_solve_46 : decode kMo_solve 46 = .ok (.iload_n 2, 1) := by decide +kernel
theorem dMo_solve_47 : decode kMo_solve 47 = .ok (.bipush (-2), 2) := by decide +kernel
theorem dMo_solve_49 : decode kMo_solve 49 = .ok (.if_icmp .ne 16, 3) := by decide +kernel
theorem dMo_solve_52 : decode kMo_solve 52 = .ok (.aload_n 0, 1) := by decide +kernel
theorem dMo_solve_53 : decode kMo_solve 53 = .ok (.getfield 26, 3) := by decide +kernel
theorem dMo_solve_56 : decode kMo_solve 56 = .ok (.iload 4, 2) := by decide +kernel
theorem dMo_solve_58 : decode kMo_solve 58 = .ok (.bipush 7, 2) := by decide +kernel
theorem dMo_solve_60 : decode kMo_solve 60 = .ok (.iadd, 1) := by decide +kernel
theorem dMo_solve_61 : decode kMo_solve 61 = .ok (.iaload, 1) := by decide +kernel
theorem dMo_solve_62 : decode kMo_solve 62 = .ok (.goto 15, 3) := by decide +kernel
theorem dMo_solve_65 : decode kMo_solve 65 = .ok (.aload_n 0, 1) := by decide +kernel
theorem dMo_solve_66 : decode kMo_solve 66 = .ok (.getfield 26, 3) := by decide +kernel
theorem dMo_solve_69 : decode kMo_solve 69 = .ok (.iload 4, 2) := by decide +kernel
theorem dMo_solve_71 : decode kMo_solve 71 = .ok (.bipush 12, 2) := by decide +kernel
theorem dMo_solve_73 : decode kMo_solve 73 = .ok (.iadd, 1) := by decide +kernel
theorem dMo_solve_74 : decode kMo_solve 74 = .ok (.iload_n 2, 1) := by decide +kernel
theorem dMo_solve_75 : decode kMo_solve 75 = .ok (.iadd, 1) := by decide +kernel
theorem dMo_solve_76 : decode kMo_solve 76 = .ok (.iaload, 1) := by decide +kernel
theorem dMo_solve_77 : decode kMo_solve 77 = .ok (.istore 5, 2) := by decide +kernel
theorem dMo_solve_79 : decode kMo_solve 79 = .ok (.iconst 0, 1) := by decide +kernel
theorem dMo_solve_80 : decode kMo_solve 80 = .ok (.istore 6, 2) := by decide +kernel
theorem dMo_solve_82 : decode kMo_solve 82 = .ok (.iload 6, 2) := by decide +kernel
theorem dMo_solve_84 : decode kMo_solve 84 = .ok (.aload_n 0, 1) := by decide +kernel
theorem dMo_solve_85 : decode kMo_solve 85 = .ok (.getfield 144, 3) := by decide +kernel
theorem dMo_solve_88 : decode kMo_solve 88 = .ok (.if_icmp .ge 53, 3) := by decide +kernel
theorem dMo_solve_91 : decode kMo_solve 91 = .ok (.aload_n 0, 1) := by decide +kernel
theorem dMo_solve_92 : decode kMo_solve 92 = .ok (.getfield 35, 3) := by decide +kernel
theorem dMo_solve_95 : decode kMo_solve 95 = .ok (.iload 6, 2) := by decide +kernel
theorem dMo_solve_97 : decode kMo_solve 97 = .ok (.iaload, 1) := by decide +kernel
theorem dMo_solve_98 : decode kMo_solve 98 = .ok (.bipush (-2), 2) := by decide +kernel
theorem dMo_solve_100 : decode kMo_solve 100 = .ok (.if_icmp .ne 8, 3) := by decide +kernel
theorem dMo_solve_103 : decode kMo_solve 103 = .ok (.iload 5, 2) := by decide +kernel
theorem dMo_solve_105 : decode kMo_solve 105 = .ok (.goto 28, 3) := by decide +kernel
theorem dMo_solve_108 : decode kMo_solve 108 = .ok (.iload 5, 2) := by decide +kernel
theorem dMo_solve_110 : decode kMo_solve 110 = .ok (.aload_n 0, 1) := by decide +kernel
theorem dMo_solve_111 : decode kMo_solve 111 = .ok (.getfield 59, 3) := by decide +kernel
theorem dMo_solve_114 : decode kMo_solve 114 = .ok (.iload_n 3, 1) := by decide +kernel
theorem dMo_solve_115 : decode kMo_solve 115 = .ok (.iaload, 1) := by decide +kernel
theorem dMo_solve_116 : decode kMo_solve 116 = .ok (.iload 6, 2) := by decide +kernel
theorem dMo_solve_118 : decode kMo_solve 118 = .ok (.imul, 1) := by decide +kernel
theorem dMo_solve_119 : decode kMo_solve 119 = .ok (.invokestatic 106, 3) := by decide +kernel
theorem dMo_solve_122 : decode kMo_solve 122 = .ok (.aload_n 0, 1) := by decide +kernel
theorem dMo_solve_123 : decode kMo_solve 123 = .ok (.iload 6, 2) := by decide +kernel
theorem dMo_solve_125 : decode kMo_solve 125 = .ok (.iload_n 2, 1) := by decide +kernel
theorem dMo_solve_126 : decode kMo_solve 126 = .ok (.invokevirtual 166, 3) := by decide +kernel
theorem dMo_solve_129 : decode kMo_solve 129 = .ok (.invokestatic 100, 3) := by decide +kernel
theorem dMo_solve_132 : decode kMo_solve 132 = .ok (.ixor, 1) := by decide +kernel
theorem dMo_solve_133 : decode kMo_solve 133 = .ok (.istore 5, 2) := by decide +kernel
theorem dMo_solve_135 : decode kMo_solve 135 = .ok (.iinc 6 1, 3) := by decide +kernel
theorem dMo_solve_138 : decode kMo_solve 138 = .ok (.goto (-56), 3) := by decide +kernel
theorem dMo_solve_141 : decode kMo_solve 141 = .ok (.iconst 0, 1) := by decide +kernel
theorem dMo_solve_142 : decode kMo_solve 142 = .ok (.istore 6, 2) := by decide +kernel
theorem dMo_solve_144 : decode kMo_solve 144 = .ok (.iload 6, 2) := by decide +kernel
theorem dMo_solve_146 : decode kMo_solve 146 = .ok (.iload_n 1, 1) := by decide +kernel
theorem dMo_solve_147 : decode kMo_solve 147 = .ok (.if_icmp .ge 37, 3) := by decide +kernel
theorem dMo_solve_150 : decode kMo_solve 150 = .ok (.aload_n 0, 1) := by decide +kernel
theorem dMo_solve_151 : decode kMo_solve 151 = .ok (.getfield 62, 3) := by decide +kernel
theorem dMo_solve_154 : decode kMo_solve 154 = .ok (.iconst 4, 1) := by decide +kernel
theorem dMo_solve_155 : decode kMo_solve 155 = .ok (.iload_n 3, 1) := by decide +kernel
theorem dMo_solve_156 : decode kMo_solve 156 = .ok (.imul, 1) := by decide +kernel
theorem dMo_solve_157 : decode kMo_solve 157 = .ok (.iload 6, 2) := by decide +kernel
theorem dMo_solve_159 : decode kMo_solve 159 = .ok (.iadd, 1) := by decide +kernel
theorem dMo_solve_160 : decode kMo_solve 160 = .ok (.aload_n 0, 1) := by decide +kernel
theorem dMo_solve_161 : decode kMo_solve 161 = .ok (.getfield 59, 3) := by decide +kernel
theorem dMo_solve_164 : decode kMo_solve 164 = .ok (.iload_n 3, 1) := by decide +kernel
theorem dMo_solve_165 : decode kMo_solve 165 = .ok (.iaload, 1) := by decide +kernel
theorem dMo_solve_166 : decode kMo_solve 166 = .ok (.aload_n 0, 1) := by decide +kernel
theorem dMo_solve_167 : decode kMo_solve 167 = .ok (.getfield 56, 3) := by decide +kernel
theorem dMo_solve_170 : decode kMo_solve 170 = .ok (.iload 6, 2) := by decide +kernel
theorem dMo_solve_172 : decode kMo_solve 172 = .ok (.iaload, 1) := by decide +kernel
theorem dMo_solve_173 : decode kMo_solve 173 = .ok (.imul, 1) := by decide +kernel
theorem dMo_solve_174 : decode kMo_solve 174 = .ok (.invokestatic 106, 3) := by decide +kernel
theorem dMo_solve_177 : decode kMo_solve 177 = .ok (.iastore, 1) := by decide +kernel
theorem dMo_solve_178 : decode kMo_solve 178 = .ok (.iinc 6 1, 3) := by decide +kernel
theorem dMo_solve_181 : decode kMo_solve 181 = .ok (.goto (-37), 3) := by decide +kernel
theorem dMo_solve_184 : decode kMo_solve 184 = .ok (.aload_n 0, 1) := by decide +kernel
theorem dMo_solve_185 : decode kMo_solve 185 = .ok (.getfield 62, 3) := by decide +kernel
theorem dMo_solve_188 : decode kMo_solve 188 = .ok (.iconst 4, 1) := by decide +kernel
theorem dMo_solve_189 : decode kMo_solve 189 = .ok (.iload_n 3, 1) := by decide +kernel
theorem dMo_solve_190 : decode kMo_solve 190 = .ok (.imul, 1) := by decide +kernel
theorem dMo_solve_191 : decode kMo_solve 191 = .ok (.iconst 3, 1) := by decide +kernel
theorem dMo_solve_192 : decode kMo_solve 192 = .ok (.iadd, 1) := by decide +kernel
theorem dMo_solve_193 : decode kMo_solve 193 = .ok (.iload 5, 2) := by decide +kernel
theorem dMo_solve_195 : decode kMo_solve 195 = .ok (.iastore, 1) := by decide +kernel
theorem dMo_solve_196 : decode kMo_solve 196 = .ok (.iinc 3 1, 3) := by decide +kernel
theorem dMo_solve_199 : decode kMo_solve 199 = .ok (.goto (-197), 3) := by decide +kernel
theorem dMo_solve_202 : decode kMo_solve 202 = .ok (.iconst 0, 1) := by decide +kernel
theorem dMo_solve_203 : decode kMo_solve 203 = .ok (.istore_n 3, 1) := by decide +kernel
theorem dMo_solve_204 : decode kMo_solve 204 = .ok (.iload_n 3, 1) := by decide +kernel
theorem dMo_solve_205 : decode kMo_solve 205 = .ok (.iload_n 1, 1) := by decide +kernel
theorem dMo_solve_206 : decode kMo_solve 206 = .ok (.if_icmp .ge 244, 3) := by decide +kernel
theorem dMo_solve_209 : decode kMo_solve 209 = .ok (.iload_n 3, 1) := by decide +kernel
theorem dMo_solve_210 : decode kMo_solve 210 = .ok (.istore 4, 2) := by decide +kernel
theorem dMo_solve_212 : decode kMo_solve 212 = .ok (.aload_n 0, 1) := by decide +kernel
theorem dMo_solve_213 : decode kMo_solve 213 = .ok (.getfield 62, 3) := by decide +kernel
theorem dMo_solve_216 : decode kMo_solve 216 = .ok (.iconst 4, 1) := by decide +kernel
theorem dMo_solve_217 : decode kMo_solve 217 = .ok (.iload 4, 2) := by decide +kernel
theorem dMo_solve_219 : decode kMo_solve 219 = .ok (.imul, 1) := by decide +kernel
theorem dMo_solve_220 : decode kMo_solve 220 = .ok (.iload_n 3, 1) := by decide +kernel
theorem dMo_solve_221 : decode kMo_solve 221 = .ok (.iadd, 1) := by decide +kernel
theorem dMo_solve_222 : decode kMo_solve 222 = .ok (.iaload, 1) := by decide +kernel
theorem dMo_solve_223 : decode kMo_solve 223 = .ok (.ifCond .ne 9, 3) := by decide +kernel
theorem dMo_solve_226 : decode kMo_solve 226 = .ok (.iinc 4 1, 3) := by decide +kernel
theorem dMo_solve_229 : decode kMo_solve 229 = .ok (.goto (-17), 3) := by decide +kernel
theorem dMo_solve_232 : decode kMo_solve 232 = .ok (.iconst 0, 1) := by decide +kernel
theorem dMo_solve_233 : decode kMo_solve 233 = .ok (.istore 5, 2) := by decide +kernel
theorem dMo_solve_235 : decode kMo_solve 235 = .ok (.iload 5, 2) := by decide +kernel
theorem dMo_solve_237 : decode kMo_solve 237 = .ok (.iconst 4, 1) := by decide +kernel
theorem dMo_solve_238 : decode kMo_solve 238 = .ok (.if_icmp .ge 59, 3) := by decide +kernel
theorem dMo_solve_241 : decode kMo_solve 241 = .ok (.aload_n 0, 1) := by decide +kernel
theorem dMo_solve_242 : decode kMo_solve 242 = .ok (.getfield 62, 3) := by decide +kernel
theorem dMo_solve_245 : decode kMo_solve 245 = .ok (.iconst 4, 1) := by decide +kernel
theorem dMo_solve_246 : decode kMo_solve 246 = .ok (.iload_n 3, 1) := by decide +kernel
theorem dMo_solve_247 : decode kMo_solve 247 = .ok (.imul, 1) := by decide +kernel
theorem dMo_solve_248 : decode kMo_solve 248 = .ok (.iload 5, 2) := by decide +kernel
theorem dMo_solve_250 : decode kMo_solve 250 = .ok (.iadd, 1) := by decide +kernel
theorem dMo_solve_251 : decode kMo_solve 251 = .ok (.iaload, 1) := by decide +kernel
theorem dMo_solve_252 : decode kMo_solve 252 = .ok (.istore 6, 2) := by decide +kernel
theorem dMo_solve_254 : decode kMo_solve 254 = .ok (.aload_n 0, 1) := by decide +kernel
theorem dMo_solve_255 : decode kMo_solve 255 = .ok (.getfield 62, 3) := by decide +kernel
theorem dMo_solve_258 : decode kMo_solve 258 = .ok (.iconst 4, 1) := by decide +kernel
theorem dMo_solve_259 : decode kMo_solve 259 = .ok (.iload_n 3, 1) := by decide +kernel
theorem dMo_solve_260 : decode kMo_solve 260 = .ok (.imul, 1) := by decide +kernel
theorem dMo_solve_261 : decode kMo_solve 261 = .ok (.iload 5, 2) := by decide +kernel
theorem dMo_solve_263 : decode kMo_solve 263 = .ok (.iadd, 1) := by decide +kernel
theorem dMo_solve_264 : decode kMo_solve 264 = .ok (.aload_n 0, 1) := by decide +kernel
theorem dMo_solve_265 : decode kMo_solve 265 = .ok (.getfield 62, 3) := by decide +kernel
theorem dMo_solve_268 : decode kMo_solve 268 = .ok (.iconst 4, 1) := by decide +kernel
theorem dMo_solve_269 : decode kMo_solve 269 = .ok (.iload 4, 2) := by decide +kernel
theorem dMo_solve_271 : decode kMo_solve 271 = .ok (.imul, 1) := by decide +kernel
theorem dMo_solve_272 : decode kMo_solve 272 = .ok (.iload 5, 2) := by decide +kernel
theorem dMo_solve_274 : decode kMo_solve 274 = .ok (.iadd, 1) := by decide +kernel
theorem dMo_solve_275 : decode kMo_solve 275 = .ok (.iaload, 1) := by decide +kernel
theorem dMo_solve_276 : decode kMo_solve 276 = .ok (.iastore, 1) := by decide +kernel
theorem dMo_solve_277 : decode kMo_solve 277 = .ok (.aload_n 0, 1) := by decide +kernel
theorem dMo_solve_278 : decode kMo_solve 278 = .ok (.getfield 62, 3) := by decide +kernel
theorem dMo_solve_281 : decode kMo_solve 281 = .ok (.iconst 4, 1) := by decide +kernel
theorem dMo_solve_282 : decode kMo_solve 282 = .ok (.iload 4, 2) := by decide +kernel
theorem dMo_solve_284 : decode kMo_solve 284 = .ok (.imul, 1) := by decide +kernel
theorem dMo_solve_285 : decode kMo_solve 285 = .ok (.iload 5, 2) := by decide +kernel
theorem dMo_solve_287 : decode kMo_solve 287 = .ok (.iadd, 1) := by decide +kernel
theorem dMo_solve_288 : decode kMo_solve 288 = .ok (.iload 6, 2) := by decide +kernel
theorem dMo_solve_290 : decode kMo_solve 290 = .ok (.iastore, 1) := by decide +kernel
theorem dMo_solve_291 : decode kMo_solve 291 = .ok (.iinc 5 1, 3) := by decide +kernel
theorem dMo_solve_294 : decode kMo_solve 294 = .ok (.goto (-59), 3) := by decide +kernel
theorem dMo_solve_297 : decode kMo_solve 297 = .ok (.aload_n 0, 1) := by decide +kernel
theorem dMo_solve_298 : decode kMo_solve 298 = .ok (.getfield 62, 3) := by decide +kernel
theorem dMo_solve_301 : decode kMo_solve 301 = .ok (.iconst 4, 1) := by decide +kernel
theorem dMo_solve_302 : decode kMo_solve 302 = .ok (.iload_n 3, 1) := by decide +kernel
theorem dMo_solve_303 : decode kMo_solve 303 = .ok (.imul, 1) := by decide +kernel
theorem dMo_solve_304 : decode kMo_solve 304 = .ok (.iload_n 3, 1) := by decide +kernel
theorem dMo_solve_305 : decode kMo_solve 305 = .ok (.iadd, 1) := by decide +kernel
theorem dMo_solve_306 : decode kMo_solve 306 = .ok (.iaload, 1) := by decide +kernel
theorem dMo_solve_307 : decode kMo_solve 307 = .ok (.invokestatic 169, 3) := by decide +kernel
theorem dMo_solve_310 : decode kMo_solve 310 = .ok (.istore 5, 2) := by decide +kernel
theorem dMo_solve_312 : decode kMo_solve 312 = .ok (.iconst 0, 1) := by decide +kernel
theorem dMo_solve_313 : decode kMo_solve 313 = .ok (.istore 6, 2) := by decide +kernel
theorem dMo_solve_315 : decode kMo_solve 315 = .ok (.iload 6, 2) := by decide +kernel
theorem dMo_solve_317 : decode kMo_solve 317 = .ok (.iconst 4, 1) := by decide +kernel
theorem dMo_solve_318 : decode kMo_solve 318 = .ok (.if_icmp .ge 36, 3) := by decide +kernel
theorem dMo_solve_321 : decode kMo_solve 321 = .ok (.aload_n 0, 1) := by decide +kernel
theorem dMo_solve_322 : decode kMo_solve 322 = .ok (.getfield 62, 3) := by decide +kernel
theorem dMo_solve_325 : decode kMo_solve 325 = .ok (.iconst 4, 1) := by decide +kernel
theorem dMo_solve_326 : decode kMo_solve 326 = .ok (.iload_n 3, 1) := by decide +kernel
theorem dMo_solve_327 : decode kMo_solve 327 = .ok (.imul, 1) := by decide +kernel
theorem dMo_solve_328 : decode kMo_solve 328 = .ok (.iload 6, 2) := by decide +kernel
theorem dMo_solve_330 : decode kMo_solve 330 = .ok (.iadd, 1) := by decide +kernel
theorem dMo_solve_331 : decode kMo_solve 331 = .ok (.iload 5, 2) := by decide +kernel
theorem dMo_solve_333 : decode kMo_solve 333 = .ok (.aload_n 0, 1) := by decide +kernel
theorem dMo_solve_334 : decode kMo_solve 334 = .ok (.getfield 62, 3) := by decide +kernel
theorem dMo_solve_337 : decode kMo_solve 337 = .ok (.iconst 4, 1) := by decide +kernel
theorem dMo_solve_338 : decode kMo_solve 338 = .ok (.iload_n 3, 1) := by decide +kernel
theorem dMo_solve_339 : decode kMo_solve 339 = .ok (.imul, 1) := by decide +kernel
theorem dMo_solve_340 : decode kMo_solve 340 = .ok (.iload 6, 2) := by decide +kernel
theorem dMo_solve_342 : decode kMo_solve 342 = .ok (.iadd, 1) := by decide +kernel
theorem dMo_solve_343 : decode kMo_solve 343 = .ok (.iaload, 1) := by decide +kernel
theorem dMo_solve_344 : decode kMo_solve 344 = .ok (.invokestatic 100, 3) := by decide +kernel
theorem dMo_solve_347 : decode kMo_solve 347 = .ok (.iastore, 1) := by decide +kernel
theorem dMo_solve_348 : decode kMo_solve 348 = .ok (.iinc 6 1, 3) := by decide +kernel
theorem dMo_solve_351 : decode kMo_solve 351 = .ok (.goto (-36), 3) := by decide +kernel
theorem dMo_solve_354 : decode kMo_solve 354 = .ok (.iconst 0, 1) := by decide +kernel
theorem dMo_solve_355 : decode kMo_solve 355 = .ok (.istore 6, 2) := by decide +kernel
theorem dMo_solve_357 : decode kMo_solve 357 = .ok (.iload 6, 2) := by decide +kernel
theorem dMo_solve_359 : decode kMo_solve 359 = .ok (.iload_n 1, 1) := by decide +kernel
theorem dMo_solve_360 : decode kMo_solve 360 = .ok (.if_icmp .ge 84, 3) := by decide +kernel
theorem dMo_solve_363 : decode kMo_solve 363 = .ok (.aload_n 0, 1) := by decide +kernel
theorem dMo_solve_364 : decode kMo_solve 364 = .ok (.getfield 62, 3) := by decide +kernel
theorem dMo_solve_367 : decode kMo_solve 367 = .ok (.iconst 4, 1) := by decide +kernel
theorem dMo_solve_368 : decode kMo_solve 368 = .ok (.iload 6, 2) := by decide +kernel
theorem dMo_solve_370 : decode kMo_solve 370 = .ok (.imul, 1) := by decide +kernel
theorem dMo_solve_371 : decode kMo_solve 371 = .ok (.iload_n 3, 1) := by decide +kernel
theorem dMo_solve_372 : decode kMo_solve 372 = .ok (.iadd, 1) := by decide +kernel
theorem dMo_solve_373 : decode kMo_solve 373 = .ok (.iaload, 1) := by decide +kernel
theorem dMo_solve_374 : decode kMo_solve 374 = .ok (.istore 7, 2) := by decide +kernel
theorem dMo_solve_376 : decode kMo_solve 376 = .ok (.iconst 0, 1) := by decide +kernel
theorem dMo_solve_377 : decode kMo_solve 377 = .ok (.istore 8, 2) := by decide +kernel
theorem dMo_solve_379 : decode kMo_solve 379 = .ok (.iload 8, 2) := by decide +kernel
theorem dMo_solve_381 : decode kMo_solve 381 = .ok (.iconst 4, 1) := by decide +kernel
theorem dMo_solve_382 : decode kMo_solve 382 = .ok (.if_icmp .ge 56, 3) := by decide +kernel
theorem dMo_solve_385 : decode kMo_solve 385 = .ok (.iload 6, 2) := by decide +kernel
theorem dMo_solve_387 : decode kMo_solve 387 = .ok (.iload_n 3, 1) := by decide +kernel
theorem dMo_solve_388 : decode kMo_solve 388 = .ok (.if_icmp .eq 50, 3) := by decide +kernel
theorem dMo_solve_391 : decode kMo_solve 391 = .ok (.aload_n 0, 1) := by decide +kernel
theorem dMo_solve_392 : decode kMo_solve 392 = .ok (.getfield 62, 3) := by decide +kernel
theorem dMo_solve_395 : decode kMo_solve 395 = .ok (.iconst 4, 1) := by decide +kernel
theorem dMo_solve_396 : decode kMo_solve 396 = .ok (.iload 6, 2) := by decide +kernel
theorem dMo_solve_398 : decode kMo_solve 398 = .ok (.imul, 1) := by decide +kernel
theorem dMo_solve_399 : decode kMo_solve 399 = .ok (.iload 8, 2) := by decide +kernel
theorem dMo_solve_401 : decode kMo_solve 401 = .ok (.iadd, 1) := by decide +kernel
theorem dMo_solve_402 : decode kMo_solve 402 = .ok (.aload_n 0, 1) := by decide +kernel
theorem dMo_solve_403 : decode kMo_solve 403 = .ok (.getfield 62, 3) := by decide +kernel
theorem dMo_solve_406 : decode kMo_solve 406 = .ok (.iconst 4, 1) := by decide +kernel
theorem dMo_solve_407 : decode kMo_solve 407 = .ok (.iload 6, 2) := by decide +kernel
theorem dMo_solve_409 : decode kMo_solve 409 = .ok (.imul, 1) := by decide +kernel
theorem dMo_solve_410 : decode kMo_solve 410 = .ok (.iload 8, 2) := by decide +kernel
theorem dMo_solve_412 : decode kMo_solve 412 = .ok (.iadd, 1) := by decide +kernel
theorem dMo_solve_413 : decode kMo_solve 413 = .ok (.iaload, 1) := by decide +kernel
theorem dMo_solve_414 : decode kMo_solve 414 = .ok (.iload 7, 2) := by decide +kernel
theorem dMo_solve_416 : decode kMo_solve 416 = .ok (.aload_n 0, 1) := by decide +kernel
theorem dMo_solve_417 : decode kMo_solve 417 = .ok (.getfield 62, 3) := by decide +kernel
theorem dMo_solve_420 : decode kMo_solve 420 = .ok (.iconst 4, 1) := by decide +kernel
theorem dMo_solve_421 : decode kMo_solve 421 = .ok (.iload_n 3, 1) := by decide +kernel
theorem dMo_solve_422 : decode kMo_solve 422 = .ok (.imul, 1) := by decide +kernel
theorem dMo_solve_423 : decode kMo_solve 423 = .ok (.iload 8, 2) := by decide +kernel
theorem dMo_solve_425 : decode kMo_solve 425 = .ok (.iadd, 1) := by decide +kernel
theorem dMo_solve_426 : decode kMo_solve 426 = .ok (.iaload, 1) := by decide +kernel
theorem dMo_solve_427 : decode kMo_solve 427 = .ok (.invokestatic 100, 3) := by decide +kernel
theorem dMo_solve_430 : decode kMo_solve 430 = .ok (.ixor, 1) := by decide +kernel
theorem dMo_solve_431 : decode kMo_solve 431 = .ok (.iastore, 1) := by decide +kernel
theorem dMo_solve_432 : decode kMo_solve 432 = .ok (.iinc 8 1, 3) := by decide +kernel
theorem dMo_solve_435 : decode kMo_solve 435 = .ok (.goto (-56), 3) := by decide +kernel
theorem dMo_solve_438 : decode kMo_solve 438 = .ok (.iinc 6 1, 3) := by decide +kernel
theorem dMo_solve_441 : decode kMo_solve 441 = .ok (.goto (-84), 3) := by decide +kernel
theorem dMo_solve_444 : decode kMo_solve 444 = .ok (.iinc 3 1, 3) := by decide +kernel
theorem dMo_solve_447 : decode kMo_solve 447 = .ok (.goto (-243), 3) := by decide +kernel
theorem dMo_solve_450 : decode kMo_solve 450 = .ok (.iconst 0, 1) := by decide +kernel
theorem dMo_solve_451 : decode kMo_solve 451 = .ok (.istore_n 3, 1) := by decide +kernel
theorem dMo_solve_452 : decode kMo_solve 452 = .ok (.iload_n 3, 1) := by decide +kernel
theorem dMo_solve_453 : decode kMo_solve 453 = .ok (.iload_n 1, 1) := by decide +kernel
theorem dMo_solve_454 : decode kMo_solve 454 = .ok (.if_icmp .ge 95, 3) := by decide +kernel
theorem dMo_solve_457 : decode kMo_solve 457 = .ok (.aload_n 0, 1) := by decide +kernel
theorem dMo_solve_458 : decode kMo_solve 458 = .ok (.getfield 56, 3) := by decide +kernel
theorem dMo_solve_461 : decode kMo_solve 461 = .ok (.iload_n 3, 1) := by decide +kernel
theorem dMo_solve_462 : decode kMo_solve 462 = .ok (.iaload, 1) := by decide +kernel
theorem dMo_solve_463 : decode kMo_solve 463 = .ok (.istore 4, 2) := by decide +kernel
theorem dMo_solve_465 : decode kMo_solve 465 = .ok (.iload_n 2, 1) := by decide +kernel
theorem dMo_solve_466 : decode kMo_solve 466 = .ok (.iconst (-1), 1) := by decide +kernel
theorem dMo_solve_467 : decode kMo_solve 467 = .ok (.if_icmp .ne 23, 3) := by decide +kernel
theorem dMo_solve_470 : decode kMo_solve 470 = .ok (.aload_n 0, 1) := by decide +kernel
theorem dMo_solve_471 : decode kMo_solve 471 = .ok (.getfield 38, 3) := by decide +kernel
theorem dMo_solve_474 : decode kMo_solve 474 = .ok (.iload 4, 2) := by decide +kernel
theorem dMo_solve_476 : decode kMo_solve 476 = .ok (.aload_n 0, 1) := by decide +kernel
theorem dMo_solve_477 : decode kMo_solve 477 = .ok (.getfield 62, 3) := by decide +kernel
theorem dMo_solve_480 : decode kMo_solve 480 = .ok (.iconst 4, 1) := by decide +kernel
theorem dMo_solve_481 : decode kMo_solve 481 = .ok (.iload_n 3, 1) := by decide +kernel
theorem dMo_solve_482 : decode kMo_solve 482 = .ok (.imul, 1) := by decide +kernel
theorem dMo_solve_483 : decode kMo_solve 483 = .ok (.iconst 3, 1) := by decide +kernel
theorem dMo_solve_484 : decode kMo_solve 484 = .ok (.iadd, 1) := by decide +kernel
theorem dMo_solve_485 : decode kMo_solve 485 = .ok (.iaload, 1) := by decide +kernel
theorem dMo_solve_486 : decode kMo_solve 486 = .ok (.iastore, 1) := by decide +kernel
theorem dMo_solve_487 : decode kMo_solve 487 = .ok (.goto 56, 3) := by decide +kernel
theorem dMo_solve_490 : decode kMo_solve 490 = .ok (.iload_n 2, 1) := by decide +kernel
theorem dMo_solve_491 : decode kMo_solve 491 = .ok (.bipush (-2), 2) := by decide +kernel
theorem dMo_solve_493 : decode kMo_solve 493 = .ok (.if_icmp .ne 23, 3) := by decide +kernel
theorem dMo_solve_496 : decode kMo_solve 496 = .ok (.aload_n 0, 1) := by decide +kernel
theorem dMo_solve_497 : decode kMo_solve 497 = .ok (.getfield 41, 3) := by decide +kernel
theorem dMo_solve_500 : decode kMo_solve 500 = .ok (.iload 4, 2) := by decide +kernel
theorem dMo_solve_502 : decode kMo_solve 502 = .ok (.aload_n 0, 1) := by decide +kernel
theorem dMo_solve_503 : decode kMo_solve 503 = .ok (.getfield 62, 3) := by decide +kernel
theorem dMo_solve_506 : decode kMo_solve 506 = .ok (.iconst 4, 1) := by decide +kernel
theorem dMo_solve_507 : decode kMo_solve 507 = .ok (.iload_n 3, 1) := by decide +kernel
theorem dMo_solve_508 : decode kMo_solve 508 = .ok (.imul, 1) := by decide +kernel
theorem dMo_solve_509 : decode kMo_solve 509 = .ok (.iconst 3, 1) := by decide +kernel
theorem dMo_solve_510 : decode kMo_solve 510 = .ok (.iadd, 1) := by decide +kernel
theorem dMo_solve_511 : decode kMo_solve 511 = .ok (.iaload, 1) := by decide +kernel
theorem dMo_solve_512 : decode kMo_solve 512 = .ok (.iastore, 1) := by decide +kernel
theorem dMo_solve_513 : decode kMo_solve 513 = .ok (.goto 30, 3) := by decide +kernel
theorem dMo_solve_516 : decode kMo_solve 516 = .ok (.aload_n 0, 1) := by decide +kernel
theorem dMo_solve_517 : decode kMo_solve 517 = .ok (.getfield 44, 3) := by decide +kernel
theorem dMo_solve_520 : decode kMo_solve 520 = .ok (.iload 4, 2) := by decide +kernel
theorem dMo_solve_522 : decode kMo_solve 522 = .ok (.aload_n 0, 1) := by decide +kernel
theorem dMo_solve_523 : decode kMo_solve 523 = .ok (.getfield 150, 3) := by decide +kernel
theorem dMo_solve_526 : decode kMo_solve 526 = .ok (.bipush 12, 2) := by decide +kernel
theorem dMo_solve_528 : decode kMo_solve 528 = .ok (.isub, 1) := by decide +kernel
theorem dMo_solve_529 : decode kMo_solve 529 = .ok (.imul, 1) := by decide +kernel
theorem dMo_solve_530 : decode kMo_solve 530 = .ok (.iload_n 2, 1) := by decide +kernel
theorem dMo_solve_531 : decode kMo_solve 531 = .ok (.iadd, 1) := by decide +kernel
theorem dMo_solve_532 : decode kMo_solve 532 = .ok (.aload_n 0, 1) := by decide +kernel
theorem dMo_solve_533 : decode kMo_solve 533 = .ok (.getfield 62, 3) := by decide +kernel
theorem dMo_solve_536 : decode kMo_solve 536 = .ok (.iconst 4, 1) := by decide +kernel
theorem dMo_solve_537 : decode kMo_solve 537 = .ok (.iload_n 3, 1) := by decide +kernel
theorem dMo_solve_538 : decode kMo_solve 538 = .ok (.imul, 1) := by decide +kernel
theorem dMo_solve_539 : decode kMo_solve 539 = .ok (.iconst 3, 1) := by decide +kernel
theorem dMo_solve_540 : decode kMo_solve 540 = .ok (.iadd, 1) := by decide +kernel
theorem dMo_solve_541 : decode kMo_solve 541 = .ok (.iaload, 1) := by decide +kernel
theorem dMo_solve_542 : decode kMo_solve 542 = .ok (.iastore, 1) := by decide +kernel
theorem dMo_solve_543 : decode kMo_solve 543 = .ok (.iinc 3 1, 3) := by decide +kernel
theorem dMo_solve_546 : decode kMo_solve 546 = .ok (.goto (-94), 3) := by decide +kernel
theorem dMo_solve_549 : decode kMo_solve 549 = .ok (.return_, 1) := by decide +kernel
theorem dMo_isKnown_0 : decode kMo_isKnown 0 = .ok (.iload_n 1, 1) := by decide +kernel
theorem dMo_isKnown_1 : decode kMo_isKnown 1 = .ok (.aload_n 0, 1) := by decide +kernel
theorem dMo_isKnown_2 : decode kMo_isKnown 2 = .ok (.getfield 150, 3) := by decide +kernel
theorem dMo_isKnown_5 : decode kMo_isKnown 5 = .ok (.bipush 12, 2) := by decide +kernel
theorem dMo_isKnown_7 : decode kMo_isKnown 7 = .ok (.isub, 1) := by decide +kernel
theorem dMo_isKnown_8 : decode kMo_isKnown 8 = .ok (.idiv, 1) := by decide +kernel
theorem dMo_isKnown_9 : decode kMo_isKnown 9 = .ok (.istore_n 2, 1) := by decide +kernel
theorem dMo_isKnown_10 : decode kMo_isKnown 10 = .ok (.iload_n 2, 1) := by decide +kernel
theorem dMo_isKnown_11 : decode kMo_isKnown 11 = .ok (.aload_n 0, 1) := by decide +kernel
theorem dMo_isKnown_12 : decode kMo_isKnown 12 = .ok (.getfield 144, 3) := by decide +kernel
theorem dMo_isKnown_15 : decode kMo_isKnown 15 = .ok (.if_icmp .ge 36, 3) := by decide +kernel
theorem dMo_isKnown_18 : decode kMo_isKnown 18 = .ok (.aload_n 0, 1) := by decide +kernel
theorem dMo_isKnown_19 : decode kMo_isKnown 19 = .ok (.getfield 35, 3) := by decide +kernel
theorem dMo_isKnown_22 : decode kMo_isKnown 22 = .ok (.iload_n 2, 1) := by decide +kernel
theorem dMo_isKnown_23 : decode kMo_isKnown 23 = .ok (.iaload, 1) := by decide +kernel
theorem dMo_isKnown_24 : decode kMo_isKnown 24 = .ok (.bipush (-2), 2) := by decide +kernel
theorem dMo_isKnown_26 : decode kMo_isKnown 26 = .ok (.if_icmp .eq 25, 3) := by decide +kernel
theorem dMo_isKnown_29 : decode kMo_isKnown 29 = .ok (.iload_n 1, 1) := by decide +kernel
theorem dMo_isKnown_30 : decode kMo_isKnown 30 = .ok (.aload_n 0, 1) := by decide +kernel
theorem dMo_isKnown_31 : decode kMo_isKnown 31 = .ok (.getfield 150, 3) := by decide +kernel
theorem dMo_isKnown_34 : decode kMo_isKnown 34 = .ok (.bipush 12, 2) := by decide +kernel
theorem dMo_isKnown_36 : decode kMo_isKnown 36 = .ok (.isub, 1) := by decide +kernel
theorem dMo_isKnown_37 : decode kMo_isKnown 37 = .ok (.irem, 1) := by decide +kernel
theorem dMo_isKnown_38 : decode kMo_isKnown 38 = .ok (.aload_n 0, 1) := by decide +kernel
theorem dMo_isKnown_39 : decode kMo_isKnown 39 = .ok (.getfield 38, 3) := by decide +kernel
theorem dMo_isKnown_42 : decode kMo_isKnown 42 = .ok (.iload_n 2, 1) := by decide +kernel
theorem dMo_isKnown_43 : decode kMo_isKnown 43 = .ok (.iaload, 1) := by decide +kernel
theorem dMo_isKnown_44 : decode kMo_isKnown 44 = .ok (.if_icmp .ge 7, 3) := by decide +kernel
theorem dMo_isKnown_47 : decode kMo_isKnown 47 = .ok (.iconst 1, 1) := by decide +kernel
theorem dMo_isKnown_48 : decode kMo_isKnown 48 = .ok (.goto 4, 3) := by decide +kernel
theorem dMo_isKnown_51 : decode kMo_isKnown 51 = .ok (.iconst 0, 1) := by decide +kernel
theorem dMo_isKnown_52 : decode kMo_isKnown 52 = .ok (.ireturn, 1) := by decide +kernel
theorem dMo_isWhole_0 : decode kMo_isWhole 0 = .ok (.iload_n 2, 1) := by decide +kernel
theorem dMo_isWhole_1 : decode kMo_isWhole 1 = .ok (.bipush 60, 2) := by decide +kernel
theorem dMo_isWhole_3 : decode kMo_isWhole 3 = .ok (.if_icmp .gt 7, 3) := by decide +kernel
theorem dMo_isWhole_6 : decode kMo_isWhole 6 = .ok (.iconst 1, 1) := by decide +kernel
theorem dMo_isWhole_7 : decode kMo_isWhole 7 = .ok (.goto 4, 3) := by decide +kernel
theorem dMo_isWhole_10 : decode kMo_isWhole 10 = .ok (.iconst 0, 1) := by decide +kernel
theorem dMo_isWhole_11 : decode kMo_isWhole 11 = .ok (.istore_n 3, 1) := by decide +kernel
theorem dMo_isWhole_12 : decode kMo_isWhole 12 = .ok (.iconst 0, 1) := by decide +kernel
theorem dMo_isWhole_13 : decode kMo_isWhole 13 = .ok (.istore 4, 2) := by decide +kernel
theorem dMo_isWhole_15 : decode kMo_isWhole 15 = .ok (.iload 4, 2) := by decide +kernel
theorem dMo_isWhole_17 : decode kMo_isWhole 17 = .ok (.iload_n 2, 1) := by decide +kernel
theorem dMo_isWhole_18 : decode kMo_isWhole 18 = .ok (.iconst 3, 1) := by decide +kernel
theorem dMo_isWhole_19 : decode kMo_isWhole 19 = .ok (.iadd, 1) := by decide +kernel
theorem dMo_isWhole_20 : decode kMo_isWhole 20 = .ok (.if_icmp .ge 22, 3) := by decide +kernel
theorem dMo_isWhole_23 : decode kMo_isWhole 23 = .ok (.iload_n 3, 1) := by decide +kernel
theorem dMo_isWhole_24 : decode kMo_isWhole 24 = .ok (.ifCond .eq 18, 3) := by decide +kernel
theorem dMo_isWhole_27 : decode kMo_isWhole 27 = .ok (.aload_n 0, 1) := by decide +kernel
theorem dMo_isWhole_28 : decode kMo_isWhole 28 = .ok (.iload_n 1, 1) := by decide +kernel
theorem dMo_isWhole_29 : decode kMo_isWhole 29 = .ok (.iload 4, 2) := by decide +kernel
theorem dMo_isWhole_31 : decode kMo_isWhole 31 = .ok (.iadd, 1) := by decide +kernel
theorem dMo_isWhole_32 : decode kMo_isWhole 32 = .ok (.invokevirtual 172, 3) := by decide +kernel
theorem dMo_isWhole_35 : decode kMo_isWhole 35 = .ok (.istore_n 3, 1) := by decide +kernel
theorem dMo_isWhole_36 : decode kMo_isWhole 36 = .ok (.iinc 4 1, 3) := by decide +kernel
theorem dMo_isWhole_39 : decode kMo_isWhole 39 = .ok (.goto (-24), 3) := by decide +kernel
theorem dMo_isWhole_42 : decode kMo_isWhole 42 = .ok (.iload_n 3, 1) := by decide +kernel
theorem dMo_isWhole_43 : decode kMo_isWhole 43 = .ok (.ifCond .eq 42, 3) := by decide +kernel
theorem dMo_isWhole_46 : decode kMo_isWhole 46 = .ok (.aload_n 0, 1) := by decide +kernel
theorem dMo_isWhole_47 : decode kMo_isWhole 47 = .ok (.getfield 44, 3) := by decide +kernel
theorem dMo_isWhole_50 : decode kMo_isWhole 50 = .ok (.iload_n 1, 1) := by decide +kernel
theorem dMo_isWhole_51 : decode kMo_isWhole 51 = .ok (.iconst 3, 1) := by decide +kernel
theorem dMo_isWhole_52 : decode kMo_isWhole 52 = .ok (.iadd, 1) := by decide +kernel
theorem dMo_isWhole_53 : decode kMo_isWhole 53 = .ok (.iload_n 2, 1) := by decide +kernel
theorem dMo_isWhole_54 : decode kMo_isWhole 54 = .ok (.invokestatic 80, 3) := by decide +kernel
theorem dMo_isWhole_57 : decode kMo_isWhole 57 = .ok (.aload_n 0, 1) := by decide +kernel
theorem dMo_isWhole_58 : decode kMo_isWhole 58 = .ok (.getfield 44, 3) := by decide +kernel
theorem dMo_isWhole_61 : decode kMo_isWhole 61 = .ok (.iload_n 1, 1) := by decide +kernel
theorem dMo_isWhole_62 : decode kMo_isWhole 62 = .ok (.iconst 1, 1) := by decide +kernel
theorem dMo_isWhole_63 : decode kMo_isWhole 63 = .ok (.iadd, 1) := by decide +kernel
theorem dMo_isWhole_64 : decode kMo_isWhole 64 = .ok (.iaload, 1) := by decide +kernel
theorem dMo_isWhole_65 : decode kMo_isWhole 65 = .ok (.sipush 256, 3) := by decide +kernel
theorem dMo_isWhole_68 : decode kMo_isWhole 68 = .ok (.aload_n 0, 1) := by decide +kernel
theorem dMo_isWhole_69 : decode kMo_isWhole 69 = .ok (.getfield 44, 3) := by decide +kernel
theorem dMo_isWhole_72 : decode kMo_isWhole 72 = .ok (.iload_n 1, 1) := by decide +kernel
theorem dMo_isWhole_73 : decode kMo_isWhole 73 = .ok (.iconst 2, 1) := by decide +kernel
theorem dMo_isWhole_74 : decode kMo_isWhole 74 = .ok (.iadd, 1) := by decide +kernel
theorem dMo_isWhole_75 : decode kMo_isWhole 75 = .ok (.iaload, 1) := by decide +kernel
theorem dMo_isWhole_76 : decode kMo_isWhole 76 = .ok (.imul, 1) := by decide +kernel
theorem dMo_isWhole_77 : decode kMo_isWhole 77 = .ok (.iadd, 1) := by decide +kernel
theorem dMo_isWhole_78 : decode kMo_isWhole 78 = .ok (.if_icmp .ne 7, 3) := by decide +kernel
theorem dMo_isWhole_81 : decode kMo_isWhole 81 = .ok (.iconst 1, 1) := by decide +kernel
theorem dMo_isWhole_82 : decode kMo_isWhole 82 = .ok (.goto 4, 3) := by decide +kernel
theorem dMo_isWhole_85 : decode kMo_isWhole 85 = .ok (.iconst 0, 1) := by decide +kernel
theorem dMo_isWhole_86 : decode kMo_isWhole 86 = .ok (.ireturn, 1) := by decide +kernel
theorem dMo_open_0 : decode kMo_open 0 = .ok (.aload_n 0, 1) := by decide +kernel
theorem dMo_open_1 : decode kMo_open 1 = .ok (.iconst 0, 1) := by decide +kernel
theorem dMo_open_2 : decode kMo_open 2 = .ok (.putfield 175, 3) := by decide +kernel
theorem dMo_open_5 : decode kMo_open 5 = .ok (.aload_n 0, 1) := by decide +kernel
theorem dMo_open_6 : decode kMo_open 6 = .ok (.iconst 0, 1) := by decide +kernel
theorem dMo_open_7 : decode kMo_open 7 = .ok (.putfield 178, 3) := by decide +kernel
theorem dMo_open_10 : decode kMo_open 10 = .ok (.iconst 0, 1) := by decide +kernel
theorem dMo_open_11 : decode kMo_open 11 = .ok (.istore_n 1, 1) := by decide +kernel
theorem dMo_open_12 : decode kMo_open 12 = .ok (.aload_n 0, 1) := by decide +kernel
theorem dMo_open_13 : decode kMo_open 13 = .ok (.getfield 175, 3) := by decide +kernel
theorem dMo_open_16 : decode kMo_open 16 = .ok (.bipush 40, 2) := by decide +kernel
theorem dMo_open_18 : decode kMo_open 18 = .ok (.if_icmp .ge 184, 3) := by decide +kernel
theorem dMo_open_21 : decode kMo_open 21 = .ok (.aload_n 0, 1) := by decide +kernel
theorem dMo_open_22 : decode kMo_open 22 = .ok (.iload_n 1, 1) := by decide +kernel
theorem dMo_open_23 : decode kMo_open 23 = .ok (.invokevirtual 172, 3) := by decide +kernel
theorem dMo_open_26 : decode kMo_open 26 = .ok (.ifCond .eq 95, 3) := by decide +kernel
theorem dMo_open_29 : decode kMo_open 29 = .ok (.aload_n 0, 1) := by decide +kernel
theorem dMo_open_30 : decode kMo_open 30 = .ok (.getfield 44, 3) := by decide +kernel
theorem dMo_open_33 : decode kMo_open 33 = .ok (.iload_n 1, 1) := by decide +kernel
theorem dMo_open_34 : decode kMo_open 34 = .ok (.iaload, 1) := by decide +kernel
theorem dMo_open_35 : decode kMo_open 35 = .ok (.istore_n 2, 1) := by decide +kernel
theorem dMo_open_36 : decode kMo_open 36 = .ok (.aload_n 0, 1) := by decide +kernel
theorem dMo_open_37 : decode kMo_open 37 = .ok (.iload_n 1, 1) := by decide +kernel
theorem dMo_open_38 : decode kMo_open 38 = .ok (.iload_n 2, 1) := by decide +kernel
theorem dMo_open_39 : decode kMo_open 39 = .ok (.invokevirtual 181, 3) := by decide +kernel
theorem dMo_open_42 : decode kMo_open 42 = .ok (.istore_n 3, 1) := by decide +kernel
theorem dMo_open_43 : decode kMo_open 43 = .ok (.aload_n 0, 1) := by decide +kernel
theorem dMo_open_44 : decode kMo_open 44 = .ok (.getfield 47, 3) := by decide +kernel
theorem dMo_open_47 : decode kMo_open 47 = .ok (.aload_n 0, 1) := by decide +kernel
theorem dMo_open_48 : decode kMo_open 48 = .ok (.getfield 175, 3) := by decide +kernel
theorem dMo_open_51 : decode kMo_open 51 = .ok (.iload_n 1, 1) := by decide +kernel
theorem dMo_open_52 : decode kMo_open 52 = .ok (.iastore, 1) := by decide +kernel
theorem dMo_open_53 : decode kMo_open 53 = .ok (.aload_n 0, 1) := by decide +kernel
theorem dMo_open_54 : decode kMo_open 54 = .ok (.getfield 50, 3) := by decide +kernel
theorem dMo_open_57 : decode kMo_open 57 = .ok (.aload_n 0, 1) := by decide +kernel
theorem dMo_open_58 : decode kMo_open 58 = .ok (.getfield 175, 3) := by decide +kernel
theorem dMo_open_61 : decode kMo_open 61 = .ok (.iload_n 2, 1) := by decide +kernel
theorem dMo_open_62 : decode kMo_open 62 = .ok (.iastore, 1) := by decide +kernel
theorem dMo_open_63 : decode kMo_open 63 = .ok (.aload_n 0, 1) := by decide +kernel
theorem dMo_open_64 : decode kMo_open 64 = .ok (.getfield 53, 3) := by decide +kernel
theorem dMo_open_67 : decode kMo_open 67 = .ok (.aload_n 0, 1) := by decide +kernel
theorem dMo_open_68 : decode kMo_open 68 = .ok (.getfield 175, 3) := by decide +kernel
theorem dMo_open_71 : decode kMo_open 71 = .ok (.iload_n 3, 1) := by decide +kernel
theorem dMo_open_72 : decode kMo_open 72 = .ok (.ifCond .eq 7, 3) := by decide +kernel
theorem dMo_open_75 : decode kMo_open 75 = .ok (.iconst 1, 1) := by decide +kernel
theorem dMo_open_76 : decode kMo_open 76 = .ok (.goto 4, 3) := by decide +kernel
theorem dMo_open_79 : decode kMo_open 79 = .ok (.iconst 0, 1) := by decide +kernel
theorem dMo_open_80 : decode kMo_open 80 = .ok (.iastore, 1) := by decide +kernel
theorem dMo_open_81 : decode kMo_open 81 = .ok (.aload_n 0, 1) := by decide +kernel
theorem dMo_open_82 : decode kMo_open 82 = .ok (.dup, 1) := by decide +kernel
theorem dMo_open_83 : decode kMo_open 83 = .ok (.getfield 175, 3) := by decide +kernel
theorem dMo_open_86 : decode kMo_open 86 = .ok (.iconst 1, 1) := by decide +kernel
theorem dMo_open_87 : decode kMo_open 87 = .ok (.iadd, 1) := by decide +kernel
theorem dMo_open_88 : decode kMo_open 88 = .ok (.putfield 175, 3) := by decide +kernel
theorem dMo_open_91 : decode kMo_open 91 = .ok (.aload_n 0, 1) := by decide +kernel
theorem dMo_open_92 : decode kMo_open 92 = .ok (.iload_n 3, 1) := by decide +kernel
theorem dMo_open_93 : decode kMo_open 93 = .ok (.ifCond .eq 12, 3) := by decide +kernel
theorem dMo_open_96 : decode kMo_open 96 = .ok (.aload_n 0, 1) := by decide +kernel
theorem dMo_open_97 : decode kMo_open 97 = .ok (.getfield 178, 3) := by decide +kernel
theorem dMo_open_100 : decode kMo_open 100 = .ok (.iconst 1, 1) := by decide +kernel
theorem dMo_open_101 : decode kMo_open 101 = .ok (.iadd, 1) := by decide +kernel
theorem dMo_open_102 : decode kMo_open 102 = .ok (.goto 7, 3) := by decide +kernel
theorem dMo_open_105 : decode kMo_open 105 = .ok (.aload_n 0, 1) := by decide +kernel
theorem dMo_open_106 : decode kMo_open 106 = .ok (.getfield 178, 3) := by decide +kernel
theorem dMo_open_109 : decode kMo_open 109 = .ok (.putfield 178, 3) := by decide +kernel
theorem dMo_open_112 : decode kMo_open 112 = .ok (.iload_n 1, 1) := by decide +kernel
theorem dMo_open_113 : decode kMo_open 113 = .ok (.iload_n 2, 1) := by decide +kernel
theorem dMo_open_114 : decode kMo_open 114 = .ok (.iadd, 1) := by decide +kernel
theorem dMo_open_115 : decode kMo_open 115 = .ok (.iconst 3, 1) := by decide +kernel
theorem dMo_open_116 : decode kMo_open 116 = .ok (.iadd, 1) := by decide +kernel
theorem dMo_open_117 : decode kMo_open 117 = .ok (.istore_n 1, 1) := by decide +kernel
theorem dMo_open_118 : decode kMo_open 118 = .ok (.goto (-106), 3) := by decide +kernel
theorem dMo_open_121 : decode kMo_open 121 = .ok (.iload_n 1, 1) := by decide +kernel
theorem dMo_open_122 : decode kMo_open 122 = .ok (.aload_n 0, 1) := by decide +kernel
theorem dMo_open_123 : decode kMo_open 123 = .ok (.getfield 150, 3) := by decide +kernel
theorem dMo_open_126 : decode kMo_open 126 = .ok (.bipush 12, 2) := by decide +kernel
theorem dMo_open_128 : decode kMo_open 128 = .ok (.isub, 1) := by decide +kernel
theorem dMo_open_129 : decode kMo_open 129 = .ok (.idiv, 1) := by decide +kernel
theorem dMo_open_130 : decode kMo_open 130 = .ok (.iconst 1, 1) := by decide +kernel
theorem dMo_open_131 : decode kMo_open 131 = .ok (.iadd, 1) := by decide +kernel
theorem dMo_open_132 : decode kMo_open 132 = .ok (.istore_n 2, 1) := by decide +kernel
theorem dMo_open_133 : decode kMo_open 133 = .ok (.iload_n 2, 1) := by decide +kernel
theorem dMo_open_134 : decode kMo_open 134 = .ok (.aload_n 0, 1) := by decide +kernel
theorem dMo_open_135 : decode kMo_open 135 = .ok (.getfield 144, 3) := by decide +kernel
theorem dMo_open_138 : decode kMo_open 138 = .ok (.if_icmp .ge 35, 3) := by decide +kernel
theorem dMo_open_141 : decode kMo_open 141 = .ok (.aload_n 0, 1) := by decide +kernel
theorem dMo_open_142 : decode kMo_open 142 = .ok (.getfield 35, 3) := by decide +kernel
theorem dMo_open_145 : decode kMo_open 145 = .ok (.iload_n 2, 1) := by decide +kernel
theorem dMo_open_146 : decode kMo_open 146 = .ok (.iaload, 1) := by decide +kernel
theorem dMo_open_147 : decode kMo_open 147 = .ok (.bipush (-2), 2) := by decide +kernel
theorem dMo_open_149 : decode kMo_open 149 = .ok (.if_icmp .eq 18, 3) := by decide +kernel
theorem dMo_open_152 : decode kMo_open 152 = .ok (.aload_n 0, 1) := by decide +kernel
theorem dMo_open_153 : decode kMo_open 153 = .ok (.getfield 41, 3) := by decide +kernel
theorem dMo_open_156 : decode kMo_open 156 = .ok (.iload_n 2, 1) := by decide +kernel
theorem dMo_open_157 : decode kMo_open 157 = .ok (.iaload, 1) := by decide +kernel
theorem dMo_open_158 : decode kMo_open 158 = .ok (.aload_n 0, 1) := by decide +kernel
theorem dMo_open_159 : decode kMo_open 159 = .ok (.getfield 38, 3) := by decide +kernel
theorem dMo_open_162 : decode kMo_open 162 = .ok (.iload_n 2, 1) := by decide +kernel
theorem dMo_open_163 : decode kMo_open 163 = .ok (.iaload, 1) := by decide +kernel
theorem dMo_open_164 : decode kMo_open 164 = .ok (.if_icmp .lt 9, 3) := by decide +kernel
theorem dMo_open_167 : decode kMo_open 167 = .ok (.iinc 2 1, 3) := by decide +kernel
theorem dMo_open_170 : decode kMo_open 170 = .ok (.goto (-37), 3) := by decide +kernel
theorem dMo_open_173 : decode kMo_open 173 = .ok (.iload_n 2, 1) := by decide +kernel
theorem dMo_open_174 : decode kMo_open 174 = .ok (.aload_n 0, 1) := by decide +kernel
theorem dMo_open_175 : decode kMo_open 175 = .ok (.getfield 144, 3) := by decide +kernel
theorem dMo_open_178 : decode kMo_open 178 = .ok (.if_icmp .lt 4, 3) := by decide +kernel
theorem dMo_open_181 : decode kMo_open 181 = .ok (.return_, 1) := by decide +kernel
theorem dMo_open_182 : decode kMo_open 182 = .ok (.iload_n 2, 1) := by decide +kernel
theorem dMo_open_183 : decode kMo_open 183 = .ok (.aload_n 0, 1) := by decide +kernel
theorem dMo_open_184 : decode kMo_open 184 = .ok (.getfield 150, 3) := by decide +kernel
theorem dMo_open_187 : decode kMo_open 187 = .ok (.bipush 12, 2) := by decide +kernel
theorem dMo_open_189 : decode kMo_open 189 = .ok (.isub, 1) := by decide +kernel
theorem dMo_open_190 : decode kMo_open 190 = .ok (.imul, 1) := by decide +kernel
theorem dMo_open_191 : decode kMo_open 191 = .ok (.aload_n 0, 1) := by decide +kernel
theorem dMo_open_192 : decode kMo_open 192 = .ok (.getfield 41, 3) := by decide +kernel
theorem dMo_open_195 : decode kMo_open 195 = .ok (.iload_n 2, 1) := by decide +kernel
theorem dMo_open_196 : decode kMo_open 196 = .ok (.iaload, 1) := by decide +kernel
theorem dMo_open_197 : decode kMo_open 197 = .ok (.iadd, 1) := by decide +kernel
theorem dMo_open_198 : decode kMo_open 198 = .ok (.istore_n 1, 1) := by decide +kernel
theorem dMo_open_199 : decode kMo_open 199 = .ok (.goto (-187), 3) := by decide +kernel
theorem dMo_open_202 : decode kMo_open 202 = .ok (.return_, 1) := by decide +kernel
theorem dMo_found_0 : decode kMo_found 0 = .ok (.aload_n 0, 1) := by decide +kernel
theorem dMo_found_1 : decode kMo_found 1 = .ok (.iconst 0, 1) := by decide +kernel
theorem dMo_found_2 : decode kMo_found 2 = .ok (.putfield 1, 3) := by decide +kernel
theorem dMo_found_5 : decode kMo_found 5 = .ok (.iload_n 1, 1) := by decide +kernel
theorem dMo_found_6 : decode kMo_found 6 = .ok (.iconst 0, 1) := by decide +kernel
theorem dMo_found_7 : decode kMo_found 7 = .ok (.iconst 5, 1) := by decide +kernel
theorem dMo_found_8 : decode kMo_found 8 = .ok (.invokestatic 68, 3) := by decide +kernel
theorem dMo_found_11 : decode kMo_found 11 = .ok (.ifCond .ne 5, 3) := by decide +kernel
theorem dMo_found_14 : decode kMo_found 14 = .ok (.iconst (-1), 1) := by decide +kernel
theorem dMo_found_15 : decode kMo_found 15 = .ok (.ireturn, 1) := by decide +kernel
theorem dMo_found_16 : decode kMo_found 16 = .ok (.aload_n 0, 1) := by decide +kernel
theorem dMo_found_17 : decode kMo_found 17 = .ok (.getfield 140, 3) := by decide +kernel
theorem dMo_found_20 : decode kMo_found 20 = .ok (.ifCond .ne 6, 3) := by decide +kernel
theorem dMo_found_23 : decode kMo_found 23 = .ok (.bipush (-2), 2) := by decide +kernel
theorem dMo_found_25 : decode kMo_found 25 = .ok (.ireturn, 1) := by decide +kernel
theorem dMo_found_26 : decode kMo_found 26 = .ok (.iload_n 1, 1) := by decide +kernel
theorem dMo_found_27 : decode kMo_found 27 = .ok (.ifCond .ne 10, 3) := by decide +kernel
theorem dMo_found_30 : decode kMo_found 30 = .ok (.aload_n 0, 1) := by decide +kernel
theorem dMo_found_31 : decode kMo_found 31 = .ok (.getfield 144, 3) := by decide +kernel
theorem dMo_found_34 : decode kMo_found 34 = .ok (.goto 55, 3) := by decide +kernel
theorem dMo_found_37 : decode kMo_found 37 = .ok (.iload_n 1, 1) := by decide +kernel
theorem dMo_found_38 : decode kMo_found 38 = .ok (.iconst 1, 1) := by decide +kernel
theorem dMo_found_39 : decode kMo_found 39 = .ok (.if_icmp .ne 10, 3) := by decide +kernel
theorem dMo_found_42 : decode kMo_found 42 = .ok (.aload_n 0, 1) := by decide +kernel
theorem dMo_found_43 : decode kMo_found 43 = .ok (.getfield 147, 3) := by decide +kernel
theorem dMo_found_46 : decode kMo_found 46 = .ok (.goto 43, 3) := by decide +kernel
theorem dMo_found_49 : decode kMo_found 49 = .ok (.iload_n 1, 1) := by decide +kernel
theorem dMo_found_50 : decode kMo_found 50 = .ok (.iconst 2, 1) := by decide +kernel
theorem dMo_found_51 : decode kMo_found 51 = .ok (.if_icmp .ne 10, 3) := by decide +kernel
theorem dMo_found_54 : decode kMo_found 54 = .ok (.aload_n 0, 1) := by decide +kernel
theorem dMo_found_55 : decode kMo_found 55 = .ok (.getfield 150, 3) := by decide +kernel
theorem dMo_found_58 : decode kMo_found 58 = .ok (.goto 31, 3) := by decide +kernel
theorem dMo_found_61 : decode kMo_found 61 = .ok (.iload_n 1, 1) := by decide +kernel
theorem dMo_found_62 : decode kMo_found 62 = .ok (.iconst 3, 1) := by decide +kernel
theorem dMo_found_63 : decode kMo_found 63 = .ok (.if_icmp .ne 10, 3) := by decide +kernel
theorem dMo_found_66 : decode kMo_found 66 = .ok (.aload_n 0, 1) := by decide +kernel
theorem dMo_found_67 : decode kMo_found 67 = .ok (.getfield 159, 3) := by decide +kernel
theorem dMo_found_70 : decode kMo_found 70 = .ok (.goto 19, 3) := by decide +kernel
theorem dMo_found_73 : decode kMo_found 73 = .ok (.iload_n 1, 1) := by decide +kernel
theorem dMo_found_74 : decode kMo_found 74 = .ok (.iconst 4, 1) := by decide +kernel
theorem dMo_found_75 : decode kMo_found 75 = .ok (.if_icmp .ne 10, 3) := by decide +kernel
theorem dMo_found_78 : decode kMo_found 78 = .ok (.aload_n 0, 1) := by decide +kernel
theorem dMo_found_79 : decode kMo_found 79 = .ok (.getfield 175, 3) := by decide +kernel
theorem dMo_found_82 : decode kMo_found 82 = .ok (.goto 7, 3) := by decide +kernel
theorem dMo_found_85 : decode kMo_found 85 = .ok (.aload_n 0, 1) := by decide +kernel
theorem dMo_found_86 : decode kMo_found 86 = .ok (.getfield 178, 3) := by decide +kernel
theorem dMo_found_89 : decode kMo_found 89 = .ok (.ireturn, 1) := by decide +kernel
theorem dMo_where_0 : decode kMo_where 0 = .ok (.aload_n 0, 1) := by decide +kernel
theorem dMo_where_1 : decode kMo_where 1 = .ok (.iconst 0, 1) := by decide +kernel
theorem dMo_where_2 : decode kMo_where 2 = .ok (.putfield 1, 3) := by decide +kernel
theorem dMo_where_5 : decode kMo_where 5 = .ok (.aload_n 0, 1) := by decide +kernel
theorem dMo_where_6 : decode kMo_where 6 = .ok (.getfield 140, 3) := by decide +kernel
theorem dMo_where_9 : decode kMo_where 9 = .ok (.ifCond .eq 22, 3) := by decide +kernel
theorem dMo_where_12 : decode kMo_where 12 = .ok (.iload_n 1, 1) := by decide +kernel
theorem dMo_where_13 : decode kMo_where 13 = .ok (.iconst 0, 1) := by decide +kernel
theorem dMo_where_14 : decode kMo_where 14 = .ok (.aload_n 0, 1) := by decide +kernel
theorem dMo_where_15 : decode kMo_where 15 = .ok (.getfield 144, 3) := by decide +kernel
theorem dMo_where_18 : decode kMo_where 18 = .ok (.aload_n 0, 1) := by decide +kernel
theorem dMo_where_19 : decode kMo_where 19 = .ok (.getfield 147, 3) := by decide +kernel
theorem dMo_where_22 : decode kMo_where 22 = .ok (.iadd, 1) := by decide +kernel
theorem dMo_where_23 : decode kMo_where 23 = .ok (.iconst 1, 1) := by decide +kernel
theorem dMo_where_24 : decode kMo_where 24 = .ok (.isub, 1) := by decide +kernel
theorem dMo_where_25 : decode kMo_where 25 = .ok (.invokestatic 68, 3) := by decide +kernel
theorem dMo_where_28 : decode kMo_where 28 = .ok (.ifCond .ne 7, 3) := by decide +kernel
theorem dMo_where_31 : decode kMo_where 31 = .ok (.iconst (-1), 1) := by decide +kernel
theorem dMo_where_32 : decode kMo_where 32 = .ok (.goto 9, 3) := by decide +kernel
theorem dMo_where_35 : decode kMo_where 35 = .ok (.aload_n 0, 1) := by decide +kernel
theorem dMo_where_36 : decode kMo_where 36 = .ok (.getfield 35, 3) := by decide +kernel
theorem dMo_where_39 : decode kMo_where 39 = .ok (.iload_n 1, 1) := by decide +kernel
theorem dMo_where_40 : decode kMo_where 40 = .ok (.iaload, 1) := by decide +kernel
theorem dMo_where_41 : decode kMo_where 41 = .ok (.ireturn, 1) := by decide +kernel
theorem dMo_got_0 : decode kMo_got 0 = .ok (.aload_n 0, 1) := by decide +kernel
theorem dMo_got_1 : decode kMo_got 1 = .ok (.iconst 0, 1) := by decide +kernel
theorem dMo_got_2 : decode kMo_got 2 = .ok (.putfield 1, 3) := by decide +kernel
theorem dMo_got_5 : decode kMo_got 5 = .ok (.aload_n 0, 1) := by decide +kernel
theorem dMo_got_6 : decode kMo_got 6 = .ok (.getfield 140, 3) := by decide +kernel
theorem dMo_got_9 : decode kMo_got 9 = .ok (.ifCond .eq 25, 3) := by decide +kernel
theorem dMo_got_12 : decode kMo_got 12 = .ok (.iload_n 1, 1) := by decide +kernel
theorem dMo_got_13 : decode kMo_got 13 = .ok (.iconst 0, 1) := by decide +kernel
theorem dMo_got_14 : decode kMo_got 14 = .ok (.aload_n 0, 1) := by decide +kernel
theorem dMo_got_15 : decode kMo_got 15 = .ok (.getfield 144, 3) := by decide +kernel
theorem dMo_got_18 : decode kMo_got 18 = .ok (.aload_n 0, 1) := by decide +kernel
theorem dMo_got_19 : decode kMo_got 19 = .ok (.getfield 150, 3) := by decide +kernel
theorem dMo_got_22 : decode kMo_got 22 = .ok (.bipush 12, 2) := by decide +kernel
theorem dMo_got_24 : decode kMo_got 24 = .ok (.isub, 1) := by decide +kernel
theorem dMo_got_25 : decode kMo_got 25 = .ok (.imul, 1) := by decide +kernel
theorem dMo_got_26 : decode kMo_got 26 = .ok (.iconst 1, 1) := by decide +kernel
theorem dMo_got_27 : decode kMo_got 27 = .ok (.isub, 1) := by decide +kernel
theorem dMo_got_28 : decode kMo_got 28 = .ok (.invokestatic 68, 3) := by decide +kernel
theorem dMo_got_31 : decode kMo_got 31 = .ok (.ifCond .ne 5, 3) := by decide +kernel
theorem dMo_got_34 : decode kMo_got 34 = .ok (.iconst (-1), 1) := by decide +kernel
theorem dMo_got_35 : decode kMo_got 35 = .ok (.ireturn, 1) := by decide +kernel
theorem dMo_got_36 : decode kMo_got 36 = .ok (.aload_n 0, 1) := by decide +kernel
theorem dMo_got_37 : decode kMo_got 37 = .ok (.iload_n 1, 1) := by decide +kernel
theorem dMo_got_38 : decode kMo_got 38 = .ok (.invokevirtual 172, 3) := by decide +kernel
theorem dMo_got_41 : decode kMo_got 41 = .ok (.ifCond .eq 12, 3) := by decide +kernel
theorem dMo_got_44 : decode kMo_got 44 = .ok (.aload_n 0, 1) := by decide +kernel
theorem dMo_got_45 : decode kMo_got 45 = .ok (.getfield 44, 3) := by decide +kernel
theorem dMo_got_48 : decode kMo_got 48 = .ok (.iload_n 1, 1) := by decide +kernel
theorem dMo_got_49 : decode kMo_got 49 = .ok (.iaload, 1) := by decide +kernel
theorem dMo_got_50 : decode kMo_got 50 = .ok (.goto 5, 3) := by decide +kernel
theorem dMo_got_53 : decode kMo_got 53 = .ok (.bipush (-2), 2) := by decide +kernel
theorem dMo_got_55 : decode kMo_got 55 = .ok (.ireturn, 1) := by decide +kernel
theorem dMo_opened_0 : decode kMo_opened 0 = .ok (.aload_n 0, 1) := by decide +kernel
theorem dMo_opened_1 : decode kMo_opened 1 = .ok (.iconst 0, 1) := by decide +kernel
theorem dMo_opened_2 : decode kMo_opened 2 = .ok (.putfield 1, 3) := by decide +kernel
theorem dMo_opened_5 : decode kMo_opened 5 = .ok (.aload_n 0, 1) := by decide +kernel
theorem dMo_opened_6 : decode kMo_opened 6 = .ok (.getfield 140, 3) := by decide +kernel
theorem dMo_opened_9 : decode kMo_opened 9 = .ok (.ifCond .eq 26, 3) := by decide +kernel
theorem dMo_opened_12 : decode kMo_opened 12 = .ok (.iload_n 1, 1) := by decide +kernel
theorem dMo_opened_13 : decode kMo_opened 13 = .ok (.iconst 0, 1) := by decide +kernel
theorem dMo_opened_14 : decode kMo_opened 14 = .ok (.aload_n 0, 1) := by decide +kernel
theorem dMo_opened_15 : decode kMo_opened 15 = .ok (.getfield 175, 3) := by decide +kernel
theorem dMo_opened_18 : decode kMo_opened 18 = .ok (.iconst 1, 1) := by decide +kernel
theorem dMo_opened_19 : decode kMo_opened 19 = .ok (.isub, 1) := by decide +kernel
theorem dMo_opened_20 : decode kMo_opened 20 = .ok (.invokestatic 68, 3) := by decide +kernel
theorem dMo_opened_23 : decode kMo_opened 23 = .ok (.ifCond .eq 12, 3) := by decide +kernel
theorem dMo_opened_26 : decode kMo_opened 26 = .ok (.iload_n 2, 1) := by decide +kernel
theorem dMo_opened_27 : decode kMo_opened 27 = .ok (.iconst 0, 1) := by decide +kernel
theorem dMo_opened_28 : decode kMo_opened 28 = .ok (.iconst 2, 1) := by decide +kernel
theorem dMo_opened_29 : decode kMo_opened 29 = .ok (.invokestatic 68, 3) := by decide +kernel
theorem dMo_opened_32 : decode kMo_opened 32 = .ok (.ifCond .ne 5, 3) := by decide +kernel
theorem dMo_opened_35 : decode kMo_opened 35 = .ok (.iconst (-1), 1) := by decide +kernel
theorem dMo_opened_36 : decode kMo_opened 36 = .ok (.ireturn, 1) := by decide +kernel
theorem dMo_opened_37 : decode kMo_opened 37 = .ok (.iload_n 2, 1) := by decide +kernel
theorem dMo_opened_38 : decode kMo_opened 38 = .ok (.ifCond .ne 12, 3) := by decide +kernel
theorem dMo_opened_41 : decode kMo_opened 41 = .ok (.aload_n 0, 1) := by decide +kernel
theorem dMo_opened_42 : decode kMo_opened 42 = .ok (.getfield 47, 3) := by decide +kernel
theorem dMo_opened_45 : decode kMo_opened 45 = .ok (.iload_n 1, 1) := by decide +kernel
theorem dMo_opened_46 : decode kMo_opened 46 = .ok (.iaload, 1) := by decide +kernel
theorem dMo_opened_47 : decode kMo_opened 47 = .ok (.goto 23, 3) := by decide +kernel
theorem dMo_opened_50 : decode kMo_opened 50 = .ok (.iload_n 2, 1) := by decide +kernel
theorem dMo_opened_51 : decode kMo_opened 51 = .ok (.iconst 1, 1) := by decide +kernel
theorem dMo_opened_52 : decode kMo_opened 52 = .ok (.if_icmp .ne 12, 3) := by decide +kernel
theorem dMo_opened_55 : decode kMo_opened 55 = .ok (.aload_n 0, 1) := by decide +kernel
theorem dMo_opened_56 : decode kMo_opened 56 = .ok (.getfield 50, 3) := by decide +kernel
theorem dMo_opened_59 : decode kMo_opened 59 = .ok (.iload_n 1, 1) := by decide +kernel
theorem dMo_opened_60 : decode kMo_opened 60 = .ok (.iaload, 1) := by decide +kernel
theorem dMo_opened_61 : decode kMo_opened 61 = .ok (.goto 9, 3) := by decide +kernel
theorem dMo_opened_64 : decode kMo_opened 64 = .ok (.aload_n 0, 1) := by decide +kernel
theorem dMo_opened_65 : decode kMo_opened 65 = .ok (.getfield 53, 3) := by decide +kernel
theorem dMo_opened_68 : decode kMo_opened 68 = .ok (.iload_n 1, 1) := by decide +kernel
theorem dMo_opened_69 : decode kMo_opened 69 = .ok (.iaload, 1) := by decide +kernel
theorem dMo_opened_70 : decode kMo_opened 70 = .ok (.ireturn, 1) := by decide +kernel
theorem dMo_count_0 : decode kMo_count 0 = .ok (.aload_n 0, 1) := by decide +kernel
theorem dMo_count_1 : decode kMo_count 1 = .ok (.iconst 0, 1) := by decide +kernel
theorem dMo_count_2 : decode kMo_count 2 = .ok (.putfield 1, 3) := by decide +kernel
theorem dMo_count_5 : decode kMo_count 5 = .ok (.iconst 0, 1) := by decide +kernel
theorem dMo_count_6 : decode kMo_count 6 = .ok (.istore_n 2, 1) := by decide +kernel
theorem dMo_count_7 : decode kMo_count 7 = .ok (.iload_n 1, 1) := by decide +kernel
theorem dMo_count_8 : decode kMo_count 8 = .ok (.tableswitch 125 0 8 #[52, 57, 62, 67, 75, 75, 110, 115, 120], 52) := by decide +kernel
theorem dMo_count_60 : decode kMo_count 60 = .ok (.aload_n 0, 1) := by decide +kernel
theorem dMo_count_61 : decode kMo_count 61 = .ok (.getfield 77, 3) := by decide +kernel
theorem dMo_count_64 : decode kMo_count 64 = .ok (.ireturn, 1) := by decide +kernel
theorem dMo_count_65 : decode kMo_count 65 = .ok (.aload_n 0, 1) := by decide +kernel
theorem dMo_count_66 : decode kMo_count 66 = .ok (.invokevirtual 90, 3) := by decide +kernel
theorem dMo_count_69 : decode kMo_count 69 = .ok (.ireturn, 1) := by decide +kernel
theorem dMo_count_70 : decode kMo_count 70 = .ok (.aload_n 0, 1) := by decide +kernel
theorem dMo_count_71 : decode kMo_count 71 = .ok (.getfield 65, 3) := by decide +kernel
theorem dMo_count_74 : decode kMo_count 74 = .ok (.ireturn, 1) := by decide +kernel
theorem dMo_count_75 : decode kMo_count 75 = .ok (.bipush 60, 2) := by decide +kernel
theorem dMo_count_77 : decode kMo_count 77 = .ok (.aload_n 0, 1) := by decide +kernel
theorem dMo_count_78 : decode kMo_count 78 = .ok (.invokevirtual 124, 3) := by decide +kernel
theorem dMo_count_81 : decode kMo_count 81 = .ok (.isub, 1) := by decide +kernel
theorem dMo_count_82 : decode kMo_count 82 = .ok (.ireturn, 1) := by decide +kernel
theorem dMo_count_83 : decode kMo_count 83 = .ok (.iconst 0, 1) := by decide +kernel
theorem dMo_count_84 : decode kMo_count 84 = .ok (.istore_n 3, 1) := by decide +kernel
theorem dMo_count_85 : decode kMo_count 85 = .ok (.iload_n 3, 1) := by decide +kernel
theorem dMo_count_86 : decode kMo_count 86 = .ok (.bipush 60, 2) := by decide +kernel
theorem dMo_count_88 : decode kMo_count 88 = .ok (.if_icmp .ge 28, 3) := by decide +kernel
theorem dMo_count_91 : decode kMo_count 91 = .ok (.aload_n 0, 1) := by decide +kernel
theorem dMo_count_92 : decode kMo_count 92 = .ok (.iload_n 3, 1) := by decide +kernel
theorem dMo_count_93 : decode kMo_count 93 = .ok (.invokevirtual 137, 3) := by decide +kernel
theorem dMo_count_96 : decode kMo_count 96 = .ok (.iload_n 1, 1) := by decide +kernel
theorem dMo_count_97 : decode kMo_count 97 = .ok (.iconst 3, 1) := by decide +kernel
theorem dMo_count_98 : decode kMo_count 98 = .ok (.isub, 1) := by decide +kernel
theorem dMo_count_99 : decode kMo_count 99 = .ok (.if_icmp .ne 9, 3) := by decide +kernel
theorem dMo_count_102 : decode kMo_count 102 = .ok (.iload_n 2, 1) := by decide +kernel
theorem dMo_count_103 : decode kMo_count 103 = .ok (.iconst 1, 1) := by decide +kernel
theorem dMo_count_104 : decode kMo_count 104 = .ok (.iadd, 1) := by decide +kernel
theorem dMo_count_105 : decode kMo_count 105 = .ok (.goto 4, 3) := by decide +kernel
theorem dMo_count_108 : decode kMo_count 108 = .ok (.iload_n 2, 1) := by decide +kernel
theorem dMo_count_109 : decode kMo_count 109 = .ok (.istore_n 2, 1) := by decide +kernel
theorem dMo_count_110 : decode kMo_count 110 = .ok (.iinc 3 1, 3) := by decide +kernel
theorem dMo_count_113 : decode kMo_count 113 = .ok (.goto (-28), 3) := by decide +kernel
theorem dMo_count_116 : decode kMo_count 116 = .ok (.iload_n 2, 1) := by decide +kernel
theorem dMo_count_117 : decode kMo_count 117 = .ok (.ireturn, 1) := by decide +kernel
theorem dMo_count_118 : decode kMo_count 118 = .ok (.aload_n 0, 1) := by decide +kernel
theorem dMo_count_119 : decode kMo_count 119 = .ok (.getfield 23, 3) := by decide +kernel
theorem dMo_count_122 : decode kMo_count 122 = .ok (.ireturn, 1) := by decide +kernel
theorem dMo_count_123 : decode kMo_count 123 = .ok (.aload_n 0, 1) := by decide +kernel
theorem dMo_count_124 : decode kMo_count 124 = .ok (.getfield 84, 3) := by decide +kernel
theorem dMo_count_127 : decode kMo_count 127 = .ok (.ireturn, 1) := by decide +kernel
theorem dMo_count_128 : decode kMo_count 128 = .ok (.aload_n 0, 1) := by decide +kernel
theorem dMo_count_129 : decode kMo_count 129 = .ok (.getfield 87, 3) := by decide +kernel
theorem dMo_count_132 : decode kMo_count 132 = .ok (.ireturn, 1) := by decide +kernel
theorem dMo_count_133 : decode kMo_count 133 = .ok (.iconst (-1), 1) := by decide +kernel
theorem dMo_count_134 : decode kMo_count 134 = .ok (.ireturn, 1) := by decide +kernel
end
section
theorem dLa_law_0 : decode kLa_law 0 = .ok (.new 7, 3) := by decide +kernel
theorem dLa_law_3 : decode kLa_law 3 = .ok (.dup, 1) := by decide +kernel
theorem dLa_law_4 : decode kLa_law 4 = .ok (.invokespecial 9, 3) := by decide +kernel
theorem dLa_law_7 : decode kLa_law 7 = .ok (.astore_n 1, 1) := by decide +kernel
theorem dLa_law_8 : decode kLa_law 8 = .ok (.new 10, 3) := by decide +kernel
theorem dLa_law_11 : decode kLa_law 11 = .ok (.dup, 1) := by decide +kernel
theorem dLa_law_12 : decode kLa_law 12 = .ok (.invokespecial 12, 3) := by decide +kernel
theorem dLa_law_15 : decode kLa_law 15 = .ok (.astore_n 2, 1) := by decide +kernel
theorem dLa_law_16 : decode kLa_law 16 = .ok (.iconst 0, 1) := by decide +kernel
theorem dLa_law_17 : decode kLa_law 17 = .ok (.istore_n 3, 1) := by decide +kernel
theorem dLa_law_18 : decode kLa_law 18 = .ok (.iload_n 3, 1) := by decide +kernel
theorem dLa_law_19 : decode kLa_law 19 = .ok (.aload_n 0, 1) := by decide +kernel
theorem dLa_law_20 : decode kLa_law 20 = .ok (.arraylength, 1) := by decide +kernel
theorem dLa_law_21 : decode kLa_law 21 = .ok (.bipush 6, 2) := by decide +kernel
theorem dLa_law_23 : decode kLa_law 23 = .ok (.isub, 1) := by decide +kernel
theorem dLa_law_24 : decode kLa_law 24 = .ok (.if_icmp .gt 633, 3) := by decide +kernel
theorem dLa_law_27 : decode kLa_law 27 = .ok (.aload_n 0, 1) := by decide +kernel
theorem dLa_law_28 : decode kLa_law 28 = .ok (.iload_n 3, 1) := by decide +kernel
theorem dLa_law_29 : decode kLa_law 29 = .ok (.iaload, 1) := by decide +kernel
theorem dLa_law_30 : decode kLa_law 30 = .ok (.bipush 31, 2) := by decide +kernel
theorem dLa_law_32 : decode kLa_law 32 = .ok (.iand, 1) := by decide +kernel
theorem dLa_law_33 : decode kLa_law 33 = .ok (.tableswitch 618 0 18 #[91, 154, 177, 190, 203, 236, 249, 282, 305, 328, 371, 404, 437, 470, 493, 516, 539, 562, 595], 91) := by decide +kernel
theorem dLa_law_124 : decode kLa_law 124 = .ok (.aload_n 1, 1) := by decide +kernel
theorem dLa_law_125 : decode kLa_law 125 = .ok (.aload_n 0, 1) := by decide +kernel
theorem dLa_law_126 : decode kLa_law 126 = .ok (.iload_n 3, 1) := by decide +kernel
theorem dLa_law_127 : decode kLa_law 127 = .ok (.iconst 1, 1) := by decide +kernel
theorem dLa_law_128 : decode kLa_law 128 = .ok (.iadd, 1) := by decide +kernel
theorem dLa_law_129 : decode kLa_law 129 = .ok (.iaload, 1) := by decide +kernel
theorem dLa_law_130 : decode kLa_law 130 = .ok (.aload_n 0, 1) := by decide +kernel
theorem dLa_law_131 : decode kLa_law 131 = .ok (.iload_n 3, 1) := by decide +kernel
theorem dLa_law_132 : decode kLa_law 132 = .ok (.iconst 2, 1) := by decide +kernel
theorem dLa_law_133 : decode kLa_law 133 = .ok (.iadd, 1) := by decide +kernel
theorem dLa_law_134 : decode kLa_law 134 = .ok (.iaload, 1) := by decide +kernel
theorem dLa_law_135 : decode kLa_law 135 = .ok (.aload_n 0, 1) := by decide +kernel
theorem dLa_law_136 : decode kLa_law 136 = .ok (.iload_n 3, 1) := by decide +kernel
theorem dLa_law_137 : decode kLa_law 137 = .ok (.iconst 3, 1) := by decide +kernel
theorem dLa_law_138 : decode kLa_law 138 = .ok (.iadd, 1) := by decide +kernel
theorem dLa_law_139 : decode kLa_law 139 = .ok (.iaload, 1) := by decide +kernel
theorem dLa_law_140 : decode kLa_law 140 = .ok (.aload_n 0, 1) := by decide +kernel
theorem dLa_law_141 : decode kLa_law 141 = .ok (.iload_n 3, 1) := by decide +kernel
theorem dLa_law_142 : decode kLa_law 142 = .ok (.iconst 4, 1) := by decide +kernel
theorem dLa_law_143 : decode kLa_law 143 = .ok (.iadd, 1) := by decide +kernel
theorem dLa_law_144 : decode kLa_law 144 = .ok (.iaload, 1) := by decide +kernel
theorem dLa_law_145 : decode kLa_law 145 = .ok (.aload_n 0, 1) := by decide +kernel
theorem dLa_law_146 : decode kLa_law 146 = .ok (.iload_n 3, 1) := by decide +kernel
theorem dLa_law_147 : decode kLa_law 147 = .ok (.iconst 5, 1) := by decide +kernel
theorem dLa_law_148 : decode kLa_law 148 = .ok (.iadd, 1) := by decide +kernel
theorem dLa_law_149 : decode kLa_law 149 = .ok (.iaload, 1) := by decide +kernel
theorem dLa_law_150 : decode kLa_law 150 = .ok (.invokevirtual 13, 3) := by decide +kernel
theorem dLa_law_153 : decode kLa_law 153 = .ok (.aload_n 2, 1) := by decide +kernel
theorem dLa_law_154 : decode kLa_law 154 = .ok (.aload_n 0, 1) := by decide +kernel
theorem dLa_law_155 : decode kLa_law 155 = .ok (.iload_n 3, 1) := by decide +kernel
theorem dLa_law_156 : decode kLa_law 156 = .ok (.iconst 1, 1) := by decide +kernel
theorem dLa_law_157 : decode kLa_law 157 = .ok (.iadd, 1) := by decide +kernel
theorem dLa_law_158 : decode kLa_law 158 = .ok (.iaload, 1) := by decide +kernel
theorem dLa_law_159 : decode kLa_law 159 = .ok (.aload_n 0, 1) := by decide +kernel
theorem dLa_law_160 : decode kLa_law 160 = .ok (.iload_n 3, 1) := by decide +kernel
theorem dLa_law_161 : decode kLa_law 161 = .ok (.iconst 2, 1) := by decide +kernel
theorem dLa_law_162 : decode kLa_law 162 = .ok (.iadd, 1) := by decide +kernel
theorem dLa_law_163 : decode kLa_law 163 = .ok (.iaload, 1) := by decide +kernel
theorem dLa_law_164 : decode kLa_law 164 = .ok (.aload_n 0, 1) := by decide +kernel
theorem dLa_law_165 : decode kLa_law 165 = .ok (.iload_n 3, 1) := by decide +kernel
theorem dLa_law_166 : decode kLa_law 166 = .ok (.iconst 3, 1) := by decide +kernel
theorem dLa_law_167 : decode kLa_law 167 = .ok (.iadd, 1) := by decide +kernel
theorem dLa_law_168 : decode kLa_law 168 = .ok (.iaload, 1) := by decide +kernel
theorem dLa_law_169 : decode kLa_law 169 = .ok (.aload_n 0, 1) := by decide +kernel
theorem dLa_law_170 : decode kLa_law 170 = .ok (.iload_n 3, 1) := by decide +kernel
theorem dLa_law_171 : decode kLa_law 171 = .ok (.iconst 4, 1) := by decide +kernel
theorem dLa_law_172 : decode kLa_law 172 = .ok (.iadd, 1) := by decide +kernel
theorem dLa_law_173 : decode kLa_law 173 = .ok (.iaload, 1) := by decide +kernel
theorem dLa_law_174 : decode kLa_law 174 = .ok (.aload_n 0, 1) := by decide +kernel
theorem dLa_law_175 : decode kLa_law 175 = .ok (.iload_n 3, 1) := by decide +kernel
theorem dLa_law_176 : decode kLa_law 176 = .ok (.iconst 5, 1) := by decide +kernel
theorem dLa_law_177 : decode kLa_law 177 = .ok (.iadd, 1) := by decide +kernel
theorem dLa_law_178 : decode kLa_law 178 = .ok (.iaload, 1) := by decide +kernel
theorem dLa_law_179 : decode kLa_law 179 = .ok (.invokevirtual 17, 3) := by decide +kernel
theorem dLa_law_182 : decode kLa_law 182 = .ok (.if_icmp .eq 469, 3) := by decide +kernel
theorem dLa_law_185 : decode kLa_law 185 = .ok (.iconst 0, 1) := by decide +kernel
theorem dLa_law_186 : decode kLa_law 186 = .ok (.ireturn, 1) := by decide +kernel
theorem dLa_law_187 : decode kLa_law 187 = .ok (.aload_n 1, 1) := by decide +kernel
theorem dLa_law_188 : decode kLa_law 188 = .ok (.aload_n 0, 1) := by decide +kernel
theorem dLa_law_189 : decode kLa_law 189 = .ok (.iload_n 3, 1) := by decide +kernel
theorem dLa_law_190 : decode kLa_law 190 = .ok (.iconst 1, 1) := by decide +kernel
theorem dLa_law_191 : decode kLa_law 191 = .ok (.iadd, 1) := by decide +kernel
theorem dLa_law_192 : decode kLa_law 192 = .ok (.iaload, 1) := by decide +kernel
theorem dLa_law_193 : decode kLa_law 193 = .ok (.invokevirtual 18, 3) := by decide +kernel
theorem dLa_law_196 : decode kLa_law 196 = .ok (.aload_n 2, 1) := by decide +kernel
theorem dLa_law_197 : decode kLa_law 197 = .ok (.aload_n 0, 1) := by decide +kernel
theorem dLa_law_198 : decode kLa_law 198 = .ok (.iload_n 3, 1) := by decide +kernel
theorem dLa_law_199 : decode kLa_law 199 = .ok (.iconst 1, 1) := by decide +kernel
theorem dLa_law_200 : decode kLa_law 200 = .ok (.iadd, 1) := by decide +kernel
theorem dLa_law_201 : decode kLa_law 201 = .ok (.iaload, 1) := by decide +kernel
theorem dLa_law_202 : decode kLa_law 202 = .ok (.invokevirtual 22, 3) := by decide +kernel
theorem dLa_law_205 : decode kLa_law 205 = .ok (.if_icmp .eq 446, 3) := by decide +kernel
theorem dLa_law_208 : decode kLa_law 208 = .ok (.iconst 0, 1) := by decide +kernel
theorem dLa_law_209 : decode kLa_law 209 = .ok (.ireturn, 1) := by decide +kernel
theorem dLa_law_210 : decode kLa_law 210 = .ok (.aload_n 1, 1) := by decide +kernel
theorem dLa_law_211 : decode kLa_law 211 = .ok (.invokevirtual 23, 3) := by decide +kernel
theorem dLa_law_214 : decode kLa_law 214 = .ok (.aload_n 2, 1) := by decide +kernel
theorem dLa_law_215 : decode kLa_law 215 = .ok (.invokevirtual 27, 3) := by decide +kernel
theorem dLa_law_218 : decode kLa_law 218 = .ok (.if_icmp .eq 433, 3) := by decide +kernel
theorem dLa_law_221 : decode kLa_law 221 = .ok (.iconst 0, 1) := by decide +kernel
theorem dLa_law_222 : decode kLa_law 222 = .ok (.ireturn, 1) := by decide +kernel
theorem dLa_law_223 : decode kLa_law 223 = .ok (.aload_n 1, 1) := by decide +kernel
theorem dLa_law_224 : decode kLa_law 224 = .ok (.invokevirtual 28, 3) := by decide +kernel
theorem dLa_law_227 : decode kLa_law 227 = .ok (.aload_n 2, 1) := by decide +kernel
theorem dLa_law_228 : decode kLa_law 228 = .ok (.invokevirtual 31, 3) := by decide +kernel
theorem dLa_law_231 : decode kLa_law 231 = .ok (.if_icmp .eq 420, 3) := by decide +kernel
theorem dLa_law_234 : decode kLa_law 234 = .ok (.iconst 0, 1) := by decide +kernel
theorem dLa_law_235 : decode kLa_law 235 = .ok (.ireturn, 1) := by decide +kernel
theorem dLa_law_236 : decode kLa_law 236 = .ok (.aload_n 1, 1) := by decide +kernel
theorem dLa_law_237 : decode kLa_law 237 = .ok (.aload_n 0, 1) := by decide +kernel
theorem dLa_law_238 : decode kLa_law 238 = .ok (.iload_n 3, 1) := by decide +kernel
theorem dLa_law_239 : decode kLa_law 239 = .ok (.iconst 1, 1) := by decide +kernel
theorem dLa_law_240 : decode kLa_law 240 = .ok (.iadd, 1) := by decide +kernel
theorem dLa_law_241 : decode kLa_law 241 = .ok (.iaload, 1) := by decide +kernel
theorem dLa_law_242 : decode kLa_law 242 = .ok (.aload_n 0, 1) := by decide +kernel
theorem dLa_law_243 : decode kLa_law 243 = .ok (.iload_n 3, 1) := by decide +kernel
theorem dLa_law_244 : decode kLa_law 244 = .ok (.iconst 2, 1) := by decide +kernel
theorem dLa_law_245 : decode kLa_law 245 = .ok (.iadd, 1) := by decide +kernel
theorem dLa_law_246 : decode kLa_law 246 = .ok (.iaload, 1) := by decide +kernel
theorem dLa_law_247 : decode kLa_law 247 = .ok (.invokevirtual 32, 3) := by decide +kernel
theorem dLa_law_250 : decode kLa_law 250 = .ok (.aload_n 2, 1) := by decide +kernel
theorem dLa_law_251 : decode kLa_law 251 = .ok (.aload_n 0, 1) := by decide +kernel
theorem dLa_law_252 : decode kLa_law 252 = .ok (.iload_n 3, 1) := by decide +kernel
theorem dLa_law_253 : decode kLa_law 253 = .ok (.iconst 1, 1) := by decide +kernel
theorem dLa_law_254 : decode kLa_law 254 = .ok (.iadd, 1) := by decide +kernel
theorem dLa_law_255 : decode kLa_law 255 = .ok (.iaload, 1) := by decide +kernel
theorem dLa_law_256 : decode kLa_law 256 = .ok (.aload_n 0, 1) := by decide +kernel
theorem dLa_law_257 : decode kLa_law 257 = .ok (.iload_n 3, 1) := by decide +kernel
theorem dLa_law_258 : decode kLa_law 258 = .ok (.iconst 2, 1) := by decide +kernel
theorem dLa_law_259 : decode kLa_law 259 = .ok (.iadd, 1) := by decide +kernel
theorem dLa_law_260 : decode kLa_law 260 = .ok (.iaload, 1) := by decide +kernel
theorem dLa_law_261 : decode kLa_law 261 = .ok (.invokevirtual 36, 3) := by decide +kernel
theorem dLa_law_264 : decode kLa_law 264 = .ok (.if_icmp .eq 387, 3) := by decide +kernel
theorem dLa_law_267 : decode kLa_law 267 = .ok (.iconst 0, 1) := by decide +kernel
theorem dLa_law_268 : decode kLa_law 268 = .ok (.ireturn, 1) := by decide +kernel
theorem dLa_law_269 : decode kLa_law 269 = .ok (.aload_n 1, 1) := by decide +kernel
theorem dLa_law_270 : decode kLa_law 270 = .ok (.invokevirtual 37, 3) := by decide +kernel
theorem dLa_law_273 : decode kLa_law 273 = .ok (.aload_n 2, 1) := by decide +kernel
theorem dLa_law_274 : decode kLa_law 274 = .ok (.invokevirtual 40, 3) := by decide +kernel
theorem dLa_law_277 : decode kLa_law 277 = .ok (.if_icmp .eq 374, 3) := by decide +kernel
theorem dLa_law_280 : decode kLa_law 280 = .ok (.iconst 0, 1) := by decide +kernel
theorem dLa_law_281 : decode kLa_law 281 = .ok (.ireturn, 1) := by decide +kernel
theorem dLa_law_282 : decode kLa_law 282 = .ok (.aload_n 1, 1) := by decide +kernel
theorem dLa_law_283 : decode kLa_law 283 = .ok (.aload_n 0, 1) := by decide +kernel
theorem dLa_law_284 : decode kLa_law 284 = .ok (.iload_n 3, 1) := by decide +kernel
theorem dLa_law_285 : decode kLa_law 285 = .ok (.iconst 1, 1) := by decide +kernel
theorem dLa_law_286 : decode kLa_law 286 = .ok (.iadd, 1) := by decide +kernel
theorem dLa_law_287 : decode kLa_law 287 = .ok (.iaload, 1) := by decide +kernel
theorem dLa_law_288 : decode kLa_law 288 = .ok (.aload_n 0, 1) := by decide +kernel
theorem dLa_law_289 : decode kLa_law 289 = .ok (.iload_n 3, 1) := by decide +kernel
theorem dLa_law_290 : decode kLa_law 290 = .ok (.iconst 2, 1) := by decide +kernel
theorem dLa_law_291 : decode kLa_law 291 = .ok (.iadd, 1) := by decide +kernel
theorem dLa_law_292 : decode kLa_law 292 = .ok (.iaload, 1) := by decide +kernel
theorem dLa_law_293 : decode kLa_law 293 = .ok (.invokevirtual 41, 3) := by decide +kernel
theorem dLa_law_296 : decode kLa_law 296 = .ok (.aload_n 2, 1) := by decide +kernel
theorem dLa_law_297 : decode kLa_law 297 = .ok (.aload_n 0, 1) := by decide +kernel
theorem dLa_law_298 : decode kLa_law 298 = .ok (.iload_n 3, 1) := by decide +kernel
theorem dLa_law_299 : decode kLa_law 299 = .ok (.iconst 1, 1) := by decide +kernel
theorem dLa_law_300 : decode kLa_law 300 = .ok (.iadd, 1) := by decide +kernel
theorem dLa_law_301 : decode kLa_law 301 = .ok (.iaload, 1) := by decide +kernel
theorem dLa_law_302 : decode kLa_law 302 = .ok (.aload_n 0, 1) := by decide +kernel
theorem dLa_law_303 : decode kLa_law 303 = .ok (.iload_n 3, 1) := by decide +kernel
theorem dLa_law_304 : decode kLa_law 304 = .ok (.iconst 2, 1) := by decide +kernel
theorem dLa_law_305 : decode kLa_law 305 = .ok (.iadd, 1) := by decide +kernel
theorem dLa_law_306 : decode kLa_law 306 = .ok (.iaload, 1) := by decide +kernel
theorem dLa_law_307 : decode kLa_law 307 = .ok (.invokevirtual 44, 3) := by decide +kernel
theorem dLa_law_310 : decode kLa_law 310 = .ok (.if_icmp .eq 341, 3) := by decide +kernel
theorem dLa_law_313 : decode kLa_law 313 = .ok (.iconst 0, 1) := by decide +kernel
theorem dLa_law_314 : decode kLa_law 314 = .ok (.ireturn, 1) := by decide +kernel
theorem dLa_law_315 : decode kLa_law 315 = .ok (.aload_n 1, 1) := by decide +kernel
theorem dLa_law_316 : decode kLa_law 316 = .ok (.aload_n 0, 1) := by decide +kernel
theorem dLa_law_317 : decode kLa_law 317 = .ok (.iload_n 3, 1) := by decide +kernel
theorem dLa_law_318 : decode kLa_law 318 = .ok (.iconst 1, 1) := by decide +kernel
theorem dLa_law_319 : decode kLa_law 319 = .ok (.iadd, 1) := by decide +kernel
theorem dLa_law_320 : decode kLa_law 320 = .ok (.iaload, 1) := by decide +kernel
theorem dLa_law_321 : decode kLa_law 321 = .ok (.invokevirtual 45, 3) := by decide +kernel
theorem dLa_law_324 : decode kLa_law 324 = .ok (.aload_n 2, 1) := by decide +kernel
theorem dLa_law_325 : decode kLa_law 325 = .ok (.aload_n 0, 1) := by decide +kernel
theorem dLa_law_326 : decode kLa_law 326 = .ok (.iload_n 3, 1) := by decide +kernel
theorem dLa_law_327 : decode kLa_law 327 = .ok (.iconst 1, 1) := by decide +kernel
theorem dLa_law_328 : decode kLa_law 328 = .ok (.iadd, 1) := by decide +kernel
theorem dLa_law_329 : decode kLa_law 329 = .ok (.iaload, 1) := by decide +kernel
theorem dLa_law_330 : decode kLa_law 330 = .ok (.invokevirtual 48, 3) := by decide +kernel
theorem dLa_law_333 : decode kLa_law 333 = .ok (.if_icmp .eq 318, 3) := by decide +kernel
theorem dLa_law_336 : decode kLa_law 336 = .ok (.iconst 0, 1) := by decide +kernel
theorem dLa_law_337 : decode kLa_law 337 = .ok (.ireturn, 1) := by decide +kernel
theorem dLa_law_338 : decode kLa_law 338 = .ok (.aload_n 1, 1) := by decide +kernel
theorem dLa_law_339 : decode kLa_law 339 = .ok (.aload_n 0, 1) := by decide +kernel
theorem dLa_law_340 : decode kLa_law 340 = .ok (.iload_n 3, 1) := by decide +kernel
theorem dLa_law_341 : decode kLa_law 341 = .ok (.iconst 1, 1) := by decide +kernel
theorem dLa_law_342 : decode kLa_law 342 = .ok (.iadd, 1) := by decide +kernel
theorem dLa_law_343 : decode kLa_law 343 = .ok (.iaload, 1) := by decide +kernel
theorem dLa_law_344 : decode kLa_law 344 = .ok (.invokevirtual 49, 3) := by decide +kernel
theorem dLa_law_347 : decode kLa_law 347 = .ok (.aload_n 2, 1) := by decide +kernel
theorem dLa_law_348 : decode kLa_law 348 = .ok (.aload_n 0, 1) := by decide +kernel
theorem dLa_law_349 : decode kLa_law 349 = .ok (.iload_n 3, 1) := by decide +kernel
theorem dLa_law_350 : decode kLa_law 350 = .ok (.iconst 1, 1) := by decide +kernel
theorem dLa_law_351 : decode kLa_law 351 = .ok (.iadd, 1) := by decide +kernel
theorem dLa_law_352 : decode kLa_law 352 = .ok (.iaload, 1) := by decide +kernel
theorem dLa_law_353 : decode kLa_law 353 = .ok (.invokevirtual 52, 3) := by decide +kernel
theorem dLa_law_356 : decode kLa_law 356 = .ok (.if_icmp .eq 295, 3) := by decide +kernel
theorem dLa_law_359 : decode kLa_law 359 = .ok (.iconst 0, 1) := by decide +kernel
theorem dLa_law_360 : decode kLa_law 360 = .ok (.ireturn, 1) := by decide +kernel
theorem dLa_law_361 : decode kLa_law 361 = .ok (.aload_n 1, 1) := by decide +kernel
theorem dLa_law_362 : decode kLa_law 362 = .ok (.aload_n 0, 1) := by decide +kernel
theorem dLa_law_363 : decode kLa_law 363 = .ok (.iload_n 3, 1) := by decide +kernel
theorem dLa_law_364 : decode kLa_law 364 = .ok (.iconst 1, 1) := by decide +kernel
theorem dLa_law_365 : decode kLa_law 365 = .ok (.iadd, 1) := by decide +kernel
theorem dLa_law_366 : decode kLa_law 366 = .ok (.iaload, 1) := by decide +kernel
theorem dLa_law_367 : decode kLa_law 367 = .ok (.aload_n 0, 1) := by decide +kernel
theorem dLa_law_368 : decode kLa_law 368 = .ok (.iload_n 3, 1) := by decide +kernel
theorem dLa_law_369 : decode kLa_law 369 = .ok (.iconst 2, 1) := by decide +kernel
theorem dLa_law_370 : decode kLa_law 370 = .ok (.iadd, 1) := by decide +kernel
theorem dLa_law_371 : decode kLa_law 371 = .ok (.iaload, 1) := by decide +kernel
theorem dLa_law_372 : decode kLa_law 372 = .ok (.aload_n 0, 1) := by decide +kernel
theorem dLa_law_373 : decode kLa_law 373 = .ok (.iload_n 3, 1) := by decide +kernel
theorem dLa_law_374 : decode kLa_law 374 = .ok (.iconst 3, 1) := by decide +kernel
theorem dLa_law_375 : decode kLa_law 375 = .ok (.iadd, 1) := by decide +kernel
theorem dLa_law_376 : decode kLa_law 376 = .ok (.iaload, 1) := by decide +kernel
theorem dLa_law_377 : decode kLa_law 377 = .ok (.invokevirtual 53, 3) := by decide +kernel
theorem dLa_law_380 : decode kLa_law 380 = .ok (.aload_n 2, 1) := by decide +kernel
theorem dLa_law_381 : decode kLa_law 381 = .ok (.aload_n 0, 1) := by decide +kernel
theorem dLa_law_382 : decode kLa_law 382 = .ok (.iload_n 3, 1) := by decide +kernel
theorem dLa_law_383 : decode kLa_law 383 = .ok (.iconst 1, 1) := by decide +kernel
theorem dLa_law_384 : decode kLa_law 384 = .ok (.iadd, 1) := by decide +kernel
theorem dLa_law_385 : decode kLa_law 385 = .ok (.iaload, 1) := by decide +kernel
theorem dLa_law_386 : decode kLa_law 386 = .ok (.aload_n 0, 1) := by decide +kernel
theorem dLa_law_387 : decode kLa_law 387 = .ok (.iload_n 3, 1) := by decide +kernel
theorem dLa_law_388 : decode kLa_law 388 = .ok (.iconst 2, 1) := by decide +kernel
theorem dLa_law_389 : decode kLa_law 389 = .ok (.iadd, 1) := by decide +kernel
theorem dLa_law_390 : decode kLa_law 390 = .ok (.iaload, 1) := by decide +kernel
theorem dLa_law_391 : decode kLa_law 391 = .ok (.aload_n 0, 1) := by decide +kernel
theorem dLa_law_392 : decode kLa_law 392 = .ok (.iload_n 3, 1) := by decide +kernel
theorem dLa_law_393 : decode kLa_law 393 = .ok (.iconst 3, 1) := by decide +kernel
theorem dLa_law_394 : decode kLa_law 394 = .ok (.iadd, 1) := by decide +kernel
theorem dLa_law_395 : decode kLa_law 395 = .ok (.iaload, 1) := by decide +kernel
theorem dLa_law_396 : decode kLa_law 396 = .ok (.invokevirtual 57, 3) := by decide +kernel
theorem dLa_law_399 : decode kLa_law 399 = .ok (.if_icmp .eq 252, 3) := by decide +kernel
theorem dLa_law_402 : decode kLa_law 402 = .ok (.iconst 0, 1) := by decide +kernel
theorem dLa_law_403 : decode kLa_law 403 = .ok (.ireturn, 1) := by decide +kernel
theorem dLa_law_404 : decode kLa_law 404 = .ok (.aload_n 1, 1) := by decide +kernel
theorem dLa_law_405 : decode kLa_law 405 = .ok (.aload_n 0, 1) := by decide +kernel
theorem dLa_law_406 : decode kLa_law 406 = .ok (.iload_n 3, 1) := by decide +kernel
theorem dLa_law_407 : decode kLa_law 407 = .ok (.iconst 1, 1) := by decide +kernel
theorem dLa_law_408 : decode kLa_law 408 = .ok (.iadd, 1) := by decide +kernel
theorem dLa_law_409 : decode kLa_law 409 = .ok (.iaload, 1) := by decide +kernel
theorem dLa_law_410 : decode kLa_law 410 = .ok (.aload_n 0, 1) := by decide +kernel
theorem dLa_law_411 : decode kLa_law 411 = .ok (.iload_n 3, 1) := by decide +kernel
theorem dLa_law_412 : decode kLa_law 412 = .ok (.iconst 2, 1) := by decide +kernel
theorem dLa_law_413 : decode kLa_law 413 = .ok (.iadd, 1) := by decide +kernel
theorem dLa_law_414 : decode kLa_law 414 = .ok (.iaload, 1) := by decide +kernel
theorem dLa_law_415 : decode kLa_law 415 = .ok (.invokevirtual 58, 3) := by decide +kernel
theorem dLa_law_418 : decode kLa_law 418 = .ok (.aload_n 2, 1) := by decide +kernel
theorem dLa_law_419 : decode kLa_law 419 = .ok (.aload_n 0, 1) := by decide +kernel
theorem dLa_law_420 : decode kLa_law 420 = .ok (.iload_n 3, 1) := by decide +kernel
theorem dLa_law_421 : decode kLa_law 421 = .ok (.iconst 1, 1) := by decide +kernel
theorem dLa_law_422 : decode kLa_law 422 = .ok (.iadd, 1) := by decide +kernel
theorem dLa_law_423 : decode kLa_law 423 = .ok (.iaload, 1) := by decide +kernel
theorem dLa_law_424 : decode kLa_law 424 = .ok (.aload_n 0, 1) := by decide +kernel
theorem dLa_law_425 : decode kLa_law 425 = .ok (.iload_n 3, 1) := by decide +kernel
theorem dLa_law_426 : decode kLa_law 426 = .ok (.iconst 2, 1) := by decide +kernel
theorem dLa_law_427 : decode kLa_law 427 = .ok (.iadd, 1) := by decide +kernel
theorem dLa_law_428 : decode kLa_law 428 = .ok (.iaload, 1) := by decide +kernel
theorem dLa_law_429 : decode kLa_law 429 = .ok (.invokevirtual 61, 3) := by decide +kernel
theorem dLa_law_432 : decode kLa_law 432 = .ok (.if_icmp .eq 219, 3) := by decide +kernel
theorem dLa_law_435 : decode kLa_law 435 = .ok (.iconst 0, 1) := by decide +kernel
theorem dLa_law_436 : decode kLa_law 436 = .ok (.ireturn, 1) := by decide +kernel
theorem dLa_law_437 : decode kLa_law 437 = .ok (.aload_n 1, 1) := by decide +kernel
theorem dLa_law_438 : decode kLa_law 438 = .ok (.aload_n 0, 1) := by decide +kernel
theorem dLa_law_439 : decode kLa_law 439 = .ok (.iload_n 3, 1) := by decide +kernel
theorem dLa_law_440 : decode kLa_law 440 = .ok (.iconst 1, 1) := by decide +kernel
theorem dLa_law_441 : decode kLa_law 441 = .ok (.iadd, 1) := by decide +kernel
theorem dLa_law_442 : decode kLa_law 442 = .ok (.iaload, 1) := by decide +kernel
theorem dLa_law_443 : decode kLa_law 443 = .ok (.aload_n 0, 1) := by decide +kernel
theorem dLa_law_444 : decode kLa_law 444 = .ok (.iload_n 3, 1) := by decide +kernel
theorem dLa_law_445 : decode kLa_law 445 = .ok (.iconst 2, 1) := by decide +kernel
theorem dLa_law_446 : decode kLa_law 446 = .ok (.iadd, 1) := by decide +kernel
theorem dLa_law_447 : decode kLa_law 447 = .ok (.iaload, 1) := by decide +kernel
theorem dLa_law_448 : decode kLa_law 448 = .ok (.invokevirtual 62, 3) := by decide +kernel
theorem dLa_law_451 : decode kLa_law 451 = .ok (.aload_n 2, 1) := by decide +kernel
theorem dLa_law_452 : decode kLa_law 452 = .ok (.aload_n 0, 1) := by decide +kernel
theorem dLa_law_453 : decode kLa_law 453 = .ok (.iload_n 3, 1) := by decide +kernel
theorem dLa_law_454 : decode kLa_law 454 = .ok (.iconst 1, 1) := by decide +kernel
theorem dLa_law_455 : decode kLa_law 455 = .ok (.iadd, 1) := by decide +kernel
theorem dLa_law_456 : decode kLa_law 456 = .ok (.iaload, 1) := by decide +kernel
theorem dLa_law_457 : decode kLa_law 457 = .ok (.aload_n 0, 1) := by decide +kernel
theorem dLa_law_458 : decode kLa_law 458 = .ok (.iload_n 3, 1) := by decide +kernel
theorem dLa_law_459 : decode kLa_law 459 = .ok (.iconst 2, 1) := by decide +kernel
theorem dLa_law_460 : decode kLa_law 460 = .ok (.iadd, 1) := by decide +kernel
theorem dLa_law_461 : decode kLa_law 461 = .ok (.iaload, 1) := by decide +kernel
theorem dLa_law_462 : decode kLa_law 462 = .ok (.invokevirtual 65, 3) := by decide +kernel
theorem dLa_law_465 : decode kLa_law 465 = .ok (.if_icmp .eq 186, 3) := by decide +kernel
theorem dLa_law_468 : decode kLa_law 468 = .ok (.iconst 0, 1) := by decide +kernel
theorem dLa_law_469 : decode kLa_law 469 = .ok (.ireturn, 1) := by decide +kernel
theorem dLa_law_470 : decode kLa_law 470 = .ok (.aload_n 1, 1) := by decide +kernel
theorem dLa_law_471 : decode kLa_law 471 = .ok (.aload_n 0, 1) := by decide +kernel
theorem dLa_law_472 : decode kLa_law 472 = .ok (.iload_n 3, 1) := by decide +kernel
theorem dLa_law_473 : decode kLa_law 473 = .ok (.iconst 1, 1) := by decide +kernel
theorem dLa_law_474 : decode kLa_law 474 = .ok (.iadd, 1) := by decide +kernel
theorem dLa_law_475 : decode kLa_law 475 = .ok (.iaload, 1) := by decide +kernel
theorem dLa_law_476 : decode kLa_law 476 = .ok (.aload_n 0, 1) := by decide +kernel
theorem dLa_law_477 : decode kLa_law 477 = .ok (.iload_n 3, 1) := by decide +kernel
theorem dLa_law_478 : decode kLa_law 478 = .ok (.iconst 2, 1) := by decide +kernel
theorem dLa_law_479 : decode kLa_law 479 = .ok (.iadd, 1) := by decide +kernel
theorem dLa_law_480 : decode kLa_law 480 = .ok (.iaload, 1) := by decide +kernel
theorem dLa_law_481 : decode kLa_law 481 = .ok (.invokevirtual 66, 3) := by decide +kernel
theorem dLa_law_484 : decode kLa_law 484 = .ok (.aload_n 2, 1) := by decide +kernel
theorem dLa_law_485 : decode kLa_law 485 = .ok (.aload_n 0, 1) := by decide +kernel
theorem dLa_law_486 : decode kLa_law 486 = .ok (.iload_n 3, 1) := by decide +kernel
theorem dLa_law_487 : decode kLa_law 487 = .ok (.iconst 1, 1) := by decide +kernel
theorem dLa_law_488 : decode kLa_law 488 = .ok (.iadd, 1) := by decide +kernel
theorem dLa_law_489 : decode kLa_law 489 = .ok (.iaload, 1) := by decide +kernel
theorem dLa_law_490 : decode kLa_law 490 = .ok (.aload_n 0, 1) := by decide +kernel
theorem dLa_law_491 : decode kLa_law 491 = .ok (.iload_n 3, 1) := by decide +kernel
theorem dLa_law_492 : decode kLa_law 492 = .ok (.iconst 2, 1) := by decide +kernel
theorem dLa_law_493 : decode kLa_law 493 = .ok (.iadd, 1) := by decide +kernel
theorem dLa_law_494 : decode kLa_law 494 = .ok (.iaload, 1) := by decide +kernel
theorem dLa_law_495 : decode kLa_law 495 = .ok (.invokevirtual 69, 3) := by decide +kernel
theorem dLa_law_498 : decode kLa_law 498 = .ok (.if_icmp .eq 153, 3) := by decide +kernel
theorem dLa_law_501 : decode kLa_law 501 = .ok (.iconst 0, 1) := by decide +kernel
theorem dLa_law_502 : decode kLa_law 502 = .ok (.ireturn, 1) := by decide +kernel
theorem dLa_law_503 : decode kLa_law 503 = .ok (.aload_n 1, 1) := by decide +kernel
theorem dLa_law_504 : decode kLa_law 504 = .ok (.aload_n 0, 1) := by decide +kernel
theorem dLa_law_505 : decode kLa_law 505 = .ok (.iload_n 3, 1) := by decide +kernel
theorem dLa_law_506 : decode kLa_law 506 = .ok (.iconst 1, 1) := by decide +kernel
theorem dLa_law_507 : decode kLa_law 507 = .ok (.iadd, 1) := by decide +kernel
theorem dLa_law_508 : decode kLa_law 508 = .ok (.iaload, 1) := by decide +kernel
theorem dLa_law_509 : decode kLa_law 509 = .ok (.invokevirtual 70, 3) := by decide +kernel
theorem dLa_law_512 : decode kLa_law 512 = .ok (.aload_n 2, 1) := by decide +kernel
theorem dLa_law_513 : decode kLa_law 513 = .ok (.aload_n 0, 1) := by decide +kernel
theorem dLa_law_514 : decode kLa_law 514 = .ok (.iload_n 3, 1) := by decide +kernel
theorem dLa_law_515 : decode kLa_law 515 = .ok (.iconst 1, 1) := by decide +kernel
theorem dLa_law_516 : decode kLa_law 516 = .ok (.iadd, 1) := by decide +kernel
theorem dLa_law_517 : decode kLa_law 517 = .ok (.iaload, 1) := by decide +kernel
theorem dLa_law_518 : decode kLa_law 518 = .ok (.invokevirtual 73, 3) := by decide +kernel
theorem dLa_law_521 : decode kLa_law 521 = .ok (.if_icmp .eq 130, 3) := by decide +kernel
theorem dLa_law_524 : decode kLa_law 524 = .ok (.iconst 0, 1) := by decide +kernel
theorem dLa_law_525 : decode kLa_law 525 = .ok (.ireturn, 1) := by decide +kernel
theorem dLa_law_526 : decode kLa_law 526 = .ok (.aload_n 1, 1) := by decide +kernel
theorem dLa_law_527 : decode kLa_law 527 = .ok (.aload_n 0, 1) := by decide +kernel
theorem dLa_law_528 : decode kLa_law 528 = .ok (.iload_n 3, 1) := by decide +kernel
theorem dLa_law_529 : decode kLa_law 529 = .ok (.iconst 1, 1) := by decide +kernel
theorem dLa_law_530 : decode kLa_law 530 = .ok (.iadd, 1) := by decide +kernel
theorem dLa_law_531 : decode kLa_law 531 = .ok (.iaload, 1) := by decide +kernel
theorem dLa_law_532 : decode kLa_law 532 = .ok (.invokevirtual 74, 3) := by decide +kernel
theorem dLa_law_535 : decode kLa_law 535 = .ok (.aload_n 2, 1) := by decide +kernel
theorem dLa_law_536 : decode kLa_law 536 = .ok (.aload_n 0, 1) := by decide +kernel
theorem dLa_law_537 : decode kLa_law 537 = .ok (.iload_n 3, 1) := by decide +kernel
theorem dLa_law_538 : decode kLa_law 538 = .ok (.iconst 1, 1) := by decide +kernel
theorem dLa_law_539 : decode kLa_law 539 = .ok (.iadd, 1) := by decide +kernel
theorem dLa_law_540 : decode kLa_law 540 = .ok (.iaload, 1) := by decide +kernel
theorem dLa_law_541 : decode kLa_law 541 = .ok (.invokevirtual 77, 3) := by decide +kernel
theorem dLa_law_544 : decode kLa_law 544 = .ok (.if_icmp .eq 107, 3) := by decide +kernel
theorem dLa_law_547 : decode kLa_law 547 = .ok (.iconst 0, 1) := by decide +kernel
theorem dLa_law_548 : decode kLa_law 548 = .ok (.ireturn, 1) := by decide +kernel
theorem dLa_law_549 : decode kLa_law 549 = .ok (.aload_n 1, 1) := by decide +kernel
theorem dLa_law_550 : decode kLa_law 550 = .ok (.aload_n 0, 1) := by decide +kernel
theorem dLa_law_551 : decode kLa_law 551 = .ok (.iload_n 3, 1) := by decide +kernel
theorem dLa_law_552 : decode kLa_law 552 = .ok (.iconst 1, 1) := by decide +kernel
theorem dLa_law_553 : decode kLa_law 553 = .ok (.iadd, 1) := by decide +kernel
theorem dLa_law_554 : decode kLa_law 554 = .ok (.iaload, 1) := by decide +kernel
theorem dLa_law_555 : decode kLa_law 555 = .ok (.invokevirtual 78, 3) := by decide +kernel
theorem dLa_law_558 : decode kLa_law 558 = .ok (.aload_n 2, 1) := by decide +kernel
theorem dLa_law_559 : decode kLa_law 559 = .ok (.aload_n 0, 1) := by decide +kernel
theorem dLa_law_560 : decode kLa_law 560 = .ok (.iload_n 3, 1) := by decide +kernel
theorem dLa_law_561 : decode kLa_law 561 = .ok (.iconst 1, 1) := by decide +kernel
theorem dLa_law_562 : decode kLa_law 562 = .ok (.iadd, 1) := by decide +kernel
theorem dLa_law_563 : decode kLa_law 563 = .ok (.iaload, 1) := by decide +kernel
theorem dLa_law_564 : decode kLa_law 564 = .ok (.invokevirtual 81, 3) := by decide +kernel
theorem dLa_law_567 : decode kLa_law 567 = .ok (.if_icmp .eq 84, 3) := by decide +kernel
theorem dLa_law_570 : decode kLa_law 570 = .ok (.iconst 0, 1) := by decide +kernel
theorem dLa_law_571 : decode kLa_law 571 = .ok (.ireturn, 1) := by decide +kernel
theorem dLa_law_572 : decode kLa_law 572 = .ok (.aload_n 1, 1) := by decide +kernel
theorem dLa_law_573 : decode kLa_law 573 = .ok (.aload_n 0, 1) := by decide +kernel
theorem dLa_law_574 : decode kLa_law 574 = .ok (.iload_n 3, 1) := by decide +kernel
theorem dLa_law_575 : decode kLa_law 575 = .ok (.iconst 1, 1) := by decide +kernel
theorem dLa_law_576 : decode kLa_law 576 = .ok (.iadd, 1) := by decide +kernel
theorem dLa_law_577 : decode kLa_law 577 = .ok (.iaload, 1) := by decide +kernel
theorem dLa_law_578 : decode kLa_law 578 = .ok (.invokevirtual 82, 3) := by decide +kernel
theorem dLa_law_581 : decode kLa_law 581 = .ok (.aload_n 2, 1) := by decide +kernel
theorem dLa_law_582 : decode kLa_law 582 = .ok (.aload_n 0, 1) := by decide +kernel
theorem dLa_law_583 : decode kLa_law 583 = .ok (.iload_n 3, 1) := by decide +kernel
theorem dLa_law_584 : decode kLa_law 584 = .ok (.iconst 1, 1) := by decide +kernel
theorem dLa_law_585 : decode kLa_law 585 = .ok (.iadd, 1) := by decide +kernel
theorem dLa_law_586 : decode kLa_law 586 = .ok (.iaload, 1) := by decide +kernel
theorem dLa_law_587 : decode kLa_law 587 = .ok (.invokevirtual 85, 3) := by decide +kernel
theorem dLa_law_590 : decode kLa_law 590 = .ok (.if_icmp .eq 61, 3) := by decide +kernel
theorem dLa_law_593 : decode kLa_law 593 = .ok (.iconst 0, 1) := by decide +kernel
theorem dLa_law_594 : decode kLa_law 594 = .ok (.ireturn, 1) := by decide +kernel
theorem dLa_law_595 : decode kLa_law 595 = .ok (.aload_n 1, 1) := by decide +kernel
theorem dLa_law_596 : decode kLa_law 596 = .ok (.aload_n 0, 1) := by decide +kernel
theorem dLa_law_597 : decode kLa_law 597 = .ok (.iload_n 3, 1) := by decide +kernel
theorem dLa_law_598 : decode kLa_law 598 = .ok (.iconst 1, 1) := by decide +kernel
theorem dLa_law_599 : decode kLa_law 599 = .ok (.iadd, 1) := by decide +kernel
theorem dLa_law_600 : decode kLa_law 600 = .ok (.iaload, 1) := by decide +kernel
theorem dLa_law_601 : decode kLa_law 601 = .ok (.aload_n 0, 1) := by decide +kernel
theorem dLa_law_602 : decode kLa_law 602 = .ok (.iload_n 3, 1) := by decide +kernel
theorem dLa_law_603 : decode kLa_law 603 = .ok (.iconst 2, 1) := by decide +kernel
theorem dLa_law_604 : decode kLa_law 604 = .ok (.iadd, 1) := by decide +kernel
theorem dLa_law_605 : decode kLa_law 605 = .ok (.iaload, 1) := by decide +kernel
theorem dLa_law_606 : decode kLa_law 606 = .ok (.invokevirtual 86, 3) := by decide +kernel
theorem dLa_law_609 : decode kLa_law 609 = .ok (.aload_n 2, 1) := by decide +kernel
theorem dLa_law_610 : decode kLa_law 610 = .ok (.aload_n 0, 1) := by decide +kernel
theorem dLa_law_611 : decode kLa_law 611 = .ok (.iload_n 3, 1) := by decide +kernel
theorem dLa_law_612 : decode kLa_law 612 = .ok (.iconst 1, 1) := by decide +kernel
theorem dLa_law_613 : decode kLa_law 613 = .ok (.iadd, 1) := by decide +kernel
theorem dLa_law_614 : decode kLa_law 614 = .ok (.iaload, 1) := by decide +kernel
theorem dLa_law_615 : decode kLa_law 615 = .ok (.aload_n 0, 1) := by decide +kernel
theorem dLa_law_616 : decode kLa_law 616 = .ok (.iload_n 3, 1) := by decide +kernel
theorem dLa_law_617 : decode kLa_law 617 = .ok (.iconst 2, 1) := by decide +kernel
theorem dLa_law_618 : decode kLa_law 618 = .ok (.iadd, 1) := by decide +kernel
theorem dLa_law_619 : decode kLa_law 619 = .ok (.iaload, 1) := by decide +kernel
theorem dLa_law_620 : decode kLa_law 620 = .ok (.invokevirtual 89, 3) := by decide +kernel
theorem dLa_law_623 : decode kLa_law 623 = .ok (.if_icmp .eq 28, 3) := by decide +kernel
theorem dLa_law_626 : decode kLa_law 626 = .ok (.iconst 0, 1) := by decide +kernel
theorem dLa_law_627 : decode kLa_law 627 = .ok (.ireturn, 1) := by decide +kernel
theorem dLa_law_628 : decode kLa_law 628 = .ok (.aload_n 1, 1) := by decide +kernel
theorem dLa_law_629 : decode kLa_law 629 = .ok (.aload_n 0, 1) := by decide +kernel
theorem dLa_law_630 : decode kLa_law 630 = .ok (.iload_n 3, 1) := by decide +kernel
theorem dLa_law_631 : decode kLa_law 631 = .ok (.iconst 1, 1) := by decide +kernel
theorem dLa_law_632 : decode kLa_law 632 = .ok (.iadd, 1) := by decide +kernel
theorem dLa_law_633 : decode kLa_law 633 = .ok (.iaload, 1) := by decide +kernel
theorem dLa_law_634 : decode kLa_law 634 = .ok (.invokevirtual 90, 3) := by decide +kernel
theorem dLa_law_637 : decode kLa_law 637 = .ok (.aload_n 2, 1) := by decide +kernel
theorem dLa_law_638 : decode kLa_law 638 = .ok (.aload_n 0, 1) := by decide +kernel
theorem dLa_law_639 : decode kLa_law 639 = .ok (.iload_n 3, 1) := by decide +kernel
theorem dLa_law_640 : decode kLa_law 640 = .ok (.iconst 1, 1) := by decide +kernel
theorem dLa_law_641 : decode kLa_law 641 = .ok (.iadd, 1) := by decide +kernel
theorem dLa_law_642 : decode kLa_law 642 = .ok (.iaload, 1) := by decide +kernel
theorem dLa_law_643 : decode kLa_law 643 = .ok (.invokevirtual 93, 3) := by decide +kernel
theorem dLa_law_646 : decode kLa_law 646 = .ok (.if_icmp .eq 5, 3) := by decide +kernel
theorem dLa_law_649 : decode kLa_law 649 = .ok (.iconst 0, 1) := by decide +kernel
theorem dLa_law_650 : decode kLa_law 650 = .ok (.ireturn, 1) := by decide +kernel
theorem dLa_law_651 : decode kLa_law 651 = .ok (.iinc 3 6, 3) := by decide +kernel
theorem dLa_law_654 : decode kLa_law 654 = .ok (.goto (-636), 3) := by decide +kernel
theorem dLa_law_657 : decode kLa_law 657 = .ok (.iconst 1, 1) := by decide +kernel
theorem dLa_law_658 : decode kLa_law 658 = .ok (.ireturn, 1) := by decide +kernel
end
section
/-! the words that a call keeps; those of the nest and of arrays beside -/
def mn_keep (w : Cond) : Bool := (w.onTables && w.keeps) || (match w with | .arrayClass _ => true | _ => false)
def mn_W : List Cond := lw_tbl.filter mn_keep
theorem mn_good : ∀ w ∈ mn_W, (w.onTables && w.keeps) = true ∨ ∃ ty, w = .arrayClass ty := by
  intro w hw
  have h := (List.mem_filter.mp hw).2
  unfold mn_keep at h
  rw [Bool.or_eq_true] at h
  rcases h with h | h
  · exact Or.inl h
  · right
    cases w <;> first | exact ⟨_, rfl⟩ | cases h
def mn_kn (w : Cond) : Bool := match w with
  | .methodLinkNest .. => true
  | .arrayOver _ => true
  | _ => false
def mn_NW : List Cond := lw_tbl.filter mn_kn
theorem mn_over_moved {t : FieldType} {u U : State} (hvm : u.vm.Alike U.vm) (h : va_Nw (.arrayOver t) u) : va_Nw (.arrayOver t) U := by
  cases t with
  | object C => exact va_AO.moved hvm h
  | array ty =>
    unfold va_Nw Cond.before Cond.holds at h ⊢
    simp only [Cond.value] at h ⊢
    cases hc : u.vm.findClass (FieldType.array ty).toString with
    | none => rw [hc] at h; simp at h
    | some comp =>
      have hc' : U.vm.findClass (FieldType.array ty).toString = some comp := by rw [hvm.findClass]; exact hc
      rw [hc, Option.bind_some] at h
      rw [hc', Option.bind_some]
      have hi : (U.vm.classes.findIdx? fun (x : Class) => match x.kind with | .array component _ => component == comp | _ => false) = (u.vm.classes.findIdx? fun (x : Class) => match x.kind with | .array component _ => component == comp | _ => false) := by
        have h1 := va_idx_bare U.vm comp
        have h2 := va_idx_bare u.vm comp
        rw [hvm.bare_eq] at h1
        exact h1.symm.trans h2
      cases hx : (u.vm.classes.findIdx? fun (x : Class) => match x.kind with | .array component _ => component == comp | _ => false) with
      | none =>
        exfalso
        have h' := (congrArg (fun o : Option Nat => (o.bind (fun c => (u.vm.classes[c]?).map fun (k : Class) => match k.kind with | .array _ ty' => decide (ty' = FieldType.array ty) && decide (u.vm.findClass ("[" ++ (FieldType.array ty).toString) = some c) | _ => false) == some true)) hx).symm.trans h
        simp at h'
      | some c =>
        have h' := (congrArg (fun o : Option Nat => (o.bind (fun c => (u.vm.classes[c]?).map fun (k : Class) => match k.kind with | .array _ ty' => decide (ty' = FieldType.array ty) && decide (u.vm.findClass ("[" ++ (FieldType.array ty).toString) = some c) | _ => false) == some true)) hx).symm.trans h
        refine (congrArg (fun o : Option Nat => (o.bind (fun c => (U.vm.classes[c]?).map fun (k : Class) => match k.kind with | .array _ ty' => decide (ty' = FieldType.array ty) && decide (U.vm.findClass ("[" ++ (FieldType.array ty).toString) = some c) | _ => false) == some true)) (hi.trans hx)).trans ?_
        simp only [Option.bind_some] at h' ⊢
        cases hk : u.vm.classes[c]? with
        | none => rw [hk] at h'; simp at h'
        | some k =>
          obtain ⟨k', hk', he⟩ := hvm.2.2 _ _ hk
          have hkind : k'.kind = k.kind := by rw [he]
          rw [hk] at h'
          rw [hk']
          simp only [Option.map_some, hkind, hvm.findClass] at h' ⊢
          exact h'
  | _ =>
    unfold va_Nw Cond.before Cond.holds at h
    simp [Cond.value] at h
theorem mn_nw_warm (w : Cond) (hw : w ∈ mn_NW) {s U : State} (hW : s.WarmedH U.vm) (h : va_Nw w s) : va_Nw w U := by
  have h2 := (List.mem_filter.mp hw).2
  cases w <;> first | exact va_Nw.warmM hW h | exact mn_over_moved hW.alike h | cases h2
theorem mn_inW {w : Cond} (i : Nat) (h : lw_tbl[i]? = some w) (hk : mn_keep w = true) : w ∈ mn_W := List.mem_filter.mpr ⟨List.mem_of_getElem? h, hk⟩
theorem mn_inN {w : Cond} (i : Nat) (h : lw_tbl[i]? = some w) (hk : mn_kn w = true) : w ∈ mn_NW := List.mem_filter.mpr ⟨List.mem_of_getElem? h, hk⟩
theorem mn_uws (l : List Cond) (h : ∀ w ∈ l, w ∈ lw_tbl ∧ mn_keep w = true) : ∀ w ∈ l, w ∈ mn_W := fun w hw => List.mem_filter.mpr (h w hw)
/-- a class of ours: its number, name, fields, how many, their types -/
def mn_okC (ci : Nat) (C : String) (T : u_T) (N : Nat) (ty : Nat → FieldType) : Prop := vwCl[ci]? = some (C, T, N) ∧ (∀ w ∈ u_ws C T N, w ∈ mn_W) ∧ (∀ k, k < N → parseFieldDescriptor (T k).2.2.1 = some (ty k)) ∧ (∀ a, a < N → ∀ b, b < N → a ≠ b → (T a).2.1 ≠ (T b).2.1)
/-- a method of ours with n parameters -/
def mn_okM (M : mn_M) (n : Nat) : Prop := plainName M.1.cls = true ∧ Cond.code M.1 M.2.1 M.2.2.1 M.2.2.2 ∈ mn_W ∧ Cond.initialized M.1.cls ∈ mn_W ∧ (M.1.cls ≠ "java/lang/invoke/MethodHandle" ∧ M.1.cls ≠ "java/lang/invoke/VarHandle") ∧ (parseMethodDescriptor M.1.desc).map (fun d => d.parameters.length) = some n
def mn_okV (M : mn_M) (n : Nat) : Prop := mn_okM M n ∧ Cond.instanceMethod M.1 ∈ mn_W ∧ Cond.selects M.1.cls M.1 M.1 ∈ mn_W
def mn_okS (M : mn_M) (n : Nat) : Prop := mn_okM M n ∧ Cond.static M.1 ∈ mn_W
def mn_okI (M : mn_M) (n : Nat) : Prop := mn_okM M n ∧ M.1.name = "<init>" ∧ Cond.instanceMethod M.1 ∈ mn_W ∧ M.2.2.2 = none
end
section
theorem okEq : mn_okC 0 "VolumeSets$Equations" T_Eq 4 ty_Eq := ⟨rfl, mn_uws _ (by decide +kernel), by decide +kernel, by decide +kernel⟩
theorem inst_Eq : Cond.instantiable "VolumeSets$Equations" 4 ∈ mn_W := mn_inW 202 (by decide +kernel) (by decide +kernel)
theorem okOp : mn_okC 1 "VolumeSets$Opening" T_Op 4 ty_Op := ⟨rfl, mn_uws _ (by decide +kernel), by decide +kernel, by decide +kernel⟩
theorem inst_Op : Cond.instantiable "VolumeSets$Opening" 4 ∈ mn_W := mn_inW 255 (by decide +kernel) (by decide +kernel)
theorem okPc : mn_okC 2 "VolumeSets$Pieces" T_Pc 5 ty_Pc := ⟨rfl, mn_uws _ (by decide +kernel), by decide +kernel, by decide +kernel⟩
theorem inst_Pc : Cond.instantiable "VolumeSets$Pieces" 5 ∈ mn_W := mn_inW 83 (by decide +kernel) (by decide +kernel)
theorem okRd : mn_okC 3 "VolumeSets$Reading" T_Rd 8 ty_Rd := ⟨rfl, mn_uws _ (by decide +kernel), by decide +kernel, by decide +kernel⟩
theorem inst_Rd : Cond.instantiable "VolumeSets$Reading" 8 ∈ mn_W := mn_inW 194 (by decide +kernel) (by decide +kernel)
theorem okRu : mn_okC 4 "VolumeSets$Rules" T_Ru 3 ty_Ru := ⟨rfl, mn_uws _ (by decide +kernel), by decide +kernel, by decide +kernel⟩
theorem inst_Ru : Cond.instantiable "VolumeSets$Rules" 3 ∈ mn_W := mn_inW 130 (by decide +kernel) (by decide +kernel)
theorem okSl : mn_okC 5 "VolumeSets$Slots" T_Sl 1 ty_Sl := ⟨rfl, mn_uws _ (by decide +kernel), by decide +kernel, by decide +kernel⟩
theorem inst_Sl : Cond.instantiable "VolumeSets$Slots" 1 ∈ mn_W := mn_inW 181 (by decide +kernel) (by decide +kernel)
theorem okSt : mn_okC 6 "VolumeSets$Stream" T_St 4 ty_St := ⟨rfl, mn_uws _ (by decide +kernel), by decide +kernel, by decide +kernel⟩
theorem inst_St : Cond.instantiable "VolumeSets$Stream" 4 ∈ mn_W := mn_inW 77 (by decide +kernel) (by decide +kernel)
theorem okTa : mn_okC 7 "VolumeSets$Tape" T_Ta 2 ty_Ta := ⟨rfl, mn_uws _ (by decide +kernel), by decide +kernel, by decide +kernel⟩
theorem inst_Ta : Cond.instantiable "VolumeSets$Tape" 2 ∈ mn_W := mn_inW 61 (by decide +kernel) (by decide +kernel)
theorem okVo : mn_okC 8 "VolumeSets$Volume" T_Vo 2 ty_Vo := ⟨rfl, mn_uws _ (by decide +kernel), by decide +kernel, by decide +kernel⟩
theorem inst_Vo : Cond.instantiable "VolumeSets$Volume" 2 ∈ mn_W := mn_inW 158 (by decide +kernel) (by decide +kernel)
theorem okWr : mn_okC 9 "VolumeSets$Writer" T_Wr 1 ty_Wr := ⟨rfl, mn_uws _ (by decide +kernel), by decide +kernel, by decide +kernel⟩
theorem inst_Wr : Cond.instantiable "VolumeSets$Writer" 1 ∈ mn_W := mn_inW 152 (by decide +kernel) (by decide +kernel)
theorem okVS : mn_okC 10 "VolumeSets" T_VS 7 ty_VS := ⟨rfl, mn_uws _ (by decide +kernel), by decide +kernel, by decide +kernel⟩
theorem inst_VS : Cond.instantiable "VolumeSets" 7 ∈ mn_W := mn_inW 53 (by decide +kernel) (by decide +kernel)
theorem okMo : mn_okC 11 "VolumeSetsModel" T_Mo 29 ty_Mo := ⟨rfl, mn_uws _ (by decide +kernel), by decide +kernel, by decide +kernel⟩
theorem inst_Mo : Cond.instantiable "VolumeSetsModel" 29 ∈ mn_W := mn_inW 710 (by decide +kernel) (by decide +kernel)
theorem ini_By : Cond.initialized "VolumeSets$Bytes" ∈ mn_W := mn_inW 49 (by decide +kernel) (by decide +kernel)
theorem ini_Eq : Cond.initialized "VolumeSets$Equations" ∈ mn_W := mn_inW 46 (by decide +kernel) (by decide +kernel)
theorem ini_Op : Cond.initialized "VolumeSets$Opening" ∈ mn_W := mn_inW 47 (by decide +kernel) (by decide +kernel)
theorem ini_Pc : Cond.initialized "VolumeSets$Pieces" ∈ mn_W := mn_inW 39 (by decide +kernel) (by decide +kernel)
theorem ini_Rd : Cond.initialized "VolumeSets$Reading" ∈ mn_W := mn_inW 45 (by decide +kernel) (by decide +kernel)
theorem ini_Ru : Cond.initialized "VolumeSets$Rules" ∈ mn_W := mn_inW 41 (by decide +kernel) (by decide +kernel)
theorem ini_Sl : Cond.initialized "VolumeSets$Slots" ∈ mn_W := mn_inW 44 (by decide +kernel) (by decide +kernel)
theorem ini_St : Cond.initialized "VolumeSets$Stream" ∈ mn_W := mn_inW 38 (by decide +kernel) (by decide +kernel)
theorem ini_Ta : Cond.initialized "VolumeSets$Tape" ∈ mn_W := mn_inW 37 (by decide +kernel) (by decide +kernel)
theorem ini_Vo : Cond.initialized "VolumeSets$Volume" ∈ mn_W := mn_inW 43 (by decide +kernel) (by decide +kernel)
theorem ini_Wr : Cond.initialized "VolumeSets$Writer" ∈ mn_W := mn_inW 42 (by decide +kernel) (by decide +kernel)
theorem ini_VS : Cond.initialized "VolumeSets" ∈ mn_W := mn_inW 36 (by decide +kernel) (by decide +kernel)
theorem ini_Mo : Cond.initialized "VolumeSetsModel" ∈ mn_W := mn_inW 48 (by decide +kernel) (by decide +kernel)
theorem ini_La : Cond.initialized "VolumeSetsLaw" ∈ mn_W := mn_inW 35 (by decide +kernel) (by decide +kernel)
theorem ini_Ar : Cond.initialized "java/util/Arrays" ∈ mn_W := mn_inW 50 (by decide +kernel) (by decide +kernel)
theorem ini_Math : Cond.initialized "java/lang/Math" ∈ mn_W := mn_inW 40 (by decide +kernel) (by decide +kernel)
theorem ini_System : Cond.initialized "java/lang/System" ∈ mn_W := mn_inW 51 (by decide +kernel) (by decide +kernel)
theorem okVS_init : mn_okI MVS_init 0 := ⟨⟨by decide +kernel, mn_inW 56 (by decide +kernel) (by decide +kernel), ini_VS, ⟨by decide +kernel, by decide +kernel⟩, by decide +kernel⟩, rfl, mn_inW 55 (by decide +kernel) (by decide +kernel), rfl⟩
theorem okTa_init : mn_okI MTa_init 0 := ⟨⟨by decide +kernel, mn_inW 64 (by decide +kernel) (by decide +kernel), ini_Ta, ⟨by decide +kernel, by decide +kernel⟩, by decide +kernel⟩, rfl, mn_inW 63 (by decide +kernel) (by decide +kernel), rfl⟩
theorem okSt_init : mn_okI MSt_init 0 := ⟨⟨by decide +kernel, mn_inW 80 (by decide +kernel) (by decide +kernel), ini_St, ⟨by decide +kernel, by decide +kernel⟩, by decide +kernel⟩, rfl, mn_inW 79 (by decide +kernel) (by decide +kernel), rfl⟩
theorem okPc_init : mn_okI MPc_init 1 := ⟨⟨by decide +kernel, mn_inW 86 (by decide +kernel) (by decide +kernel), ini_Pc, ⟨by decide +kernel, by decide +kernel⟩, by decide +kernel⟩, rfl, mn_inW 85 (by decide +kernel) (by decide +kernel), rfl⟩
theorem okRu_init : mn_okI MRu_init 0 := ⟨⟨by decide +kernel, mn_inW 133 (by decide +kernel) (by decide +kernel), ini_Ru, ⟨by decide +kernel, by decide +kernel⟩, by decide +kernel⟩, rfl, mn_inW 132 (by decide +kernel) (by decide +kernel), rfl⟩
theorem okWr_init : mn_okI MWr_init 0 := ⟨⟨by decide +kernel, mn_inW 155 (by decide +kernel) (by decide +kernel), ini_Wr, ⟨by decide +kernel, by decide +kernel⟩, by decide +kernel⟩, rfl, mn_inW 154 (by decide +kernel) (by decide +kernel), rfl⟩
theorem okVo_init : mn_okI MVo_init 0 := ⟨⟨by decide +kernel, mn_inW 161 (by decide +kernel) (by decide +kernel), ini_Vo, ⟨by decide +kernel, by decide +kernel⟩, by decide +kernel⟩, rfl, mn_inW 160 (by decide +kernel) (by decide +kernel), rfl⟩
theorem okSl_init : mn_okI MSl_init 0 := ⟨⟨by decide +kernel, mn_inW 184 (by decide +kernel) (by decide +kernel), ini_Sl, ⟨by decide +kernel, by decide +kernel⟩, by decide +kernel⟩, rfl, mn_inW 183 (by decide +kernel) (by decide +kernel), rfl⟩
theorem okRd_init : mn_okI MRd_init 0 := ⟨⟨by decide +kernel, mn_inW 197 (by decide +kernel) (by decide +kernel), ini_Rd, ⟨by decide +kernel, by decide +kernel⟩, by decide +kernel⟩, rfl, mn_inW 196 (by decide +kernel) (by decide +kernel), rfl⟩
theorem okEq_init : mn_okI MEq_init 0 := ⟨⟨by decide +kernel, mn_inW 205 (by decide +kernel) (by decide +kernel), ini_Eq, ⟨by decide +kernel, by decide +kernel⟩, by decide +kernel⟩, rfl, mn_inW 204 (by decide +kernel) (by decide +kernel), rfl⟩
theorem okOp_init : mn_okI MOp_init 0 := ⟨⟨by decide +kernel, mn_inW 258 (by decide +kernel) (by decide +kernel), ini_Op, ⟨by decide +kernel, by decide +kernel⟩, by decide +kernel⟩, rfl, mn_inW 257 (by decide +kernel) (by decide +kernel), rfl⟩
theorem okVS_feed : mn_okV MVS_feed 5 := ⟨⟨by decide +kernel, mn_inW 299 (by decide +kernel) (by decide +kernel), ini_VS, ⟨by decide +kernel, by decide +kernel⟩, by decide +kernel⟩, mn_inW 297 (by decide +kernel) (by decide +kernel), mn_inW 298 (by decide +kernel) (by decide +kernel)⟩
theorem okTa_addNumber : mn_okV MTa_addNumber 1 := ⟨⟨by decide +kernel, mn_inW 303 (by decide +kernel) (by decide +kernel), ini_Ta, ⟨by decide +kernel, by decide +kernel⟩, by decide +kernel⟩, mn_inW 301 (by decide +kernel) (by decide +kernel), mn_inW 302 (by decide +kernel) (by decide +kernel)⟩
theorem okTa_add : mn_okV MTa_add 1 := ⟨⟨by decide +kernel, mn_inW 307 (by decide +kernel) (by decide +kernel), ini_Ta, ⟨by decide +kernel, by decide +kernel⟩, by decide +kernel⟩, mn_inW 306 (by decide +kernel) (by decide +kernel), mn_inW 0 (by decide +kernel) (by decide +kernel)⟩
theorem okVS_end : mn_okV MVS_end 1 := ⟨⟨by decide +kernel, mn_inW 311 (by decide +kernel) (by decide +kernel), ini_VS, ⟨by decide +kernel, by decide +kernel⟩, by decide +kernel⟩, mn_inW 309 (by decide +kernel) (by decide +kernel), mn_inW 310 (by decide +kernel) (by decide +kernel)⟩
theorem okVS_entry : mn_okV MVS_entry 0 := ⟨⟨by decide +kernel, mn_inW 315 (by decide +kernel) (by decide +kernel), ini_VS, ⟨by decide +kernel, by decide +kernel⟩, by decide +kernel⟩, mn_inW 313 (by decide +kernel) (by decide +kernel), mn_inW 314 (by decide +kernel) (by decide +kernel)⟩
theorem okSt_append : mn_okV MSt_append 1 := ⟨⟨by decide +kernel, mn_inW 319 (by decide +kernel) (by decide +kernel), ini_St, ⟨by decide +kernel, by decide +kernel⟩, by decide +kernel⟩, mn_inW 317 (by decide +kernel) (by decide +kernel), mn_inW 318 (by decide +kernel) (by decide +kernel)⟩
theorem okTa_sum : mn_okV MTa_sum 0 := ⟨⟨by decide +kernel, mn_inW 323 (by decide +kernel) (by decide +kernel), ini_Ta, ⟨by decide +kernel, by decide +kernel⟩, by decide +kernel⟩, mn_inW 321 (by decide +kernel) (by decide +kernel), mn_inW 322 (by decide +kernel) (by decide +kernel)⟩
theorem okBy_sum : mn_okS MBy_sum 3 := ⟨⟨by decide +kernel, mn_inW 326 (by decide +kernel) (by decide +kernel), ini_By, ⟨by decide +kernel, by decide +kernel⟩, by decide +kernel⟩, mn_inW 325 (by decide +kernel) (by decide +kernel)⟩
theorem okSt_add : mn_okV MSt_add 1 := ⟨⟨by decide +kernel, mn_inW 332 (by decide +kernel) (by decide +kernel), ini_St, ⟨by decide +kernel, by decide +kernel⟩, by decide +kernel⟩, mn_inW 331 (by decide +kernel) (by decide +kernel), mn_inW 1 (by decide +kernel) (by decide +kernel)⟩
theorem okPc_put : mn_okV MPc_put 2 := ⟨⟨by decide +kernel, mn_inW 336 (by decide +kernel) (by decide +kernel), ini_Pc, ⟨by decide +kernel, by decide +kernel⟩, by decide +kernel⟩, mn_inW 334 (by decide +kernel) (by decide +kernel), mn_inW 335 (by decide +kernel) (by decide +kernel)⟩
theorem okTa_byteAt : mn_okV MTa_byteAt 1 := ⟨⟨by decide +kernel, mn_inW 340 (by decide +kernel) (by decide +kernel), ini_Ta, ⟨by decide +kernel, by decide +kernel⟩, by decide +kernel⟩, mn_inW 338 (by decide +kernel) (by decide +kernel), mn_inW 339 (by decide +kernel) (by decide +kernel)⟩
theorem okVS_clear : mn_okV MVS_clear 0 := ⟨⟨by decide +kernel, mn_inW 344 (by decide +kernel) (by decide +kernel), ini_VS, ⟨by decide +kernel, by decide +kernel⟩, by decide +kernel⟩, mn_inW 342 (by decide +kernel) (by decide +kernel), mn_inW 343 (by decide +kernel) (by decide +kernel)⟩
theorem okSt_forgetAll : mn_okV MSt_forgetAll 0 := ⟨⟨by decide +kernel, mn_inW 348 (by decide +kernel) (by decide +kernel), ini_St, ⟨by decide +kernel, by decide +kernel⟩, by decide +kernel⟩, mn_inW 346 (by decide +kernel) (by decide +kernel), mn_inW 347 (by decide +kernel) (by decide +kernel)⟩
theorem okPc_blank : mn_okV MPc_blank 0 := ⟨⟨by decide +kernel, mn_inW 352 (by decide +kernel) (by decide +kernel), ini_Pc, ⟨by decide +kernel, by decide +kernel⟩, by decide +kernel⟩, mn_inW 350 (by decide +kernel) (by decide +kernel), mn_inW 351 (by decide +kernel) (by decide +kernel)⟩
theorem okAr_fill : mn_okS MAr_fill 2 := ⟨⟨by decide +kernel, mn_inW 355 (by decide +kernel) (by decide +kernel), ini_Ar, ⟨by decide +kernel, by decide +kernel⟩, by decide +kernel⟩, mn_inW 354 (by decide +kernel) (by decide +kernel)⟩
theorem okVS_rule : mn_okV MVS_rule 2 := ⟨⟨by decide +kernel, mn_inW 359 (by decide +kernel) (by decide +kernel), ini_VS, ⟨by decide +kernel, by decide +kernel⟩, by decide +kernel⟩, mn_inW 357 (by decide +kernel) (by decide +kernel), mn_inW 358 (by decide +kernel) (by decide +kernel)⟩
theorem okRu_change : mn_okV MRu_change 2 := ⟨⟨by decide +kernel, mn_inW 363 (by decide +kernel) (by decide +kernel), ini_Ru, ⟨by decide +kernel, by decide +kernel⟩, by decide +kernel⟩, mn_inW 361 (by decide +kernel) (by decide +kernel), mn_inW 362 (by decide +kernel) (by decide +kernel)⟩
theorem okRu_changeSize : mn_okV MRu_changeSize 1 := ⟨⟨by decide +kernel, mn_inW 367 (by decide +kernel) (by decide +kernel), ini_Ru, ⟨by decide +kernel, by decide +kernel⟩, by decide +kernel⟩, mn_inW 366 (by decide +kernel) (by decide +kernel), mn_inW 2 (by decide +kernel) (by decide +kernel)⟩
theorem okRu_changeRepairs : mn_okV MRu_changeRepairs 1 := ⟨⟨by decide +kernel, mn_inW 371 (by decide +kernel) (by decide +kernel), ini_Ru, ⟨by decide +kernel, by decide +kernel⟩, by decide +kernel⟩, mn_inW 370 (by decide +kernel) (by decide +kernel), mn_inW 3 (by decide +kernel) (by decide +kernel)⟩
theorem okRu_changeSet : mn_okV MRu_changeSet 1 := ⟨⟨by decide +kernel, mn_inW 375 (by decide +kernel) (by decide +kernel), ini_Ru, ⟨by decide +kernel, by decide +kernel⟩, by decide +kernel⟩, mn_inW 374 (by decide +kernel) (by decide +kernel), mn_inW 4 (by decide +kernel) (by decide +kernel)⟩
theorem okVS_volumes : mn_okV MVS_volumes 0 := ⟨⟨by decide +kernel, mn_inW 379 (by decide +kernel) (by decide +kernel), ini_VS, ⟨by decide +kernel, by decide +kernel⟩, by decide +kernel⟩, mn_inW 377 (by decide +kernel) (by decide +kernel), mn_inW 378 (by decide +kernel) (by decide +kernel)⟩
theorem okRu_width : mn_okV MRu_width 0 := ⟨⟨by decide +kernel, mn_inW 383 (by decide +kernel) (by decide +kernel), ini_Ru, ⟨by decide +kernel, by decide +kernel⟩, by decide +kernel⟩, mn_inW 381 (by decide +kernel) (by decide +kernel), mn_inW 382 (by decide +kernel) (by decide +kernel)⟩
theorem okSt_pieceCount : mn_okV MSt_pieceCount 1 := ⟨⟨by decide +kernel, mn_inW 387 (by decide +kernel) (by decide +kernel), ini_St, ⟨by decide +kernel, by decide +kernel⟩, by decide +kernel⟩, mn_inW 385 (by decide +kernel) (by decide +kernel), mn_inW 386 (by decide +kernel) (by decide +kernel)⟩
theorem okBy_quotient : mn_okS MBy_quotient 2 := ⟨⟨by decide +kernel, mn_inW 390 (by decide +kernel) (by decide +kernel), ini_By, ⟨by decide +kernel, by decide +kernel⟩, by decide +kernel⟩, mn_inW 389 (by decide +kernel) (by decide +kernel)⟩
theorem okVS_byteOf : mn_okV MVS_byteOf 2 := ⟨⟨by decide +kernel, mn_inW 395 (by decide +kernel) (by decide +kernel), ini_VS, ⟨by decide +kernel, by decide +kernel⟩, by decide +kernel⟩, mn_inW 393 (by decide +kernel) (by decide +kernel), mn_inW 394 (by decide +kernel) (by decide +kernel)⟩
theorem okSt_divide : mn_okV MSt_divide 1 := ⟨⟨by decide +kernel, mn_inW 400 (by decide +kernel) (by decide +kernel), ini_St, ⟨by decide +kernel, by decide +kernel⟩, by decide +kernel⟩, mn_inW 398 (by decide +kernel) (by decide +kernel), mn_inW 399 (by decide +kernel) (by decide +kernel)⟩
theorem okPc_putPart : mn_okV MPc_putPart 3 := ⟨⟨by decide +kernel, mn_inW 408 (by decide +kernel) (by decide +kernel), ini_Pc, ⟨by decide +kernel, by decide +kernel⟩, by decide +kernel⟩, mn_inW 406 (by decide +kernel) (by decide +kernel), mn_inW 407 (by decide +kernel) (by decide +kernel)⟩
theorem okSt_startIn : mn_okV MSt_startIn 2 := ⟨⟨by decide +kernel, mn_inW 413 (by decide +kernel) (by decide +kernel), ini_St, ⟨by decide +kernel, by decide +kernel⟩, by decide +kernel⟩, mn_inW 412 (by decide +kernel) (by decide +kernel), mn_inW 5 (by decide +kernel) (by decide +kernel)⟩
theorem okWr_make : mn_okV MWr_make 3 := ⟨⟨by decide +kernel, mn_inW 417 (by decide +kernel) (by decide +kernel), ini_Wr, ⟨by decide +kernel, by decide +kernel⟩, by decide +kernel⟩, mn_inW 415 (by decide +kernel) (by decide +kernel), mn_inW 416 (by decide +kernel) (by decide +kernel)⟩
theorem okVo_put : mn_okV MVo_put 2 := ⟨⟨by decide +kernel, mn_inW 421 (by decide +kernel) (by decide +kernel), ini_Vo, ⟨by decide +kernel, by decide +kernel⟩, by decide +kernel⟩, mn_inW 419 (by decide +kernel) (by decide +kernel), mn_inW 420 (by decide +kernel) (by decide +kernel)⟩
theorem okPc_part : mn_okV MPc_part 2 := ⟨⟨by decide +kernel, mn_inW 425 (by decide +kernel) (by decide +kernel), ini_Pc, ⟨by decide +kernel, by decide +kernel⟩, by decide +kernel⟩, mn_inW 423 (by decide +kernel) (by decide +kernel), mn_inW 424 (by decide +kernel) (by decide +kernel)⟩
theorem okPc_byteAt : mn_okV MPc_byteAt 1 := ⟨⟨by decide +kernel, mn_inW 429 (by decide +kernel) (by decide +kernel), ini_Pc, ⟨by decide +kernel, by decide +kernel⟩, by decide +kernel⟩, mn_inW 427 (by decide +kernel) (by decide +kernel), mn_inW 428 (by decide +kernel) (by decide +kernel)⟩
theorem okPc_mixed : mn_okV MPc_mixed 2 := ⟨⟨by decide +kernel, mn_inW 433 (by decide +kernel) (by decide +kernel), ini_Pc, ⟨by decide +kernel, by decide +kernel⟩, by decide +kernel⟩, mn_inW 431 (by decide +kernel) (by decide +kernel), mn_inW 432 (by decide +kernel) (by decide +kernel)⟩
theorem okBy_raised : mn_okS MBy_raised 2 := ⟨⟨by decide +kernel, mn_inW 436 (by decide +kernel) (by decide +kernel), ini_By, ⟨by decide +kernel, by decide +kernel⟩, by decide +kernel⟩, mn_inW 435 (by decide +kernel) (by decide +kernel)⟩
theorem okBy_twice : mn_okS MBy_twice 1 := ⟨⟨by decide +kernel, mn_inW 439 (by decide +kernel) (by decide +kernel), ini_By, ⟨by decide +kernel, by decide +kernel⟩, by decide +kernel⟩, mn_inW 438 (by decide +kernel) (by decide +kernel)⟩
theorem okVo_seal : mn_okV MVo_seal 0 := ⟨⟨by decide +kernel, mn_inW 444 (by decide +kernel) (by decide +kernel), ini_Vo, ⟨by decide +kernel, by decide +kernel⟩, by decide +kernel⟩, mn_inW 442 (by decide +kernel) (by decide +kernel), mn_inW 443 (by decide +kernel) (by decide +kernel)⟩
theorem okVo_putSum : mn_okV MVo_putSum 2 := ⟨⟨by decide +kernel, mn_inW 449 (by decide +kernel) (by decide +kernel), ini_Vo, ⟨by decide +kernel, by decide +kernel⟩, by decide +kernel⟩, mn_inW 448 (by decide +kernel) (by decide +kernel), mn_inW 6 (by decide +kernel) (by decide +kernel)⟩
theorem okVo_byteAt : mn_okV MVo_byteAt 1 := ⟨⟨by decide +kernel, mn_inW 454 (by decide +kernel) (by decide +kernel), ini_Vo, ⟨by decide +kernel, by decide +kernel⟩, by decide +kernel⟩, mn_inW 452 (by decide +kernel) (by decide +kernel), mn_inW 453 (by decide +kernel) (by decide +kernel)⟩
theorem okVS_write : mn_okV MVS_write 1 := ⟨⟨by decide +kernel, mn_inW 458 (by decide +kernel) (by decide +kernel), ini_VS, ⟨by decide +kernel, by decide +kernel⟩, by decide +kernel⟩, mn_inW 456 (by decide +kernel) (by decide +kernel), mn_inW 457 (by decide +kernel) (by decide +kernel)⟩
theorem okWr_missingIn : mn_okV MWr_missingIn 3 := ⟨⟨by decide +kernel, mn_inW 462 (by decide +kernel) (by decide +kernel), ini_Wr, ⟨by decide +kernel, by decide +kernel⟩, by decide +kernel⟩, mn_inW 460 (by decide +kernel) (by decide +kernel), mn_inW 461 (by decide +kernel) (by decide +kernel)⟩
theorem okSl_hold : mn_okV MSl_hold 1 := ⟨⟨by decide +kernel, mn_inW 467 (by decide +kernel) (by decide +kernel), ini_Sl, ⟨by decide +kernel, by decide +kernel⟩, by decide +kernel⟩, mn_inW 465 (by decide +kernel) (by decide +kernel), mn_inW 466 (by decide +kernel) (by decide +kernel)⟩
theorem okVo_hasJustTheBytesOf : mn_okV MVo_hasJustTheBytesOf 1 := ⟨⟨by decide +kernel, mn_inW 471 (by decide +kernel) (by decide +kernel), ini_Vo, ⟨by decide +kernel, by decide +kernel⟩, by decide +kernel⟩, mn_inW 469 (by decide +kernel) (by decide +kernel), mn_inW 470 (by decide +kernel) (by decide +kernel)⟩
theorem okSl_filled : mn_okV MSl_filled 0 := ⟨⟨by decide +kernel, mn_inW 477 (by decide +kernel) (by decide +kernel), ini_Sl, ⟨by decide +kernel, by decide +kernel⟩, by decide +kernel⟩, mn_inW 475 (by decide +kernel) (by decide +kernel), mn_inW 476 (by decide +kernel) (by decide +kernel)⟩
theorem okWr_fill : mn_okV MWr_fill 4 := ⟨⟨by decide +kernel, mn_inW 481 (by decide +kernel) (by decide +kernel), ini_Wr, ⟨by decide +kernel, by decide +kernel⟩, by decide +kernel⟩, mn_inW 479 (by decide +kernel) (by decide +kernel), mn_inW 480 (by decide +kernel) (by decide +kernel)⟩
theorem okVo_cutOff : mn_okV MVo_cutOff 0 := ⟨⟨by decide +kernel, mn_inW 485 (by decide +kernel) (by decide +kernel), ini_Vo, ⟨by decide +kernel, by decide +kernel⟩, by decide +kernel⟩, mn_inW 483 (by decide +kernel) (by decide +kernel), mn_inW 484 (by decide +kernel) (by decide +kernel)⟩
theorem okSl_putIntoLeastEmpty : mn_okV MSl_putIntoLeastEmpty 1 := ⟨⟨by decide +kernel, mn_inW 489 (by decide +kernel) (by decide +kernel), ini_Sl, ⟨by decide +kernel, by decide +kernel⟩, by decide +kernel⟩, mn_inW 487 (by decide +kernel) (by decide +kernel), mn_inW 488 (by decide +kernel) (by decide +kernel)⟩
theorem okVo_become : mn_okV MVo_become 1 := ⟨⟨by decide +kernel, mn_inW 493 (by decide +kernel) (by decide +kernel), ini_Vo, ⟨by decide +kernel, by decide +kernel⟩, by decide +kernel⟩, mn_inW 491 (by decide +kernel) (by decide +kernel), mn_inW 492 (by decide +kernel) (by decide +kernel)⟩
theorem okVS_lose : mn_okV MVS_lose 1 := ⟨⟨by decide +kernel, mn_inW 500 (by decide +kernel) (by decide +kernel), ini_VS, ⟨by decide +kernel, by decide +kernel⟩, by decide +kernel⟩, mn_inW 498 (by decide +kernel) (by decide +kernel), mn_inW 499 (by decide +kernel) (by decide +kernel)⟩
theorem okSl_at : mn_okV MSl_at 1 := ⟨⟨by decide +kernel, mn_inW 504 (by decide +kernel) (by decide +kernel), ini_Sl, ⟨by decide +kernel, by decide +kernel⟩, by decide +kernel⟩, mn_inW 502 (by decide +kernel) (by decide +kernel), mn_inW 503 (by decide +kernel) (by decide +kernel)⟩
theorem okVS_poke : mn_okV MVS_poke 3 := ⟨⟨by decide +kernel, mn_inW 508 (by decide +kernel) (by decide +kernel), ini_VS, ⟨by decide +kernel, by decide +kernel⟩, by decide +kernel⟩, mn_inW 506 (by decide +kernel) (by decide +kernel), mn_inW 507 (by decide +kernel) (by decide +kernel)⟩
theorem okVS_swap : mn_okV MVS_swap 2 := ⟨⟨by decide +kernel, mn_inW 513 (by decide +kernel) (by decide +kernel), ini_VS, ⟨by decide +kernel, by decide +kernel⟩, by decide +kernel⟩, mn_inW 511 (by decide +kernel) (by decide +kernel), mn_inW 512 (by decide +kernel) (by decide +kernel)⟩
theorem okSl_exchange : mn_okV MSl_exchange 2 := ⟨⟨by decide +kernel, mn_inW 517 (by decide +kernel) (by decide +kernel), ini_Sl, ⟨by decide +kernel, by decide +kernel⟩, by decide +kernel⟩, mn_inW 515 (by decide +kernel) (by decide +kernel), mn_inW 516 (by decide +kernel) (by decide +kernel)⟩
theorem okVS_copy : mn_okV MVS_copy 2 := ⟨⟨by decide +kernel, mn_inW 522 (by decide +kernel) (by decide +kernel), ini_VS, ⟨by decide +kernel, by decide +kernel⟩, by decide +kernel⟩, mn_inW 520 (by decide +kernel) (by decide +kernel), mn_inW 521 (by decide +kernel) (by decide +kernel)⟩
theorem okVS_slot : mn_okV MVS_slot 2 := ⟨⟨by decide +kernel, mn_inW 527 (by decide +kernel) (by decide +kernel), ini_VS, ⟨by decide +kernel, by decide +kernel⟩, by decide +kernel⟩, mn_inW 525 (by decide +kernel) (by decide +kernel), mn_inW 526 (by decide +kernel) (by decide +kernel)⟩
theorem okVo_state : mn_okV MVo_state 0 := ⟨⟨by decide +kernel, mn_inW 531 (by decide +kernel) (by decide +kernel), ini_Vo, ⟨by decide +kernel, by decide +kernel⟩, by decide +kernel⟩, mn_inW 529 (by decide +kernel) (by decide +kernel), mn_inW 530 (by decide +kernel) (by decide +kernel)⟩
theorem okVo_hasHead : mn_okV MVo_hasHead 0 := ⟨⟨by decide +kernel, mn_inW 535 (by decide +kernel) (by decide +kernel), ini_Vo, ⟨by decide +kernel, by decide +kernel⟩, by decide +kernel⟩, mn_inW 533 (by decide +kernel) (by decide +kernel), mn_inW 534 (by decide +kernel) (by decide +kernel)⟩
theorem okVo_sumAt : mn_okV MVo_sumAt 1 := ⟨⟨by decide +kernel, mn_inW 539 (by decide +kernel) (by decide +kernel), ini_Vo, ⟨by decide +kernel, by decide +kernel⟩, by decide +kernel⟩, mn_inW 538 (by decide +kernel) (by decide +kernel), mn_inW 7 (by decide +kernel) (by decide +kernel)⟩
theorem okVS_read : mn_okV MVS_read 1 := ⟨⟨by decide +kernel, mn_inW 544 (by decide +kernel) (by decide +kernel), ini_VS, ⟨by decide +kernel, by decide +kernel⟩, by decide +kernel⟩, mn_inW 542 (by decide +kernel) (by decide +kernel), mn_inW 543 (by decide +kernel) (by decide +kernel)⟩
theorem okRd_gather : mn_okV MRd_gather 2 := ⟨⟨by decide +kernel, mn_inW 548 (by decide +kernel) (by decide +kernel), ini_Rd, ⟨by decide +kernel, by decide +kernel⟩, by decide +kernel⟩, mn_inW 546 (by decide +kernel) (by decide +kernel), mn_inW 547 (by decide +kernel) (by decide +kernel)⟩
theorem okSl_firstGood : mn_okV MSl_firstGood 1 := ⟨⟨by decide +kernel, mn_inW 552 (by decide +kernel) (by decide +kernel), ini_Sl, ⟨by decide +kernel, by decide +kernel⟩, by decide +kernel⟩, mn_inW 550 (by decide +kernel) (by decide +kernel), mn_inW 551 (by decide +kernel) (by decide +kernel)⟩
theorem okVo_isGoodOf : mn_okV MVo_isGoodOf 1 := ⟨⟨by decide +kernel, mn_inW 556 (by decide +kernel) (by decide +kernel), ini_Vo, ⟨by decide +kernel, by decide +kernel⟩, by decide +kernel⟩, mn_inW 554 (by decide +kernel) (by decide +kernel), mn_inW 555 (by decide +kernel) (by decide +kernel)⟩
theorem okRd_begin : mn_okV MRd_begin 1 := ⟨⟨by decide +kernel, mn_inW 561 (by decide +kernel) (by decide +kernel), ini_Rd, ⟨by decide +kernel, by decide +kernel⟩, by decide +kernel⟩, mn_inW 560 (by decide +kernel) (by decide +kernel), mn_inW 8 (by decide +kernel) (by decide +kernel)⟩
theorem okVo_isAsWideAndManyAs : mn_okV MVo_isAsWideAndManyAs 1 := ⟨⟨by decide +kernel, mn_inW 570 (by decide +kernel) (by decide +kernel), ini_Vo, ⟨by decide +kernel, by decide +kernel⟩, by decide +kernel⟩, mn_inW 568 (by decide +kernel) (by decide +kernel), mn_inW 569 (by decide +kernel) (by decide +kernel)⟩
theorem okRd_take : mn_okV MRd_take 2 := ⟨⟨by decide +kernel, mn_inW 574 (by decide +kernel) (by decide +kernel), ini_Rd, ⟨by decide +kernel, by decide +kernel⟩, by decide +kernel⟩, mn_inW 573 (by decide +kernel) (by decide +kernel), mn_inW 9 (by decide +kernel) (by decide +kernel)⟩
theorem okRd_placeOf : mn_okV MRd_placeOf 1 := ⟨⟨by decide +kernel, mn_inW 578 (by decide +kernel) (by decide +kernel), ini_Rd, ⟨by decide +kernel, by decide +kernel⟩, by decide +kernel⟩, mn_inW 576 (by decide +kernel) (by decide +kernel), mn_inW 577 (by decide +kernel) (by decide +kernel)⟩
theorem okRd_setPlace : mn_okV MRd_setPlace 2 := ⟨⟨by decide +kernel, mn_inW 582 (by decide +kernel) (by decide +kernel), ini_Rd, ⟨by decide +kernel, by decide +kernel⟩, by decide +kernel⟩, mn_inW 581 (by decide +kernel) (by decide +kernel), mn_inW 10 (by decide +kernel) (by decide +kernel)⟩
theorem okRd_makeAgain : mn_okV MRd_makeAgain 1 := ⟨⟨by decide +kernel, mn_inW 587 (by decide +kernel) (by decide +kernel), ini_Rd, ⟨by decide +kernel, by decide +kernel⟩, by decide +kernel⟩, mn_inW 586 (by decide +kernel) (by decide +kernel), mn_inW 11 (by decide +kernel) (by decide +kernel)⟩
theorem okRd_repairsOfIt : mn_okV MRd_repairsOfIt 0 := ⟨⟨by decide +kernel, mn_inW 591 (by decide +kernel) (by decide +kernel), ini_Rd, ⟨by decide +kernel, by decide +kernel⟩, by decide +kernel⟩, mn_inW 590 (by decide +kernel) (by decide +kernel), mn_inW 12 (by decide +kernel) (by decide +kernel)⟩
theorem okEq_forgetAll : mn_okV MEq_forgetAll 0 := ⟨⟨by decide +kernel, mn_inW 595 (by decide +kernel) (by decide +kernel), ini_Eq, ⟨by decide +kernel, by decide +kernel⟩, by decide +kernel⟩, mn_inW 593 (by decide +kernel) (by decide +kernel), mn_inW 594 (by decide +kernel) (by decide +kernel)⟩
theorem okEq_addUnknown : mn_okV MEq_addUnknown 1 := ⟨⟨by decide +kernel, mn_inW 599 (by decide +kernel) (by decide +kernel), ini_Eq, ⟨by decide +kernel, by decide +kernel⟩, by decide +kernel⟩, mn_inW 597 (by decide +kernel) (by decide +kernel), mn_inW 598 (by decide +kernel) (by decide +kernel)⟩
theorem okEq_addRepair : mn_okV MEq_addRepair 3 := ⟨⟨by decide +kernel, mn_inW 603 (by decide +kernel) (by decide +kernel), ini_Eq, ⟨by decide +kernel, by decide +kernel⟩, by decide +kernel⟩, mn_inW 601 (by decide +kernel) (by decide +kernel), mn_inW 602 (by decide +kernel) (by decide +kernel)⟩
theorem okEq_solve : mn_okV MEq_solve 0 := ⟨⟨by decide +kernel, mn_inW 610 (by decide +kernel) (by decide +kernel), ini_Eq, ⟨by decide +kernel, by decide +kernel⟩, by decide +kernel⟩, mn_inW 608 (by decide +kernel) (by decide +kernel), mn_inW 609 (by decide +kernel) (by decide +kernel)⟩
theorem okBy_inverse : mn_okS MBy_inverse 1 := ⟨⟨by decide +kernel, mn_inW 613 (by decide +kernel) (by decide +kernel), ini_By, ⟨by decide +kernel, by decide +kernel⟩, by decide +kernel⟩, mn_inW 612 (by decide +kernel) (by decide +kernel)⟩
theorem okBy_product : mn_okS MBy_product 2 := ⟨⟨by decide +kernel, mn_inW 616 (by decide +kernel) (by decide +kernel), ini_By, ⟨by decide +kernel, by decide +kernel⟩, by decide +kernel⟩, mn_inW 615 (by decide +kernel) (by decide +kernel)⟩
theorem okEq_scale : mn_okV MEq_scale 2 := ⟨⟨by decide +kernel, mn_inW 620 (by decide +kernel) (by decide +kernel), ini_Eq, ⟨by decide +kernel, by decide +kernel⟩, by decide +kernel⟩, mn_inW 619 (by decide +kernel) (by decide +kernel), mn_inW 13 (by decide +kernel) (by decide +kernel)⟩
theorem okEq_addTo : mn_okV MEq_addTo 3 := ⟨⟨by decide +kernel, mn_inW 625 (by decide +kernel) (by decide +kernel), ini_Eq, ⟨by decide +kernel, by decide +kernel⟩, by decide +kernel⟩, mn_inW 624 (by decide +kernel) (by decide +kernel), mn_inW 14 (by decide +kernel) (by decide +kernel)⟩
theorem okRd_takeUnknowns : mn_okV MRd_takeUnknowns 0 := ⟨⟨by decide +kernel, mn_inW 629 (by decide +kernel) (by decide +kernel), ini_Rd, ⟨by decide +kernel, by decide +kernel⟩, by decide +kernel⟩, mn_inW 628 (by decide +kernel) (by decide +kernel), mn_inW 15 (by decide +kernel) (by decide +kernel)⟩
theorem okEq_numberOf : mn_okV MEq_numberOf 1 := ⟨⟨by decide +kernel, mn_inW 633 (by decide +kernel) (by decide +kernel), ini_Eq, ⟨by decide +kernel, by decide +kernel⟩, by decide +kernel⟩, mn_inW 631 (by decide +kernel) (by decide +kernel), mn_inW 632 (by decide +kernel) (by decide +kernel)⟩
theorem okEq_byteOfUnknown : mn_okV MEq_byteOfUnknown 2 := ⟨⟨by decide +kernel, mn_inW 637 (by decide +kernel) (by decide +kernel), ini_Eq, ⟨by decide +kernel, by decide +kernel⟩, by decide +kernel⟩, mn_inW 635 (by decide +kernel) (by decide +kernel), mn_inW 636 (by decide +kernel) (by decide +kernel)⟩
theorem okOp_open : mn_okV MOp_open 1 := ⟨⟨by decide +kernel, mn_inW 641 (by decide +kernel) (by decide +kernel), ini_Op, ⟨by decide +kernel, by decide +kernel⟩, by decide +kernel⟩, mn_inW 639 (by decide +kernel) (by decide +kernel), mn_inW 640 (by decide +kernel) (by decide +kernel)⟩
theorem okPc_nextKnown : mn_okV MPc_nextKnown 1 := ⟨⟨by decide +kernel, mn_inW 645 (by decide +kernel) (by decide +kernel), ini_Pc, ⟨by decide +kernel, by decide +kernel⟩, by decide +kernel⟩, mn_inW 643 (by decide +kernel) (by decide +kernel), mn_inW 644 (by decide +kernel) (by decide +kernel)⟩
theorem okPc_isKnown : mn_okV MPc_isKnown 1 := ⟨⟨by decide +kernel, mn_inW 649 (by decide +kernel) (by decide +kernel), ini_Pc, ⟨by decide +kernel, by decide +kernel⟩, by decide +kernel⟩, mn_inW 647 (by decide +kernel) (by decide +kernel), mn_inW 648 (by decide +kernel) (by decide +kernel)⟩
theorem okPc_room : mn_okV MPc_room 0 := ⟨⟨by decide +kernel, mn_inW 653 (by decide +kernel) (by decide +kernel), ini_Pc, ⟨by decide +kernel, by decide +kernel⟩, by decide +kernel⟩, mn_inW 651 (by decide +kernel) (by decide +kernel), mn_inW 652 (by decide +kernel) (by decide +kernel)⟩
theorem okPc_startBehind : mn_okV MPc_startBehind 1 := ⟨⟨by decide +kernel, mn_inW 658 (by decide +kernel) (by decide +kernel), ini_Pc, ⟨by decide +kernel, by decide +kernel⟩, by decide +kernel⟩, mn_inW 657 (by decide +kernel) (by decide +kernel), mn_inW 16 (by decide +kernel) (by decide +kernel)⟩
theorem okOp_isWhole : mn_okS MOp_isWhole 3 := ⟨⟨by decide +kernel, mn_inW 662 (by decide +kernel) (by decide +kernel), ini_Op, ⟨by decide +kernel, by decide +kernel⟩, by decide +kernel⟩, mn_inW 661 (by decide +kernel) (by decide +kernel)⟩
theorem okPc_areKnown : mn_okV MPc_areKnown 2 := ⟨⟨by decide +kernel, mn_inW 666 (by decide +kernel) (by decide +kernel), ini_Pc, ⟨by decide +kernel, by decide +kernel⟩, by decide +kernel⟩, mn_inW 664 (by decide +kernel) (by decide +kernel), mn_inW 665 (by decide +kernel) (by decide +kernel)⟩
theorem okPc_sum : mn_okV MPc_sum 2 := ⟨⟨by decide +kernel, mn_inW 670 (by decide +kernel) (by decide +kernel), ini_Pc, ⟨by decide +kernel, by decide +kernel⟩, by decide +kernel⟩, mn_inW 668 (by decide +kernel) (by decide +kernel), mn_inW 669 (by decide +kernel) (by decide +kernel)⟩
theorem okVS_found : mn_okV MVS_found 1 := ⟨⟨by decide +kernel, mn_inW 675 (by decide +kernel) (by decide +kernel), ini_VS, ⟨by decide +kernel, by decide +kernel⟩, by decide +kernel⟩, mn_inW 673 (by decide +kernel) (by decide +kernel), mn_inW 674 (by decide +kernel) (by decide +kernel)⟩
theorem okOp_openedOnes : mn_okV MOp_openedOnes 0 := ⟨⟨by decide +kernel, mn_inW 679 (by decide +kernel) (by decide +kernel), ini_Op, ⟨by decide +kernel, by decide +kernel⟩, by decide +kernel⟩, mn_inW 677 (by decide +kernel) (by decide +kernel), mn_inW 678 (by decide +kernel) (by decide +kernel)⟩
theorem okVS_where : mn_okV MVS_where 1 := ⟨⟨by decide +kernel, mn_inW 683 (by decide +kernel) (by decide +kernel), ini_VS, ⟨by decide +kernel, by decide +kernel⟩, by decide +kernel⟩, mn_inW 681 (by decide +kernel) (by decide +kernel), mn_inW 682 (by decide +kernel) (by decide +kernel)⟩
theorem okVS_got : mn_okV MVS_got 1 := ⟨⟨by decide +kernel, mn_inW 688 (by decide +kernel) (by decide +kernel), ini_VS, ⟨by decide +kernel, by decide +kernel⟩, by decide +kernel⟩, mn_inW 686 (by decide +kernel) (by decide +kernel), mn_inW 687 (by decide +kernel) (by decide +kernel)⟩
theorem okVS_opened : mn_okV MVS_opened 2 := ⟨⟨by decide +kernel, mn_inW 695 (by decide +kernel) (by decide +kernel), ini_VS, ⟨by decide +kernel, by decide +kernel⟩, by decide +kernel⟩, mn_inW 693 (by decide +kernel) (by decide +kernel), mn_inW 694 (by decide +kernel) (by decide +kernel)⟩
theorem okOp_tellOf : mn_okV MOp_tellOf 2 := ⟨⟨by decide +kernel, mn_inW 699 (by decide +kernel) (by decide +kernel), ini_Op, ⟨by decide +kernel, by decide +kernel⟩, by decide +kernel⟩, mn_inW 697 (by decide +kernel) (by decide +kernel), mn_inW 698 (by decide +kernel) (by decide +kernel)⟩
theorem okVS_count : mn_okV MVS_count 1 := ⟨⟨by decide +kernel, mn_inW 703 (by decide +kernel) (by decide +kernel), ini_VS, ⟨by decide +kernel, by decide +kernel⟩, by decide +kernel⟩, mn_inW 701 (by decide +kernel) (by decide +kernel), mn_inW 702 (by decide +kernel) (by decide +kernel)⟩
theorem okSl_inState : mn_okV MSl_inState 1 := ⟨⟨by decide +kernel, mn_inW 707 (by decide +kernel) (by decide +kernel), ini_Sl, ⟨by decide +kernel, by decide +kernel⟩, by decide +kernel⟩, mn_inW 705 (by decide +kernel) (by decide +kernel), mn_inW 706 (by decide +kernel) (by decide +kernel)⟩
theorem okMo_init : mn_okI MMo_init 0 := ⟨⟨by decide +kernel, mn_inW 713 (by decide +kernel) (by decide +kernel), ini_Mo, ⟨by decide +kernel, by decide +kernel⟩, by decide +kernel⟩, rfl, mn_inW 712 (by decide +kernel) (by decide +kernel), rfl⟩
theorem okMo_feed : mn_okV MMo_feed 5 := ⟨⟨by decide +kernel, mn_inW 806 (by decide +kernel) (by decide +kernel), ini_Mo, ⟨by decide +kernel, by decide +kernel⟩, by decide +kernel⟩, mn_inW 804 (by decide +kernel) (by decide +kernel), mn_inW 805 (by decide +kernel) (by decide +kernel)⟩
theorem okMo_end : mn_okV MMo_end 1 := ⟨⟨by decide +kernel, mn_inW 810 (by decide +kernel) (by decide +kernel), ini_Mo, ⟨by decide +kernel, by decide +kernel⟩, by decide +kernel⟩, mn_inW 808 (by decide +kernel) (by decide +kernel), mn_inW 809 (by decide +kernel) (by decide +kernel)⟩
theorem okMo_in : mn_okS MMo_in 3 := ⟨⟨by decide +kernel, mn_inW 813 (by decide +kernel) (by decide +kernel), ini_Mo, ⟨by decide +kernel, by decide +kernel⟩, by decide +kernel⟩, mn_inW 812 (by decide +kernel) (by decide +kernel)⟩
theorem okMo_entry : mn_okV MMo_entry 0 := ⟨⟨by decide +kernel, mn_inW 817 (by decide +kernel) (by decide +kernel), ini_Mo, ⟨by decide +kernel, by decide +kernel⟩, by decide +kernel⟩, mn_inW 815 (by decide +kernel) (by decide +kernel), mn_inW 816 (by decide +kernel) (by decide +kernel)⟩
theorem okMo_sum : mn_okS MMo_sum 3 := ⟨⟨by decide +kernel, mn_inW 820 (by decide +kernel) (by decide +kernel), ini_Mo, ⟨by decide +kernel, by decide +kernel⟩, by decide +kernel⟩, mn_inW 819 (by decide +kernel) (by decide +kernel)⟩
theorem okMo_step : mn_okS MMo_step 2 := ⟨⟨by decide +kernel, mn_inW 823 (by decide +kernel) (by decide +kernel), ini_Mo, ⟨by decide +kernel, by decide +kernel⟩, by decide +kernel⟩, mn_inW 822 (by decide +kernel) (by decide +kernel)⟩
theorem okMo_clear : mn_okV MMo_clear 0 := ⟨⟨by decide +kernel, mn_inW 828 (by decide +kernel) (by decide +kernel), ini_Mo, ⟨by decide +kernel, by decide +kernel⟩, by decide +kernel⟩, mn_inW 826 (by decide +kernel) (by decide +kernel), mn_inW 827 (by decide +kernel) (by decide +kernel)⟩
theorem okMo_rule : mn_okV MMo_rule 2 := ⟨⟨by decide +kernel, mn_inW 832 (by decide +kernel) (by decide +kernel), ini_Mo, ⟨by decide +kernel, by decide +kernel⟩, by decide +kernel⟩, mn_inW 830 (by decide +kernel) (by decide +kernel), mn_inW 831 (by decide +kernel) (by decide +kernel)⟩
theorem okMo_volumes : mn_okV MMo_volumes 0 := ⟨⟨by decide +kernel, mn_inW 836 (by decide +kernel) (by decide +kernel), ini_Mo, ⟨by decide +kernel, by decide +kernel⟩, by decide +kernel⟩, mn_inW 834 (by decide +kernel) (by decide +kernel), mn_inW 835 (by decide +kernel) (by decide +kernel)⟩
theorem okMo_pieces : mn_okV MMo_pieces 0 := ⟨⟨by decide +kernel, mn_inW 840 (by decide +kernel) (by decide +kernel), ini_Mo, ⟨by decide +kernel, by decide +kernel⟩, by decide +kernel⟩, mn_inW 839 (by decide +kernel) (by decide +kernel), mn_inW 17 (by decide +kernel) (by decide +kernel)⟩
theorem okMo_length : mn_okV MMo_length 0 := ⟨⟨by decide +kernel, mn_inW 844 (by decide +kernel) (by decide +kernel), ini_Mo, ⟨by decide +kernel, by decide +kernel⟩, by decide +kernel⟩, mn_inW 843 (by decide +kernel) (by decide +kernel), mn_inW 18 (by decide +kernel) (by decide +kernel)⟩
theorem okMo_piece : mn_okV MMo_piece 0 := ⟨⟨by decide +kernel, mn_inW 848 (by decide +kernel) (by decide +kernel), ini_Mo, ⟨by decide +kernel, by decide +kernel⟩, by decide +kernel⟩, mn_inW 847 (by decide +kernel) (by decide +kernel), mn_inW 19 (by decide +kernel) (by decide +kernel)⟩
theorem okMo_byteOf : mn_okV MMo_byteOf 2 := ⟨⟨by decide +kernel, mn_inW 852 (by decide +kernel) (by decide +kernel), ini_Mo, ⟨by decide +kernel, by decide +kernel⟩, by decide +kernel⟩, mn_inW 850 (by decide +kernel) (by decide +kernel), mn_inW 851 (by decide +kernel) (by decide +kernel)⟩
theorem okMo_make : mn_okV MMo_make 1 := ⟨⟨by decide +kernel, mn_inW 857 (by decide +kernel) (by decide +kernel), ini_Mo, ⟨by decide +kernel, by decide +kernel⟩, by decide +kernel⟩, mn_inW 856 (by decide +kernel) (by decide +kernel), mn_inW 20 (by decide +kernel) (by decide +kernel)⟩
theorem okMo_ofVolume : mn_okV MMo_ofVolume 2 := ⟨⟨by decide +kernel, mn_inW 861 (by decide +kernel) (by decide +kernel), ini_Mo, ⟨by decide +kernel, by decide +kernel⟩, by decide +kernel⟩, mn_inW 860 (by decide +kernel) (by decide +kernel), mn_inW 21 (by decide +kernel) (by decide +kernel)⟩
theorem okMo_ofPiece : mn_okV MMo_ofPiece 2 := ⟨⟨by decide +kernel, mn_inW 865 (by decide +kernel) (by decide +kernel), ini_Mo, ⟨by decide +kernel, by decide +kernel⟩, by decide +kernel⟩, mn_inW 864 (by decide +kernel) (by decide +kernel), mn_inW 22 (by decide +kernel) (by decide +kernel)⟩
theorem okMo_power : mn_okS MMo_power 1 := ⟨⟨by decide +kernel, mn_inW 868 (by decide +kernel) (by decide +kernel), ini_Mo, ⟨by decide +kernel, by decide +kernel⟩, by decide +kernel⟩, mn_inW 867 (by decide +kernel) (by decide +kernel)⟩
theorem okMo_times : mn_okS MMo_times 2 := ⟨⟨by decide +kernel, mn_inW 871 (by decide +kernel) (by decide +kernel), ini_Mo, ⟨by decide +kernel, by decide +kernel⟩, by decide +kernel⟩, mn_inW 870 (by decide +kernel) (by decide +kernel)⟩
theorem okMo_write : mn_okV MMo_write 1 := ⟨⟨by decide +kernel, mn_inW 875 (by decide +kernel) (by decide +kernel), ini_Mo, ⟨by decide +kernel, by decide +kernel⟩, by decide +kernel⟩, mn_inW 873 (by decide +kernel) (by decide +kernel), mn_inW 874 (by decide +kernel) (by decide +kernel)⟩
theorem okMo_isThere : mn_okV MMo_isThere 0 := ⟨⟨by decide +kernel, mn_inW 879 (by decide +kernel) (by decide +kernel), ini_Mo, ⟨by decide +kernel, by decide +kernel⟩, by decide +kernel⟩, mn_inW 878 (by decide +kernel) (by decide +kernel), mn_inW 23 (by decide +kernel) (by decide +kernel)⟩
theorem okMo_emptySlots : mn_okV MMo_emptySlots 0 := ⟨⟨by decide +kernel, mn_inW 883 (by decide +kernel) (by decide +kernel), ini_Mo, ⟨by decide +kernel, by decide +kernel⟩, by decide +kernel⟩, mn_inW 882 (by decide +kernel) (by decide +kernel), mn_inW 24 (by decide +kernel) (by decide +kernel)⟩
theorem okMo_lay : mn_okV MMo_lay 1 := ⟨⟨by decide +kernel, mn_inW 887 (by decide +kernel) (by decide +kernel), ini_Mo, ⟨by decide +kernel, by decide +kernel⟩, by decide +kernel⟩, mn_inW 886 (by decide +kernel) (by decide +kernel), mn_inW 25 (by decide +kernel) (by decide +kernel)⟩
theorem okMo_lose : mn_okV MMo_lose 1 := ⟨⟨by decide +kernel, mn_inW 891 (by decide +kernel) (by decide +kernel), ini_Mo, ⟨by decide +kernel, by decide +kernel⟩, by decide +kernel⟩, mn_inW 889 (by decide +kernel) (by decide +kernel), mn_inW 890 (by decide +kernel) (by decide +kernel)⟩
theorem okMo_noSlot : mn_okV MMo_noSlot 1 := ⟨⟨by decide +kernel, mn_inW 895 (by decide +kernel) (by decide +kernel), ini_Mo, ⟨by decide +kernel, by decide +kernel⟩, by decide +kernel⟩, mn_inW 894 (by decide +kernel) (by decide +kernel), mn_inW 26 (by decide +kernel) (by decide +kernel)⟩
theorem okMo_poke : mn_okV MMo_poke 3 := ⟨⟨by decide +kernel, mn_inW 899 (by decide +kernel) (by decide +kernel), ini_Mo, ⟨by decide +kernel, by decide +kernel⟩, by decide +kernel⟩, mn_inW 897 (by decide +kernel) (by decide +kernel), mn_inW 898 (by decide +kernel) (by decide +kernel)⟩
theorem okMo_swap : mn_okV MMo_swap 2 := ⟨⟨by decide +kernel, mn_inW 903 (by decide +kernel) (by decide +kernel), ini_Mo, ⟨by decide +kernel, by decide +kernel⟩, by decide +kernel⟩, mn_inW 901 (by decide +kernel) (by decide +kernel), mn_inW 902 (by decide +kernel) (by decide +kernel)⟩
theorem okMo_copy : mn_okV MMo_copy 2 := ⟨⟨by decide +kernel, mn_inW 907 (by decide +kernel) (by decide +kernel), ini_Mo, ⟨by decide +kernel, by decide +kernel⟩, by decide +kernel⟩, mn_inW 905 (by decide +kernel) (by decide +kernel), mn_inW 906 (by decide +kernel) (by decide +kernel)⟩
theorem okMo_slot : mn_okV MMo_slot 2 := ⟨⟨by decide +kernel, mn_inW 911 (by decide +kernel) (by decide +kernel), ini_Mo, ⟨by decide +kernel, by decide +kernel⟩, by decide +kernel⟩, mn_inW 909 (by decide +kernel) (by decide +kernel), mn_inW 910 (by decide +kernel) (by decide +kernel)⟩
theorem okMo_state : mn_okV MMo_state 1 := ⟨⟨by decide +kernel, mn_inW 915 (by decide +kernel) (by decide +kernel), ini_Mo, ⟨by decide +kernel, by decide +kernel⟩, by decide +kernel⟩, mn_inW 914 (by decide +kernel) (by decide +kernel), mn_inW 27 (by decide +kernel) (by decide +kernel)⟩
theorem okMo_two : mn_okV MMo_two 1 := ⟨⟨by decide +kernel, mn_inW 919 (by decide +kernel) (by decide +kernel), ini_Mo, ⟨by decide +kernel, by decide +kernel⟩, by decide +kernel⟩, mn_inW 918 (by decide +kernel) (by decide +kernel), mn_inW 28 (by decide +kernel) (by decide +kernel)⟩
theorem okMo_read : mn_okV MMo_read 1 := ⟨⟨by decide +kernel, mn_inW 923 (by decide +kernel) (by decide +kernel), ini_Mo, ⟨by decide +kernel, by decide +kernel⟩, by decide +kernel⟩, mn_inW 921 (by decide +kernel) (by decide +kernel), mn_inW 922 (by decide +kernel) (by decide +kernel)⟩
theorem okMo_makeAgain : mn_okV MMo_makeAgain 0 := ⟨⟨by decide +kernel, mn_inW 927 (by decide +kernel) (by decide +kernel), ini_Mo, ⟨by decide +kernel, by decide +kernel⟩, by decide +kernel⟩, mn_inW 926 (by decide +kernel) (by decide +kernel), mn_inW 29 (by decide +kernel) (by decide +kernel)⟩
theorem okMo_solve : mn_okV MMo_solve 2 := ⟨⟨by decide +kernel, mn_inW 931 (by decide +kernel) (by decide +kernel), ini_Mo, ⟨by decide +kernel, by decide +kernel⟩, by decide +kernel⟩, mn_inW 930 (by decide +kernel) (by decide +kernel), mn_inW 30 (by decide +kernel) (by decide +kernel)⟩
theorem okMo_known : mn_okV MMo_known 2 := ⟨⟨by decide +kernel, mn_inW 935 (by decide +kernel) (by decide +kernel), ini_Mo, ⟨by decide +kernel, by decide +kernel⟩, by decide +kernel⟩, mn_inW 934 (by decide +kernel) (by decide +kernel), mn_inW 31 (by decide +kernel) (by decide +kernel)⟩
theorem okMo_over : mn_okS MMo_over 1 := ⟨⟨by decide +kernel, mn_inW 938 (by decide +kernel) (by decide +kernel), ini_Mo, ⟨by decide +kernel, by decide +kernel⟩, by decide +kernel⟩, mn_inW 937 (by decide +kernel) (by decide +kernel)⟩
theorem okMo_open : mn_okV MMo_open 0 := ⟨⟨by decide +kernel, mn_inW 942 (by decide +kernel) (by decide +kernel), ini_Mo, ⟨by decide +kernel, by decide +kernel⟩, by decide +kernel⟩, mn_inW 941 (by decide +kernel) (by decide +kernel), mn_inW 32 (by decide +kernel) (by decide +kernel)⟩
theorem okMo_isKnown : mn_okV MMo_isKnown 1 := ⟨⟨by decide +kernel, mn_inW 946 (by decide +kernel) (by decide +kernel), ini_Mo, ⟨by decide +kernel, by decide +kernel⟩, by decide +kernel⟩, mn_inW 945 (by decide +kernel) (by decide +kernel), mn_inW 33 (by decide +kernel) (by decide +kernel)⟩
theorem okMo_isWhole : mn_okV MMo_isWhole 2 := ⟨⟨by decide +kernel, mn_inW 950 (by decide +kernel) (by decide +kernel), ini_Mo, ⟨by decide +kernel, by decide +kernel⟩, by decide +kernel⟩, mn_inW 949 (by decide +kernel) (by decide +kernel), mn_inW 34 (by decide +kernel) (by decide +kernel)⟩
theorem okMo_found : mn_okV MMo_found 1 := ⟨⟨by decide +kernel, mn_inW 954 (by decide +kernel) (by decide +kernel), ini_Mo, ⟨by decide +kernel, by decide +kernel⟩, by decide +kernel⟩, mn_inW 952 (by decide +kernel) (by decide +kernel), mn_inW 953 (by decide +kernel) (by decide +kernel)⟩
theorem okMo_where : mn_okV MMo_where 1 := ⟨⟨by decide +kernel, mn_inW 958 (by decide +kernel) (by decide +kernel), ini_Mo, ⟨by decide +kernel, by decide +kernel⟩, by decide +kernel⟩, mn_inW 956 (by decide +kernel) (by decide +kernel), mn_inW 957 (by decide +kernel) (by decide +kernel)⟩
theorem okMo_got : mn_okV MMo_got 1 := ⟨⟨by decide +kernel, mn_inW 962 (by decide +kernel) (by decide +kernel), ini_Mo, ⟨by decide +kernel, by decide +kernel⟩, by decide +kernel⟩, mn_inW 960 (by decide +kernel) (by decide +kernel), mn_inW 961 (by decide +kernel) (by decide +kernel)⟩
theorem okMo_opened : mn_okV MMo_opened 2 := ⟨⟨by decide +kernel, mn_inW 966 (by decide +kernel) (by decide +kernel), ini_Mo, ⟨by decide +kernel, by decide +kernel⟩, by decide +kernel⟩, mn_inW 964 (by decide +kernel) (by decide +kernel), mn_inW 965 (by decide +kernel) (by decide +kernel)⟩
theorem okMo_count : mn_okV MMo_count 1 := ⟨⟨by decide +kernel, mn_inW 970 (by decide +kernel) (by decide +kernel), ini_Mo, ⟨by decide +kernel, by decide +kernel⟩, by decide +kernel⟩, mn_inW 968 (by decide +kernel) (by decide +kernel), mn_inW 969 (by decide +kernel) (by decide +kernel)⟩
theorem oi_inst : Cond.instanceMethod Lib.objectInit ∈ mn_W := mn_inW 58 (by decide +kernel) (by decide +kernel)
theorem oi_code : Cond.code Lib.objectInit ⟨#[0xb1]⟩ 1 none ∈ mn_W := mn_inW 59 (by decide +kernel) (by decide +kernel)
theorem max_st : Cond.static Lib.Math.max.name ∈ mn_W := mn_inW 89 (by decide +kernel) (by decide +kernel)
theorem max_code : Cond.code Lib.Math.max.name Lib.Math.max.code 2 (some .int) ∈ mn_W := mn_inW 90 (by decide +kernel) (by decide +kernel)
theorem min_st : Cond.static Lib.Math.min.name ∈ mn_W := mn_inW 403 (by decide +kernel) (by decide +kernel)
theorem min_code : Cond.code Lib.Math.min.name Lib.Math.min.code 2 (some .int) ∈ mn_W := mn_inW 404 (by decide +kernel) (by decide +kernel)
theorem math_ini : Cond.initialized "java/lang/Math" ∈ mn_W := ini_Math
theorem sys_ini : Cond.initialized "java/lang/System" ∈ mn_W := ini_System
theorem ac_nat : Cond.native arraycopyName ∈ mn_W := mn_inW 496 (by decide +kernel) (by decide +kernel)
theorem ac_st : Cond.static arraycopyName ∈ mn_W := mn_inW 495 (by decide +kernel) (by decide +kernel)
theorem arr_int : Cond.arrayClass .int ∈ mn_W := mn_inW 75 (by decide +kernel) (by decide +kernel)
theorem over_Vo : Cond.arrayOver (.object "VolumeSets$Volume") ∈ mn_NW := mn_inN 187 (by decide +kernel) (by decide +kernel)
theorem over_int : Cond.arrayOver (.array .int) ∈ mn_NW := mn_inN 208 (by decide +kernel) (by decide +kernel)
theorem lLa_7 : Cond.classLink "VolumeSetsLaw" 7 "VolumeSets" ∈ mn_W := mn_inW 52 (by decide +kernel) (by decide +kernel)
theorem lLa_9 : Cond.methodLink "VolumeSetsLaw" 9 ⟨"VolumeSets", "<init>", "()V"⟩ ∈ mn_W := mn_inW 54 (by decide +kernel) (by decide +kernel)
theorem lVS_1 : Cond.methodLink "VolumeSets" 1 ⟨"java/lang/Object", "<init>", "()V"⟩ ∈ mn_W := mn_inW 57 (by decide +kernel) (by decide +kernel)
theorem lVS_7 : Cond.classLink "VolumeSets" 7 "VolumeSets$Tape" ∈ mn_W := mn_inW 60 (by decide +kernel) (by decide +kernel)
theorem lVS_9 : Cond.methodLinkNest "VolumeSets" 9 ⟨"VolumeSets$Tape", "<init>", "()V"⟩ "VolumeSets" ∈ mn_NW := mn_inN 62 (by decide +kernel) (by decide +kernel)
theorem lTa_3 : Cond.methodLink "VolumeSets$Tape" 3 ⟨"java/lang/Object", "<init>", "()V"⟩ ∈ mn_W := mn_inW 65 (by decide +kernel) (by decide +kernel)
theorem lTa_9 : Cond.fieldLink "VolumeSets$Tape" 9 "VolumeSets$Tape" "bytes" "[I" ∈ mn_W := mn_inW 66 (by decide +kernel) (by decide +kernel)
theorem lVS_58 : Cond.fieldLink "VolumeSets" 58 "VolumeSets$Tape" "length" "I" ∈ mn_W := mn_inW 67 (by decide +kernel) (by decide +kernel)
theorem lSt_37 : Cond.fieldLink "VolumeSets$Stream" 37 "VolumeSets$Tape" "length" "I" ∈ mn_W := mn_inW 68 (by decide +kernel) (by decide +kernel)
theorem lTa_19 : Cond.fieldLink "VolumeSets$Tape" 19 "VolumeSets$Tape" "length" "I" ∈ mn_W := mn_inW 69 (by decide +kernel) (by decide +kernel)
theorem lVS_16 : Cond.classLink "VolumeSets" 16 "VolumeSets$Stream" ∈ mn_W := mn_inW 76 (by decide +kernel) (by decide +kernel)
theorem lVS_18 : Cond.methodLinkNest "VolumeSets" 18 ⟨"VolumeSets$Stream", "<init>", "()V"⟩ "VolumeSets" ∈ mn_NW := mn_inN 78 (by decide +kernel) (by decide +kernel)
theorem lSt_3 : Cond.methodLink "VolumeSets$Stream" 3 ⟨"java/lang/Object", "<init>", "()V"⟩ ∈ mn_W := mn_inW 81 (by decide +kernel) (by decide +kernel)
theorem lSt_9 : Cond.classLink "VolumeSets$Stream" 9 "VolumeSets$Pieces" ∈ mn_W := mn_inW 82 (by decide +kernel) (by decide +kernel)
theorem lSt_13 : Cond.methodLink "VolumeSets$Stream" 13 ⟨"VolumeSets$Pieces", "<init>", "(I)V"⟩ ∈ mn_W := mn_inW 84 (by decide +kernel) (by decide +kernel)
theorem lPc_3 : Cond.methodLink "VolumeSets$Pieces" 3 ⟨"java/lang/Object", "<init>", "()V"⟩ ∈ mn_W := mn_inW 87 (by decide +kernel) (by decide +kernel)
theorem lPc_18 : Cond.methodLink "VolumeSets$Pieces" 18 ⟨"java/lang/Math", "max", "(II)I"⟩ ∈ mn_W := mn_inW 88 (by decide +kernel) (by decide +kernel)
theorem lPc_24 : Cond.fieldLink "VolumeSets$Pieces" 24 "VolumeSets$Pieces" "bytes" "[I" ∈ mn_W := mn_inW 91 (by decide +kernel) (by decide +kernel)
theorem lPc_9 : Cond.fieldLink "VolumeSets$Pieces" 9 "VolumeSets$Pieces" "lengths" "[I" ∈ mn_W := mn_inW 92 (by decide +kernel) (by decide +kernel)
theorem lPc_15 : Cond.fieldLink "VolumeSets$Pieces" 15 "VolumeSets$Pieces" "starts" "[I" ∈ mn_W := mn_inW 93 (by decide +kernel) (by decide +kernel)
theorem lWr_32 : Cond.fieldLink "VolumeSets$Writer" 32 "VolumeSets$Pieces" "many" "I" ∈ mn_W := mn_inW 94 (by decide +kernel) (by decide +kernel)
theorem lPc_33 : Cond.fieldLink "VolumeSets$Pieces" 33 "VolumeSets$Pieces" "many" "I" ∈ mn_W := mn_inW 95 (by decide +kernel) (by decide +kernel)
theorem lRd_93 : Cond.fieldLink "VolumeSets$Reading" 93 "VolumeSets$Pieces" "many" "I" ∈ mn_W := mn_inW 96 (by decide +kernel) (by decide +kernel)
theorem lSt_69 : Cond.fieldLink "VolumeSets$Stream" 69 "VolumeSets$Pieces" "many" "I" ∈ mn_W := mn_inW 97 (by decide +kernel) (by decide +kernel)
theorem lVS_172 : Cond.fieldLink "VolumeSets" 172 "VolumeSets$Pieces" "many" "I" ∈ mn_W := mn_inW 98 (by decide +kernel) (by decide +kernel)
theorem lPc_37 : Cond.fieldLink "VolumeSets$Pieces" 37 "VolumeSets$Pieces" "width" "I" ∈ mn_W := mn_inW 99 (by decide +kernel) (by decide +kernel)
theorem lRd_96 : Cond.fieldLink "VolumeSets$Reading" 96 "VolumeSets$Pieces" "width" "I" ∈ mn_W := mn_inW 100 (by decide +kernel) (by decide +kernel)
theorem lSt_72 : Cond.fieldLink "VolumeSets$Stream" 72 "VolumeSets$Pieces" "width" "I" ∈ mn_W := mn_inW 101 (by decide +kernel) (by decide +kernel)
theorem lSt_16 : Cond.fieldLink "VolumeSets$Stream" 16 "VolumeSets$Stream" "pieces" "LVolumeSets$Pieces;" ∈ mn_W := mn_inW 113 (by decide +kernel) (by decide +kernel)
theorem lVS_100 : Cond.fieldLink "VolumeSets" 100 "VolumeSets$Stream" "pieces" "LVolumeSets$Pieces;" ∈ mn_W := mn_inW 114 (by decide +kernel) (by decide +kernel)
theorem lSt_20 : Cond.fieldLink "VolumeSets$Stream" 20 "VolumeSets$Stream" "beginnings" "[I" ∈ mn_W := mn_inW 115 (by decide +kernel) (by decide +kernel)
theorem lSt_24 : Cond.fieldLink "VolumeSets$Stream" 24 "VolumeSets$Stream" "entries" "I" ∈ mn_W := mn_inW 116 (by decide +kernel) (by decide +kernel)
theorem lVS_66 : Cond.fieldLink "VolumeSets" 66 "VolumeSets$Stream" "entries" "I" ∈ mn_W := mn_inW 117 (by decide +kernel) (by decide +kernel)
theorem lSt_28 : Cond.fieldLink "VolumeSets$Stream" 28 "VolumeSets$Stream" "length" "I" ∈ mn_W := mn_inW 118 (by decide +kernel) (by decide +kernel)
theorem lVS_199 : Cond.fieldLink "VolumeSets" 199 "VolumeSets$Stream" "length" "I" ∈ mn_W := mn_inW 119 (by decide +kernel) (by decide +kernel)
theorem lVS_23 : Cond.classLink "VolumeSets" 23 "VolumeSets$Rules" ∈ mn_W := mn_inW 129 (by decide +kernel) (by decide +kernel)
theorem lVS_25 : Cond.methodLinkNest "VolumeSets" 25 ⟨"VolumeSets$Rules", "<init>", "()V"⟩ "VolumeSets" ∈ mn_NW := mn_inN 131 (by decide +kernel) (by decide +kernel)
theorem lRu_3 : Cond.methodLink "VolumeSets$Rules" 3 ⟨"java/lang/Object", "<init>", "()V"⟩ ∈ mn_W := mn_inW 134 (by decide +kernel) (by decide +kernel)
theorem lRu_9 : Cond.fieldLink "VolumeSets$Rules" 9 "VolumeSets$Rules" "size" "I" ∈ mn_W := mn_inW 135 (by decide +kernel) (by decide +kernel)
theorem lWr_18 : Cond.fieldLink "VolumeSets$Writer" 18 "VolumeSets$Rules" "size" "I" ∈ mn_W := mn_inW 136 (by decide +kernel) (by decide +kernel)
theorem lVS_94 : Cond.fieldLink "VolumeSets" 94 "VolumeSets$Rules" "size" "I" ∈ mn_W := mn_inW 137 (by decide +kernel) (by decide +kernel)
theorem lWr_37 : Cond.fieldLink "VolumeSets$Writer" 37 "VolumeSets$Rules" "repairs" "I" ∈ mn_W := mn_inW 138 (by decide +kernel) (by decide +kernel)
theorem lRu_25 : Cond.fieldLink "VolumeSets$Rules" 25 "VolumeSets$Rules" "repairs" "I" ∈ mn_W := mn_inW 139 (by decide +kernel) (by decide +kernel)
theorem lVS_88 : Cond.fieldLink "VolumeSets" 88 "VolumeSets$Rules" "repairs" "I" ∈ mn_W := mn_inW 140 (by decide +kernel) (by decide +kernel)
theorem lWr_29 : Cond.fieldLink "VolumeSets$Writer" 29 "VolumeSets$Rules" "set" "I" ∈ mn_W := mn_inW 141 (by decide +kernel) (by decide +kernel)
theorem lRu_28 : Cond.fieldLink "VolumeSets$Rules" 28 "VolumeSets$Rules" "set" "I" ∈ mn_W := mn_inW 142 (by decide +kernel) (by decide +kernel)
theorem lVS_203 : Cond.fieldLink "VolumeSets" 203 "VolumeSets$Rules" "set" "I" ∈ mn_W := mn_inW 143 (by decide +kernel) (by decide +kernel)
theorem lVS_30 : Cond.classLink "VolumeSets" 30 "VolumeSets$Writer" ∈ mn_W := mn_inW 151 (by decide +kernel) (by decide +kernel)
theorem lVS_32 : Cond.methodLinkNest "VolumeSets" 32 ⟨"VolumeSets$Writer", "<init>", "()V"⟩ "VolumeSets" ∈ mn_NW := mn_inN 153 (by decide +kernel) (by decide +kernel)
theorem lWr_3 : Cond.methodLink "VolumeSets$Writer" 3 ⟨"java/lang/Object", "<init>", "()V"⟩ ∈ mn_W := mn_inW 156 (by decide +kernel) (by decide +kernel)
theorem lWr_9 : Cond.classLink "VolumeSets$Writer" 9 "VolumeSets$Volume" ∈ mn_W := mn_inW 157 (by decide +kernel) (by decide +kernel)
theorem lWr_11 : Cond.methodLinkNest "VolumeSets$Writer" 11 ⟨"VolumeSets$Volume", "<init>", "()V"⟩ "VolumeSets" ∈ mn_NW := mn_inN 159 (by decide +kernel) (by decide +kernel)
theorem lVo_3 : Cond.methodLink "VolumeSets$Volume" 3 ⟨"java/lang/Object", "<init>", "()V"⟩ ∈ mn_W := mn_inW 162 (by decide +kernel) (by decide +kernel)
theorem lVo_9 : Cond.fieldLink "VolumeSets$Volume" 9 "VolumeSets$Volume" "bytes" "[I" ∈ mn_W := mn_inW 163 (by decide +kernel) (by decide +kernel)
theorem lWr_24 : Cond.fieldLink "VolumeSets$Writer" 24 "VolumeSets$Volume" "size" "I" ∈ mn_W := mn_inW 164 (by decide +kernel) (by decide +kernel)
theorem lRd_82 : Cond.fieldLink "VolumeSets$Reading" 82 "VolumeSets$Volume" "size" "I" ∈ mn_W := mn_inW 165 (by decide +kernel) (by decide +kernel)
theorem lSl_22 : Cond.fieldLink "VolumeSets$Slots" 22 "VolumeSets$Volume" "size" "I" ∈ mn_W := mn_inW 166 (by decide +kernel) (by decide +kernel)
theorem lEq_33 : Cond.fieldLink "VolumeSets$Equations" 33 "VolumeSets$Volume" "size" "I" ∈ mn_W := mn_inW 167 (by decide +kernel) (by decide +kernel)
theorem lVo_23 : Cond.fieldLink "VolumeSets$Volume" 23 "VolumeSets$Volume" "size" "I" ∈ mn_W := mn_inW 168 (by decide +kernel) (by decide +kernel)
theorem lVS_137 : Cond.fieldLink "VolumeSets" 137 "VolumeSets$Volume" "size" "I" ∈ mn_W := mn_inW 169 (by decide +kernel) (by decide +kernel)
theorem lWr_12 : Cond.fieldLink "VolumeSets$Writer" 12 "VolumeSets$Writer" "volume" "LVolumeSets$Volume;" ∈ mn_W := mn_inW 175 (by decide +kernel) (by decide +kernel)
theorem lVS_108 : Cond.fieldLink "VolumeSets" 108 "VolumeSets$Writer" "volume" "LVolumeSets$Volume;" ∈ mn_W := mn_inW 176 (by decide +kernel) (by decide +kernel)
theorem lVS_37 : Cond.classLink "VolumeSets" 37 "VolumeSets$Slots" ∈ mn_W := mn_inW 180 (by decide +kernel) (by decide +kernel)
theorem lVS_39 : Cond.methodLink "VolumeSets" 39 ⟨"VolumeSets$Slots", "<init>", "()V"⟩ ∈ mn_W := mn_inW 182 (by decide +kernel) (by decide +kernel)
theorem lSl_3 : Cond.methodLink "VolumeSets$Slots" 3 ⟨"java/lang/Object", "<init>", "()V"⟩ ∈ mn_W := mn_inW 185 (by decide +kernel) (by decide +kernel)
theorem lSl_9 : Cond.classLink "VolumeSets$Slots" 9 "VolumeSets$Volume" ∈ mn_W := mn_inW 186 (by decide +kernel) (by decide +kernel)
theorem lSl_17 : Cond.methodLinkNest "VolumeSets$Slots" 17 ⟨"VolumeSets$Volume", "<init>", "()V"⟩ "VolumeSets" ∈ mn_NW := mn_inN 188 (by decide +kernel) (by decide +kernel)
theorem lSl_11 : Cond.fieldLink "VolumeSets$Slots" 11 "VolumeSets$Slots" "volumes" "[LVolumeSets$Volume;" ∈ mn_W := mn_inW 189 (by decide +kernel) (by decide +kernel)
theorem lVS_44 : Cond.classLink "VolumeSets" 44 "VolumeSets$Reading" ∈ mn_W := mn_inW 193 (by decide +kernel) (by decide +kernel)
theorem lVS_46 : Cond.methodLinkNest "VolumeSets" 46 ⟨"VolumeSets$Reading", "<init>", "()V"⟩ "VolumeSets" ∈ mn_NW := mn_inN 195 (by decide +kernel) (by decide +kernel)
theorem lRd_3 : Cond.methodLink "VolumeSets$Reading" 3 ⟨"java/lang/Object", "<init>", "()V"⟩ ∈ mn_W := mn_inW 198 (by decide +kernel) (by decide +kernel)
theorem lRd_9 : Cond.classLink "VolumeSets$Reading" 9 "VolumeSets$Pieces" ∈ mn_W := mn_inW 199 (by decide +kernel) (by decide +kernel)
theorem lRd_11 : Cond.methodLink "VolumeSets$Reading" 11 ⟨"VolumeSets$Pieces", "<init>", "(I)V"⟩ ∈ mn_W := mn_inW 200 (by decide +kernel) (by decide +kernel)
theorem lRd_24 : Cond.classLink "VolumeSets$Reading" 24 "VolumeSets$Equations" ∈ mn_W := mn_inW 201 (by decide +kernel) (by decide +kernel)
theorem lRd_26 : Cond.methodLinkNest "VolumeSets$Reading" 26 ⟨"VolumeSets$Equations", "<init>", "()V"⟩ "VolumeSets" ∈ mn_NW := mn_inN 203 (by decide +kernel) (by decide +kernel)
theorem lEq_3 : Cond.methodLink "VolumeSets$Equations" 3 ⟨"java/lang/Object", "<init>", "()V"⟩ ∈ mn_W := mn_inW 206 (by decide +kernel) (by decide +kernel)
theorem lEq_9 : Cond.classLink "VolumeSets$Equations" 9 "[[I" ∈ mn_W := mn_inW 207 (by decide +kernel) (by decide +kernel)
theorem lEq_11 : Cond.fieldLink "VolumeSets$Equations" 11 "VolumeSets$Equations" "rows" "[[I" ∈ mn_W := mn_inW 209 (by decide +kernel) (by decide +kernel)
theorem lEq_16 : Cond.fieldLink "VolumeSets$Equations" 16 "VolumeSets$Equations" "numbers" "[I" ∈ mn_W := mn_inW 210 (by decide +kernel) (by decide +kernel)
theorem lEq_20 : Cond.fieldLink "VolumeSets$Equations" 20 "VolumeSets$Equations" "unknowns" "I" ∈ mn_W := mn_inW 211 (by decide +kernel) (by decide +kernel)
theorem lRd_133 : Cond.fieldLink "VolumeSets$Reading" 133 "VolumeSets$Equations" "unknowns" "I" ∈ mn_W := mn_inW 212 (by decide +kernel) (by decide +kernel)
theorem lEq_24 : Cond.fieldLink "VolumeSets$Equations" 24 "VolumeSets$Equations" "given" "I" ∈ mn_W := mn_inW 213 (by decide +kernel) (by decide +kernel)
theorem lRd_120 : Cond.fieldLink "VolumeSets$Reading" 120 "VolumeSets$Equations" "given" "I" ∈ mn_W := mn_inW 214 (by decide +kernel) (by decide +kernel)
theorem lRd_14 : Cond.fieldLink "VolumeSets$Reading" 14 "VolumeSets$Reading" "pieces" "LVolumeSets$Pieces;" ∈ mn_W := mn_inW 224 (by decide +kernel) (by decide +kernel)
theorem lVS_164 : Cond.fieldLink "VolumeSets" 164 "VolumeSets$Reading" "pieces" "LVolumeSets$Pieces;" ∈ mn_W := mn_inW 225 (by decide +kernel) (by decide +kernel)
theorem lRd_20 : Cond.fieldLink "VolumeSets$Reading" 20 "VolumeSets$Reading" "places" "[I" ∈ mn_W := mn_inW 226 (by decide +kernel) (by decide +kernel)
theorem lRd_27 : Cond.fieldLink "VolumeSets$Reading" 27 "VolumeSets$Reading" "equations" "LVolumeSets$Equations;" ∈ mn_W := mn_inW 227 (by decide +kernel) (by decide +kernel)
theorem lRd_37 : Cond.fieldLink "VolumeSets$Reading" 37 "VolumeSets$Reading" "done" "Z" ∈ mn_W := mn_inW 228 (by decide +kernel) (by decide +kernel)
theorem lVS_160 : Cond.fieldLink "VolumeSets" 160 "VolumeSets$Reading" "done" "Z" ∈ mn_W := mn_inW 229 (by decide +kernel) (by decide +kernel)
theorem lRd_85 : Cond.fieldLink "VolumeSets$Reading" 85 "VolumeSets$Reading" "size" "I" ∈ mn_W := mn_inW 230 (by decide +kernel) (by decide +kernel)
theorem lVS_178 : Cond.fieldLink "VolumeSets" 178 "VolumeSets$Reading" "size" "I" ∈ mn_W := mn_inW 231 (by decide +kernel) (by decide +kernel)
theorem lRd_90 : Cond.fieldLink "VolumeSets$Reading" 90 "VolumeSets$Reading" "repairs" "I" ∈ mn_W := mn_inW 232 (by decide +kernel) (by decide +kernel)
theorem lVS_177 : Cond.fieldLink "VolumeSets" 177 "VolumeSets$Reading" "repairs" "I" ∈ mn_W := mn_inW 233 (by decide +kernel) (by decide +kernel)
theorem lRd_66 : Cond.fieldLink "VolumeSets$Reading" 66 "VolumeSets$Reading" "present" "I" ∈ mn_W := mn_inW 234 (by decide +kernel) (by decide +kernel)
theorem lRd_70 : Cond.fieldLink "VolumeSets$Reading" 70 "VolumeSets$Reading" "madeAgain" "I" ∈ mn_W := mn_inW 235 (by decide +kernel) (by decide +kernel)
theorem lVS_179 : Cond.fieldLink "VolumeSets" 179 "VolumeSets$Reading" "madeAgain" "I" ∈ mn_W := mn_inW 236 (by decide +kernel) (by decide +kernel)
theorem lVS_51 : Cond.classLink "VolumeSets" 51 "VolumeSets$Opening" ∈ mn_W := mn_inW 254 (by decide +kernel) (by decide +kernel)
theorem lVS_53 : Cond.methodLinkNest "VolumeSets" 53 ⟨"VolumeSets$Opening", "<init>", "()V"⟩ "VolumeSets" ∈ mn_NW := mn_inN 256 (by decide +kernel) (by decide +kernel)
theorem lOp_3 : Cond.methodLink "VolumeSets$Opening" 3 ⟨"java/lang/Object", "<init>", "()V"⟩ ∈ mn_W := mn_inW 259 (by decide +kernel) (by decide +kernel)
theorem lOp_9 : Cond.fieldLink "VolumeSets$Opening" 9 "VolumeSets$Opening" "places" "[I" ∈ mn_W := mn_inW 260 (by decide +kernel) (by decide +kernel)
theorem lOp_15 : Cond.fieldLink "VolumeSets$Opening" 15 "VolumeSets$Opening" "lengths" "[I" ∈ mn_W := mn_inW 261 (by decide +kernel) (by decide +kernel)
theorem lOp_18 : Cond.fieldLink "VolumeSets$Opening" 18 "VolumeSets$Opening" "whole" "[I" ∈ mn_W := mn_inW 262 (by decide +kernel) (by decide +kernel)
theorem lOp_21 : Cond.fieldLink "VolumeSets$Opening" 21 "VolumeSets$Opening" "told" "I" ∈ mn_W := mn_inW 263 (by decide +kernel) (by decide +kernel)
theorem lVS_169 : Cond.fieldLink "VolumeSets" 169 "VolumeSets$Opening" "told" "I" ∈ mn_W := mn_inW 264 (by decide +kernel) (by decide +kernel)
theorem lVS_10 : Cond.fieldLink "VolumeSets" 10 "VolumeSets" "tape" "LVolumeSets$Tape;" ∈ mn_W := mn_inW 274 (by decide +kernel) (by decide +kernel)
theorem lVS_19 : Cond.fieldLink "VolumeSets" 19 "VolumeSets" "stream" "LVolumeSets$Stream;" ∈ mn_W := mn_inW 275 (by decide +kernel) (by decide +kernel)
theorem lVS_26 : Cond.fieldLink "VolumeSets" 26 "VolumeSets" "rules" "LVolumeSets$Rules;" ∈ mn_W := mn_inW 276 (by decide +kernel) (by decide +kernel)
theorem lVS_33 : Cond.fieldLink "VolumeSets" 33 "VolumeSets" "writer" "LVolumeSets$Writer;" ∈ mn_W := mn_inW 277 (by decide +kernel) (by decide +kernel)
theorem lVS_40 : Cond.fieldLink "VolumeSets" 40 "VolumeSets" "slots" "LVolumeSets$Slots;" ∈ mn_W := mn_inW 278 (by decide +kernel) (by decide +kernel)
theorem lVS_47 : Cond.fieldLink "VolumeSets" 47 "VolumeSets" "reading" "LVolumeSets$Reading;" ∈ mn_W := mn_inW 279 (by decide +kernel) (by decide +kernel)
theorem lVS_54 : Cond.fieldLink "VolumeSets" 54 "VolumeSets" "opening" "LVolumeSets$Opening;" ∈ mn_W := mn_inW 280 (by decide +kernel) (by decide +kernel)
theorem lLa_13 : Cond.methodLink "VolumeSetsLaw" 13 ⟨"VolumeSets", "feed", "(IIIII)I"⟩ ∈ mn_W := mn_inW 296 (by decide +kernel) (by decide +kernel)
theorem lVS_62 : Cond.methodLink "VolumeSets" 62 ⟨"VolumeSets$Tape", "addNumber", "(I)V"⟩ ∈ mn_W := mn_inW 300 (by decide +kernel) (by decide +kernel)
theorem lTa_15 : Cond.methodLink "VolumeSets$Tape" 15 ⟨"VolumeSets$Tape", "add", "(I)V"⟩ ∈ mn_W := mn_inW 304 (by decide +kernel) (by decide +kernel)
theorem lLa_18 : Cond.methodLink "VolumeSetsLaw" 18 ⟨"VolumeSets", "end", "(I)I"⟩ ∈ mn_W := mn_inW 308 (by decide +kernel) (by decide +kernel)
theorem lLa_23 : Cond.methodLink "VolumeSetsLaw" 23 ⟨"VolumeSets", "entry", "()I"⟩ ∈ mn_W := mn_inW 312 (by decide +kernel) (by decide +kernel)
theorem lVS_69 : Cond.methodLink "VolumeSets" 69 ⟨"VolumeSets$Stream", "append", "(LVolumeSets$Tape;)V"⟩ ∈ mn_W := mn_inW 316 (by decide +kernel) (by decide +kernel)
theorem lSt_31 : Cond.methodLink "VolumeSets$Stream" 31 ⟨"VolumeSets$Tape", "sum", "()I"⟩ ∈ mn_W := mn_inW 320 (by decide +kernel) (by decide +kernel)
theorem lTa_23 : Cond.methodLink "VolumeSets$Tape" 23 ⟨"VolumeSets$Bytes", "sum", "([III)I"⟩ ∈ mn_W := mn_inW 324 (by decide +kernel) (by decide +kernel)
theorem lBy_7 : Cond.methodLink "VolumeSets$Bytes" 7 ⟨"java/lang/Math", "max", "(II)I"⟩ ∈ mn_W := mn_inW 327 (by decide +kernel) (by decide +kernel)
theorem lBy_13 : Cond.constant "VolumeSets$Bytes" 13 65535 ∈ mn_W := mn_inW 328 (by decide +kernel) (by decide +kernel)
theorem lSt_38 : Cond.methodLink "VolumeSets$Stream" 38 ⟨"VolumeSets$Stream", "add", "(I)V"⟩ ∈ mn_W := mn_inW 329 (by decide +kernel) (by decide +kernel)
theorem lSt_45 : Cond.methodLink "VolumeSets$Stream" 45 ⟨"VolumeSets$Pieces", "put", "(II)V"⟩ ∈ mn_W := mn_inW 333 (by decide +kernel) (by decide +kernel)
theorem lSt_41 : Cond.methodLink "VolumeSets$Stream" 41 ⟨"VolumeSets$Tape", "byteAt", "(I)I"⟩ ∈ mn_W := mn_inW 337 (by decide +kernel) (by decide +kernel)
theorem lLa_28 : Cond.methodLink "VolumeSetsLaw" 28 ⟨"VolumeSets", "clear", "()I"⟩ ∈ mn_W := mn_inW 341 (by decide +kernel) (by decide +kernel)
theorem lVS_73 : Cond.methodLink "VolumeSets" 73 ⟨"VolumeSets$Stream", "forgetAll", "()V"⟩ ∈ mn_W := mn_inW 345 (by decide +kernel) (by decide +kernel)
theorem lSt_49 : Cond.methodLink "VolumeSets$Stream" 49 ⟨"VolumeSets$Pieces", "blank", "()V"⟩ ∈ mn_W := mn_inW 349 (by decide +kernel) (by decide +kernel)
theorem lPc_27 : Cond.methodLink "VolumeSets$Pieces" 27 ⟨"java/util/Arrays", "fill", "([II)V"⟩ ∈ mn_W := mn_inW 353 (by decide +kernel) (by decide +kernel)
theorem lLa_32 : Cond.methodLink "VolumeSetsLaw" 32 ⟨"VolumeSets", "rule", "(II)I"⟩ ∈ mn_W := mn_inW 356 (by decide +kernel) (by decide +kernel)
theorem lVS_76 : Cond.methodLink "VolumeSets" 76 ⟨"VolumeSets$Rules", "change", "(II)I"⟩ ∈ mn_W := mn_inW 360 (by decide +kernel) (by decide +kernel)
theorem lRu_15 : Cond.methodLink "VolumeSets$Rules" 15 ⟨"VolumeSets$Rules", "changeSize", "(I)I"⟩ ∈ mn_W := mn_inW 364 (by decide +kernel) (by decide +kernel)
theorem lRu_19 : Cond.methodLink "VolumeSets$Rules" 19 ⟨"VolumeSets$Rules", "changeRepairs", "(I)I"⟩ ∈ mn_W := mn_inW 368 (by decide +kernel) (by decide +kernel)
theorem lRu_22 : Cond.methodLink "VolumeSets$Rules" 22 ⟨"VolumeSets$Rules", "changeSet", "(I)I"⟩ ∈ mn_W := mn_inW 372 (by decide +kernel) (by decide +kernel)
theorem lLa_37 : Cond.methodLink "VolumeSetsLaw" 37 ⟨"VolumeSets", "volumes", "()I"⟩ ∈ mn_W := mn_inW 376 (by decide +kernel) (by decide +kernel)
theorem lVS_80 : Cond.methodLink "VolumeSets" 80 ⟨"VolumeSets$Rules", "width", "()I"⟩ ∈ mn_W := mn_inW 380 (by decide +kernel) (by decide +kernel)
theorem lVS_84 : Cond.methodLink "VolumeSets" 84 ⟨"VolumeSets$Stream", "pieceCount", "(I)I"⟩ ∈ mn_W := mn_inW 384 (by decide +kernel) (by decide +kernel)
theorem lSt_52 : Cond.methodLink "VolumeSets$Stream" 52 ⟨"VolumeSets$Bytes", "quotient", "(II)I"⟩ ∈ mn_W := mn_inW 388 (by decide +kernel) (by decide +kernel)
theorem lSt_58 : Cond.methodLink "VolumeSets$Stream" 58 ⟨"java/lang/Math", "max", "(II)I"⟩ ∈ mn_W := mn_inW 391 (by decide +kernel) (by decide +kernel)
theorem lLa_41 : Cond.methodLink "VolumeSetsLaw" 41 ⟨"VolumeSets", "byteOf", "(II)I"⟩ ∈ mn_W := mn_inW 392 (by decide +kernel) (by decide +kernel)
theorem lVS_91 : Cond.methodLink "VolumeSets" 91 ⟨"VolumeSets", "volumes", "()I"⟩ ∈ mn_W := mn_inW 396 (by decide +kernel) (by decide +kernel)
theorem lVS_97 : Cond.methodLink "VolumeSets" 97 ⟨"VolumeSets$Stream", "divide", "(I)V"⟩ ∈ mn_W := mn_inW 397 (by decide +kernel) (by decide +kernel)
theorem lSt_63 : Cond.methodLink "VolumeSets$Stream" 63 ⟨"VolumeSets$Stream", "pieceCount", "(I)I"⟩ ∈ mn_W := mn_inW 401 (by decide +kernel) (by decide +kernel)
theorem lSt_66 : Cond.methodLink "VolumeSets$Stream" 66 ⟨"java/lang/Math", "min", "(II)I"⟩ ∈ mn_W := mn_inW 402 (by decide +kernel) (by decide +kernel)
theorem lSt_75 : Cond.methodLink "VolumeSets$Stream" 75 ⟨"VolumeSets$Pieces", "putPart", "(III)V"⟩ ∈ mn_W := mn_inW 405 (by decide +kernel) (by decide +kernel)
theorem lPc_50 : Cond.methodLink "VolumeSets$Pieces" 50 ⟨"VolumeSets$Pieces", "put", "(II)V"⟩ ∈ mn_W := mn_inW 409 (by decide +kernel) (by decide +kernel)
theorem lSt_79 : Cond.methodLink "VolumeSets$Stream" 79 ⟨"VolumeSets$Stream", "startIn", "(II)I"⟩ ∈ mn_W := mn_inW 410 (by decide +kernel) (by decide +kernel)
theorem lVS_104 : Cond.methodLink "VolumeSets" 104 ⟨"VolumeSets$Writer", "make", "(ILVolumeSets$Pieces;LVolumeSets$Rules;)V"⟩ ∈ mn_W := mn_inW 414 (by decide +kernel) (by decide +kernel)
theorem lWr_25 : Cond.methodLink "VolumeSets$Writer" 25 ⟨"VolumeSets$Volume", "put", "(II)V"⟩ ∈ mn_W := mn_inW 418 (by decide +kernel) (by decide +kernel)
theorem lWr_40 : Cond.methodLink "VolumeSets$Writer" 40 ⟨"VolumeSets$Pieces", "part", "(II)I"⟩ ∈ mn_W := mn_inW 422 (by decide +kernel) (by decide +kernel)
theorem lPc_46 : Cond.methodLink "VolumeSets$Pieces" 46 ⟨"VolumeSets$Pieces", "byteAt", "(I)I"⟩ ∈ mn_W := mn_inW 426 (by decide +kernel) (by decide +kernel)
theorem lWr_44 : Cond.methodLink "VolumeSets$Writer" 44 ⟨"VolumeSets$Pieces", "mixed", "(II)I"⟩ ∈ mn_W := mn_inW 430 (by decide +kernel) (by decide +kernel)
theorem lPc_54 : Cond.methodLink "VolumeSets$Pieces" 54 ⟨"VolumeSets$Bytes", "raised", "(II)I"⟩ ∈ mn_W := mn_inW 434 (by decide +kernel) (by decide +kernel)
theorem lBy_16 : Cond.methodLink "VolumeSets$Bytes" 16 ⟨"VolumeSets$Bytes", "twice", "(I)I"⟩ ∈ mn_W := mn_inW 437 (by decide +kernel) (by decide +kernel)
theorem lPc_57 : Cond.methodLink "VolumeSets$Pieces" 57 ⟨"VolumeSets$Pieces", "part", "(II)I"⟩ ∈ mn_W := mn_inW 440 (by decide +kernel) (by decide +kernel)
theorem lWr_47 : Cond.methodLink "VolumeSets$Writer" 47 ⟨"VolumeSets$Volume", "seal", "()V"⟩ ∈ mn_W := mn_inW 441 (by decide +kernel) (by decide +kernel)
theorem lVo_27 : Cond.methodLink "VolumeSets$Volume" 27 ⟨"VolumeSets$Bytes", "sum", "([III)I"⟩ ∈ mn_W := mn_inW 445 (by decide +kernel) (by decide +kernel)
theorem lVo_33 : Cond.methodLink "VolumeSets$Volume" 33 ⟨"VolumeSets$Volume", "putSum", "(II)V"⟩ ∈ mn_W := mn_inW 446 (by decide +kernel) (by decide +kernel)
theorem lVo_15 : Cond.methodLink "VolumeSets$Volume" 15 ⟨"VolumeSets$Volume", "put", "(II)V"⟩ ∈ mn_W := mn_inW 450 (by decide +kernel) (by decide +kernel)
theorem lVS_112 : Cond.methodLink "VolumeSets" 112 ⟨"VolumeSets$Volume", "byteAt", "(I)I"⟩ ∈ mn_W := mn_inW 451 (by decide +kernel) (by decide +kernel)
theorem lLa_45 : Cond.methodLink "VolumeSetsLaw" 45 ⟨"VolumeSets", "write", "(I)I"⟩ ∈ mn_W := mn_inW 455 (by decide +kernel) (by decide +kernel)
theorem lVS_117 : Cond.methodLink "VolumeSets" 117 ⟨"VolumeSets$Writer", "missingIn", "(LVolumeSets$Slots;LVolumeSets$Pieces;LVolumeSets$Rules;)I"⟩ ∈ mn_W := mn_inW 459 (by decide +kernel) (by decide +kernel)
theorem lWr_50 : Cond.methodLink "VolumeSets$Writer" 50 ⟨"VolumeSets$Writer", "make", "(ILVolumeSets$Pieces;LVolumeSets$Rules;)V"⟩ ∈ mn_W := mn_inW 463 (by decide +kernel) (by decide +kernel)
theorem lWr_54 : Cond.methodLink "VolumeSets$Writer" 54 ⟨"VolumeSets$Slots", "hold", "(LVolumeSets$Volume;)Z"⟩ ∈ mn_W := mn_inW 464 (by decide +kernel) (by decide +kernel)
theorem lSl_34 : Cond.methodLink "VolumeSets$Slots" 34 ⟨"VolumeSets$Volume", "hasJustTheBytesOf", "(LVolumeSets$Volume;)Z"⟩ ∈ mn_W := mn_inW 468 (by decide +kernel) (by decide +kernel)
theorem lVo_19 : Cond.methodLink "VolumeSets$Volume" 19 ⟨"VolumeSets$Volume", "byteAt", "(I)I"⟩ ∈ mn_W := mn_inW 472 (by decide +kernel) (by decide +kernel)
theorem lVS_121 : Cond.methodLink "VolumeSets" 121 ⟨"java/lang/Math", "min", "(II)I"⟩ ∈ mn_W := mn_inW 473 (by decide +kernel) (by decide +kernel)
theorem lVS_126 : Cond.methodLink "VolumeSets" 126 ⟨"VolumeSets$Slots", "filled", "()I"⟩ ∈ mn_W := mn_inW 474 (by decide +kernel) (by decide +kernel)
theorem lVS_129 : Cond.methodLink "VolumeSets" 129 ⟨"VolumeSets$Writer", "fill", "(LVolumeSets$Slots;LVolumeSets$Pieces;LVolumeSets$Rules;I)I"⟩ ∈ mn_W := mn_inW 478 (by decide +kernel) (by decide +kernel)
theorem lWr_60 : Cond.methodLink "VolumeSets$Writer" 60 ⟨"VolumeSets$Volume", "cutOff", "()V"⟩ ∈ mn_W := mn_inW 482 (by decide +kernel) (by decide +kernel)
theorem lWr_63 : Cond.methodLink "VolumeSets$Writer" 63 ⟨"VolumeSets$Slots", "putIntoLeastEmpty", "(LVolumeSets$Volume;)V"⟩ ∈ mn_W := mn_inW 486 (by decide +kernel) (by decide +kernel)
theorem lSl_38 : Cond.methodLink "VolumeSets$Slots" 38 ⟨"VolumeSets$Volume", "become", "(LVolumeSets$Volume;)V"⟩ ∈ mn_W := mn_inW 490 (by decide +kernel) (by decide +kernel)
theorem lVo_36 : Cond.methodLink "VolumeSets$Volume" 36 ⟨"java/lang/System", "arraycopy", "(Ljava/lang/Object;ILjava/lang/Object;II)V"⟩ ∈ mn_W := mn_inW 494 (by decide +kernel) (by decide +kernel)
theorem lLa_49 : Cond.methodLink "VolumeSetsLaw" 49 ⟨"VolumeSets", "lose", "(I)I"⟩ ∈ mn_W := mn_inW 497 (by decide +kernel) (by decide +kernel)
theorem lVS_133 : Cond.methodLink "VolumeSets" 133 ⟨"VolumeSets$Slots", "at", "(I)LVolumeSets$Volume;"⟩ ∈ mn_W := mn_inW 501 (by decide +kernel) (by decide +kernel)
theorem lLa_53 : Cond.methodLink "VolumeSetsLaw" 53 ⟨"VolumeSets", "poke", "(III)I"⟩ ∈ mn_W := mn_inW 505 (by decide +kernel) (by decide +kernel)
theorem lVS_138 : Cond.methodLink "VolumeSets" 138 ⟨"VolumeSets$Volume", "put", "(II)V"⟩ ∈ mn_W := mn_inW 509 (by decide +kernel) (by decide +kernel)
theorem lLa_58 : Cond.methodLink "VolumeSetsLaw" 58 ⟨"VolumeSets", "swap", "(II)I"⟩ ∈ mn_W := mn_inW 510 (by decide +kernel) (by decide +kernel)
theorem lVS_142 : Cond.methodLink "VolumeSets" 142 ⟨"VolumeSets$Slots", "exchange", "(II)V"⟩ ∈ mn_W := mn_inW 514 (by decide +kernel) (by decide +kernel)
theorem lSl_18 : Cond.methodLink "VolumeSets$Slots" 18 ⟨"VolumeSets$Slots", "at", "(I)LVolumeSets$Volume;"⟩ ∈ mn_W := mn_inW 518 (by decide +kernel) (by decide +kernel)
theorem lLa_62 : Cond.methodLink "VolumeSetsLaw" 62 ⟨"VolumeSets", "copy", "(II)I"⟩ ∈ mn_W := mn_inW 519 (by decide +kernel) (by decide +kernel)
theorem lVS_145 : Cond.methodLink "VolumeSets" 145 ⟨"VolumeSets$Volume", "become", "(LVolumeSets$Volume;)V"⟩ ∈ mn_W := mn_inW 523 (by decide +kernel) (by decide +kernel)
theorem lLa_66 : Cond.methodLink "VolumeSetsLaw" 66 ⟨"VolumeSets", "slot", "(II)I"⟩ ∈ mn_W := mn_inW 524 (by decide +kernel) (by decide +kernel)
theorem lVS_149 : Cond.methodLink "VolumeSets" 149 ⟨"VolumeSets$Volume", "state", "()I"⟩ ∈ mn_W := mn_inW 528 (by decide +kernel) (by decide +kernel)
theorem lVo_45 : Cond.methodLink "VolumeSets$Volume" 45 ⟨"VolumeSets$Volume", "hasHead", "()Z"⟩ ∈ mn_W := mn_inW 532 (by decide +kernel) (by decide +kernel)
theorem lVo_42 : Cond.methodLink "VolumeSets$Volume" 42 ⟨"VolumeSets$Volume", "sumAt", "(I)I"⟩ ∈ mn_W := mn_inW 536 (by decide +kernel) (by decide +kernel)
theorem lVS_152 : Cond.methodLink "VolumeSets" 152 ⟨"VolumeSets$Volume", "hasHead", "()Z"⟩ ∈ mn_W := mn_inW 540 (by decide +kernel) (by decide +kernel)
theorem lLa_70 : Cond.methodLink "VolumeSetsLaw" 70 ⟨"VolumeSets", "read", "(I)I"⟩ ∈ mn_W := mn_inW 541 (by decide +kernel) (by decide +kernel)
theorem lVS_156 : Cond.methodLink "VolumeSets" 156 ⟨"VolumeSets$Reading", "gather", "(LVolumeSets$Slots;I)I"⟩ ∈ mn_W := mn_inW 545 (by decide +kernel) (by decide +kernel)
theorem lRd_31 : Cond.methodLink "VolumeSets$Reading" 31 ⟨"VolumeSets$Slots", "firstGood", "(I)LVolumeSets$Volume;"⟩ ∈ mn_W := mn_inW 549 (by decide +kernel) (by decide +kernel)
theorem lSl_30 : Cond.methodLink "VolumeSets$Slots" 30 ⟨"VolumeSets$Volume", "isGoodOf", "(I)Z"⟩ ∈ mn_W := mn_inW 553 (by decide +kernel) (by decide +kernel)
theorem lVo_49 : Cond.methodLink "VolumeSets$Volume" 49 ⟨"VolumeSets$Volume", "state", "()I"⟩ ∈ mn_W := mn_inW 557 (by decide +kernel) (by decide +kernel)
theorem lRd_41 : Cond.methodLink "VolumeSets$Reading" 41 ⟨"VolumeSets$Reading", "begin", "(LVolumeSets$Volume;)V"⟩ ∈ mn_W := mn_inW 558 (by decide +kernel) (by decide +kernel)
theorem lRd_73 : Cond.methodLink "VolumeSets$Reading" 73 ⟨"VolumeSets$Pieces", "blank", "()V"⟩ ∈ mn_W := mn_inW 562 (by decide +kernel) (by decide +kernel)
theorem lRd_76 : Cond.methodLink "VolumeSets$Reading" 76 ⟨"java/util/Arrays", "fill", "([II)V"⟩ ∈ mn_W := mn_inW 563 (by decide +kernel) (by decide +kernel)
theorem lRd_86 : Cond.methodLink "VolumeSets$Reading" 86 ⟨"VolumeSets$Volume", "byteAt", "(I)I"⟩ ∈ mn_W := mn_inW 564 (by decide +kernel) (by decide +kernel)
theorem lRd_45 : Cond.methodLink "VolumeSets$Reading" 45 ⟨"VolumeSets$Slots", "at", "(I)LVolumeSets$Volume;"⟩ ∈ mn_W := mn_inW 565 (by decide +kernel) (by decide +kernel)
theorem lRd_48 : Cond.methodLink "VolumeSets$Reading" 48 ⟨"VolumeSets$Volume", "isGoodOf", "(I)Z"⟩ ∈ mn_W := mn_inW 566 (by decide +kernel) (by decide +kernel)
theorem lRd_54 : Cond.methodLink "VolumeSets$Reading" 54 ⟨"VolumeSets$Volume", "isAsWideAndManyAs", "(LVolumeSets$Volume;)Z"⟩ ∈ mn_W := mn_inW 567 (by decide +kernel) (by decide +kernel)
theorem lRd_58 : Cond.methodLink "VolumeSets$Reading" 58 ⟨"VolumeSets$Reading", "take", "(LVolumeSets$Volume;I)V"⟩ ∈ mn_W := mn_inW 571 (by decide +kernel) (by decide +kernel)
theorem lRd_99 : Cond.methodLink "VolumeSets$Reading" 99 ⟨"VolumeSets$Reading", "placeOf", "(I)I"⟩ ∈ mn_W := mn_inW 575 (by decide +kernel) (by decide +kernel)
theorem lRd_102 : Cond.methodLink "VolumeSets$Reading" 102 ⟨"VolumeSets$Reading", "setPlace", "(II)V"⟩ ∈ mn_W := mn_inW 579 (by decide +kernel) (by decide +kernel)
theorem lRd_106 : Cond.methodLink "VolumeSets$Reading" 106 ⟨"VolumeSets$Pieces", "putPart", "(III)V"⟩ ∈ mn_W := mn_inW 583 (by decide +kernel) (by decide +kernel)
theorem lRd_62 : Cond.methodLink "VolumeSets$Reading" 62 ⟨"VolumeSets$Reading", "makeAgain", "(LVolumeSets$Slots;)V"⟩ ∈ mn_W := mn_inW 584 (by decide +kernel) (by decide +kernel)
theorem lRd_110 : Cond.methodLink "VolumeSets$Reading" 110 ⟨"VolumeSets$Reading", "repairsOfIt", "()I"⟩ ∈ mn_W := mn_inW 588 (by decide +kernel) (by decide +kernel)
theorem lRd_114 : Cond.methodLink "VolumeSets$Reading" 114 ⟨"VolumeSets$Equations", "forgetAll", "()V"⟩ ∈ mn_W := mn_inW 592 (by decide +kernel) (by decide +kernel)
theorem lRd_117 : Cond.methodLink "VolumeSets$Reading" 117 ⟨"VolumeSets$Equations", "addUnknown", "(I)V"⟩ ∈ mn_W := mn_inW 596 (by decide +kernel) (by decide +kernel)
theorem lRd_123 : Cond.methodLink "VolumeSets$Reading" 123 ⟨"VolumeSets$Equations", "addRepair", "(ILVolumeSets$Volume;LVolumeSets$Pieces;)V"⟩ ∈ mn_W := mn_inW 600 (by decide +kernel) (by decide +kernel)
theorem lEq_27 : Cond.methodLink "VolumeSets$Equations" 27 ⟨"VolumeSets$Bytes", "raised", "(II)I"⟩ ∈ mn_W := mn_inW 604 (by decide +kernel) (by decide +kernel)
theorem lEq_38 : Cond.methodLink "VolumeSets$Equations" 38 ⟨"VolumeSets$Volume", "byteAt", "(I)I"⟩ ∈ mn_W := mn_inW 605 (by decide +kernel) (by decide +kernel)
theorem lEq_42 : Cond.methodLink "VolumeSets$Equations" 42 ⟨"VolumeSets$Pieces", "mixed", "(II)I"⟩ ∈ mn_W := mn_inW 606 (by decide +kernel) (by decide +kernel)
theorem lRd_127 : Cond.methodLink "VolumeSets$Reading" 127 ⟨"VolumeSets$Equations", "solve", "()V"⟩ ∈ mn_W := mn_inW 607 (by decide +kernel) (by decide +kernel)
theorem lEq_47 : Cond.methodLink "VolumeSets$Equations" 47 ⟨"VolumeSets$Bytes", "inverse", "(I)I"⟩ ∈ mn_W := mn_inW 611 (by decide +kernel) (by decide +kernel)
theorem lBy_20 : Cond.methodLink "VolumeSets$Bytes" 20 ⟨"VolumeSets$Bytes", "product", "(II)I"⟩ ∈ mn_W := mn_inW 614 (by decide +kernel) (by decide +kernel)
theorem lEq_50 : Cond.methodLink "VolumeSets$Equations" 50 ⟨"VolumeSets$Equations", "scale", "(II)V"⟩ ∈ mn_W := mn_inW 617 (by decide +kernel) (by decide +kernel)
theorem lEq_58 : Cond.methodLink "VolumeSets$Equations" 58 ⟨"VolumeSets$Bytes", "product", "(II)I"⟩ ∈ mn_W := mn_inW 621 (by decide +kernel) (by decide +kernel)
theorem lEq_54 : Cond.methodLink "VolumeSets$Equations" 54 ⟨"VolumeSets$Equations", "addTo", "(III)V"⟩ ∈ mn_W := mn_inW 622 (by decide +kernel) (by decide +kernel)
theorem lRd_130 : Cond.methodLink "VolumeSets$Reading" 130 ⟨"VolumeSets$Reading", "takeUnknowns", "()V"⟩ ∈ mn_W := mn_inW 626 (by decide +kernel) (by decide +kernel)
theorem lRd_136 : Cond.methodLink "VolumeSets$Reading" 136 ⟨"VolumeSets$Equations", "numberOf", "(I)I"⟩ ∈ mn_W := mn_inW 630 (by decide +kernel) (by decide +kernel)
theorem lRd_139 : Cond.methodLink "VolumeSets$Reading" 139 ⟨"VolumeSets$Equations", "byteOfUnknown", "(II)I"⟩ ∈ mn_W := mn_inW 634 (by decide +kernel) (by decide +kernel)
theorem lVS_165 : Cond.methodLink "VolumeSets" 165 ⟨"VolumeSets$Opening", "open", "(LVolumeSets$Pieces;)V"⟩ ∈ mn_W := mn_inW 638 (by decide +kernel) (by decide +kernel)
theorem lOp_25 : Cond.methodLink "VolumeSets$Opening" 25 ⟨"VolumeSets$Pieces", "nextKnown", "(I)I"⟩ ∈ mn_W := mn_inW 642 (by decide +kernel) (by decide +kernel)
theorem lPc_67 : Cond.methodLink "VolumeSets$Pieces" 67 ⟨"VolumeSets$Pieces", "isKnown", "(I)Z"⟩ ∈ mn_W := mn_inW 646 (by decide +kernel) (by decide +kernel)
theorem lPc_60 : Cond.methodLink "VolumeSets$Pieces" 60 ⟨"VolumeSets$Pieces", "room", "()I"⟩ ∈ mn_W := mn_inW 650 (by decide +kernel) (by decide +kernel)
theorem lPc_64 : Cond.methodLink "VolumeSets$Pieces" 64 ⟨"VolumeSets$Bytes", "quotient", "(II)I"⟩ ∈ mn_W := mn_inW 654 (by decide +kernel) (by decide +kernel)
theorem lPc_71 : Cond.methodLink "VolumeSets$Pieces" 71 ⟨"VolumeSets$Pieces", "startBehind", "(I)I"⟩ ∈ mn_W := mn_inW 655 (by decide +kernel) (by decide +kernel)
theorem lOp_31 : Cond.methodLink "VolumeSets$Opening" 31 ⟨"VolumeSets$Pieces", "byteAt", "(I)I"⟩ ∈ mn_W := mn_inW 659 (by decide +kernel) (by decide +kernel)
theorem lOp_34 : Cond.methodLink "VolumeSets$Opening" 34 ⟨"VolumeSets$Opening", "isWhole", "(LVolumeSets$Pieces;II)Z"⟩ ∈ mn_W := mn_inW 660 (by decide +kernel) (by decide +kernel)
theorem lOp_38 : Cond.methodLink "VolumeSets$Opening" 38 ⟨"VolumeSets$Pieces", "areKnown", "(II)Z"⟩ ∈ mn_W := mn_inW 663 (by decide +kernel) (by decide +kernel)
theorem lOp_42 : Cond.methodLink "VolumeSets$Opening" 42 ⟨"VolumeSets$Pieces", "sum", "(II)I"⟩ ∈ mn_W := mn_inW 667 (by decide +kernel) (by decide +kernel)
theorem lPc_40 : Cond.methodLink "VolumeSets$Pieces" 40 ⟨"VolumeSets$Bytes", "sum", "([III)I"⟩ ∈ mn_W := mn_inW 671 (by decide +kernel) (by decide +kernel)
theorem lLa_74 : Cond.methodLink "VolumeSetsLaw" 74 ⟨"VolumeSets", "found", "(I)I"⟩ ∈ mn_W := mn_inW 672 (by decide +kernel) (by decide +kernel)
theorem lVS_182 : Cond.methodLink "VolumeSets" 182 ⟨"VolumeSets$Opening", "openedOnes", "()I"⟩ ∈ mn_W := mn_inW 676 (by decide +kernel) (by decide +kernel)
theorem lLa_78 : Cond.methodLink "VolumeSetsLaw" 78 ⟨"VolumeSets", "where", "(I)I"⟩ ∈ mn_W := mn_inW 680 (by decide +kernel) (by decide +kernel)
theorem lVS_185 : Cond.methodLink "VolumeSets" 185 ⟨"VolumeSets$Reading", "placeOf", "(I)I"⟩ ∈ mn_W := mn_inW 684 (by decide +kernel) (by decide +kernel)
theorem lLa_82 : Cond.methodLink "VolumeSetsLaw" 82 ⟨"VolumeSets", "got", "(I)I"⟩ ∈ mn_W := mn_inW 685 (by decide +kernel) (by decide +kernel)
theorem lVS_188 : Cond.methodLink "VolumeSets" 188 ⟨"VolumeSets$Pieces", "room", "()I"⟩ ∈ mn_W := mn_inW 689 (by decide +kernel) (by decide +kernel)
theorem lVS_191 : Cond.methodLink "VolumeSets" 191 ⟨"VolumeSets$Pieces", "isKnown", "(I)Z"⟩ ∈ mn_W := mn_inW 690 (by decide +kernel) (by decide +kernel)
theorem lVS_195 : Cond.methodLink "VolumeSets" 195 ⟨"VolumeSets$Pieces", "byteAt", "(I)I"⟩ ∈ mn_W := mn_inW 691 (by decide +kernel) (by decide +kernel)
theorem lLa_86 : Cond.methodLink "VolumeSetsLaw" 86 ⟨"VolumeSets", "opened", "(II)I"⟩ ∈ mn_W := mn_inW 692 (by decide +kernel) (by decide +kernel)
theorem lVS_196 : Cond.methodLink "VolumeSets" 196 ⟨"VolumeSets$Opening", "tellOf", "(II)I"⟩ ∈ mn_W := mn_inW 696 (by decide +kernel) (by decide +kernel)
theorem lLa_90 : Cond.methodLink "VolumeSetsLaw" 90 ⟨"VolumeSets", "count", "(I)I"⟩ ∈ mn_W := mn_inW 700 (by decide +kernel) (by decide +kernel)
theorem lVS_200 : Cond.methodLink "VolumeSets" 200 ⟨"VolumeSets$Slots", "inState", "(I)I"⟩ ∈ mn_W := mn_inW 704 (by decide +kernel) (by decide +kernel)
theorem lSl_26 : Cond.methodLink "VolumeSets$Slots" 26 ⟨"VolumeSets$Volume", "state", "()I"⟩ ∈ mn_W := mn_inW 708 (by decide +kernel) (by decide +kernel)
theorem lLa_10 : Cond.classLink "VolumeSetsLaw" 10 "VolumeSetsModel" ∈ mn_W := mn_inW 709 (by decide +kernel) (by decide +kernel)
theorem lLa_12 : Cond.methodLink "VolumeSetsLaw" 12 ⟨"VolumeSetsModel", "<init>", "()V"⟩ ∈ mn_W := mn_inW 711 (by decide +kernel) (by decide +kernel)
theorem lMo_7 : Cond.methodLink "VolumeSetsModel" 7 ⟨"java/lang/Object", "<init>", "()V"⟩ ∈ mn_W := mn_inW 714 (by decide +kernel) (by decide +kernel)
theorem lMo_1 : Cond.fieldLink "VolumeSetsModel" 1 "VolumeSetsModel" "thrown" "I" ∈ mn_W := mn_inW 715 (by decide +kernel) (by decide +kernel)
theorem lMo_13 : Cond.fieldLink "VolumeSetsModel" 13 "VolumeSetsModel" "tape" "[I" ∈ mn_W := mn_inW 716 (by decide +kernel) (by decide +kernel)
theorem lMo_65 : Cond.fieldLink "VolumeSetsModel" 65 "VolumeSetsModel" "taped" "I" ∈ mn_W := mn_inW 717 (by decide +kernel) (by decide +kernel)
theorem lMo_17 : Cond.fieldLink "VolumeSetsModel" 17 "VolumeSetsModel" "stream" "[I" ∈ mn_W := mn_inW 718 (by decide +kernel) (by decide +kernel)
theorem lMo_20 : Cond.fieldLink "VolumeSetsModel" 20 "VolumeSetsModel" "begins" "[I" ∈ mn_W := mn_inW 719 (by decide +kernel) (by decide +kernel)
theorem lMo_77 : Cond.fieldLink "VolumeSetsModel" 77 "VolumeSetsModel" "entries" "I" ∈ mn_W := mn_inW 720 (by decide +kernel) (by decide +kernel)
theorem lMo_23 : Cond.fieldLink "VolumeSetsModel" 23 "VolumeSetsModel" "size" "I" ∈ mn_W := mn_inW 721 (by decide +kernel) (by decide +kernel)
theorem lMo_84 : Cond.fieldLink "VolumeSetsModel" 84 "VolumeSetsModel" "repairs" "I" ∈ mn_W := mn_inW 722 (by decide +kernel) (by decide +kernel)
theorem lMo_87 : Cond.fieldLink "VolumeSetsModel" 87 "VolumeSetsModel" "set" "I" ∈ mn_W := mn_inW 723 (by decide +kernel) (by decide +kernel)
theorem lMo_26 : Cond.fieldLink "VolumeSetsModel" 26 "VolumeSetsModel" "slot" "[I" ∈ mn_W := mn_inW 724 (by decide +kernel) (by decide +kernel)
theorem lMo_29 : Cond.fieldLink "VolumeSetsModel" 29 "VolumeSetsModel" "slotSize" "[I" ∈ mn_W := mn_inW 725 (by decide +kernel) (by decide +kernel)
theorem lMo_32 : Cond.fieldLink "VolumeSetsModel" 32 "VolumeSetsModel" "volume" "[I" ∈ mn_W := mn_inW 726 (by decide +kernel) (by decide +kernel)
theorem lMo_140 : Cond.fieldLink "VolumeSetsModel" 140 "VolumeSetsModel" "isRead" "Z" ∈ mn_W := mn_inW 727 (by decide +kernel) (by decide +kernel)
theorem lMo_144 : Cond.fieldLink "VolumeSetsModel" 144 "VolumeSetsModel" "m" "I" ∈ mn_W := mn_inW 728 (by decide +kernel) (by decide +kernel)
theorem lMo_147 : Cond.fieldLink "VolumeSetsModel" 147 "VolumeSetsModel" "\x72" "I" ∈ mn_W := mn_inW 729 (by decide +kernel) (by decide +kernel)
theorem lMo_150 : Cond.fieldLink "VolumeSetsModel" 150 "VolumeSetsModel" "wide" "I" ∈ mn_W := mn_inW 730 (by decide +kernel) (by decide +kernel)
theorem lMo_159 : Cond.fieldLink "VolumeSetsModel" 159 "VolumeSetsModel" "again" "I" ∈ mn_W := mn_inW 731 (by decide +kernel) (by decide +kernel)
theorem lMo_35 : Cond.fieldLink "VolumeSetsModel" 35 "VolumeSetsModel" "place" "[I" ∈ mn_W := mn_inW 732 (by decide +kernel) (by decide +kernel)
theorem lMo_38 : Cond.fieldLink "VolumeSetsModel" 38 "VolumeSetsModel" "lengths" "[I" ∈ mn_W := mn_inW 733 (by decide +kernel) (by decide +kernel)
theorem lMo_41 : Cond.fieldLink "VolumeSetsModel" 41 "VolumeSetsModel" "starts" "[I" ∈ mn_W := mn_inW 734 (by decide +kernel) (by decide +kernel)
theorem lMo_44 : Cond.fieldLink "VolumeSetsModel" 44 "VolumeSetsModel" "got" "[I" ∈ mn_W := mn_inW 735 (by decide +kernel) (by decide +kernel)
theorem lMo_175 : Cond.fieldLink "VolumeSetsModel" 175 "VolumeSetsModel" "told" "I" ∈ mn_W := mn_inW 736 (by decide +kernel) (by decide +kernel)
theorem lMo_178 : Cond.fieldLink "VolumeSetsModel" 178 "VolumeSetsModel" "openedMany" "I" ∈ mn_W := mn_inW 737 (by decide +kernel) (by decide +kernel)
theorem lMo_47 : Cond.fieldLink "VolumeSetsModel" 47 "VolumeSetsModel" "tellAt" "[I" ∈ mn_W := mn_inW 738 (by decide +kernel) (by decide +kernel)
theorem lMo_50 : Cond.fieldLink "VolumeSetsModel" 50 "VolumeSetsModel" "tellLength" "[I" ∈ mn_W := mn_inW 739 (by decide +kernel) (by decide +kernel)
theorem lMo_53 : Cond.fieldLink "VolumeSetsModel" 53 "VolumeSetsModel" "tellOpen" "[I" ∈ mn_W := mn_inW 740 (by decide +kernel) (by decide +kernel)
theorem lMo_56 : Cond.fieldLink "VolumeSetsModel" 56 "VolumeSetsModel" "lacks" "[I" ∈ mn_W := mn_inW 741 (by decide +kernel) (by decide +kernel)
theorem lMo_59 : Cond.fieldLink "VolumeSetsModel" 59 "VolumeSetsModel" "by" "[I" ∈ mn_W := mn_inW 742 (by decide +kernel) (by decide +kernel)
theorem lMo_62 : Cond.fieldLink "VolumeSetsModel" 62 "VolumeSetsModel" "grid" "[I" ∈ mn_W := mn_inW 743 (by decide +kernel) (by decide +kernel)
theorem lLa_17 : Cond.methodLink "VolumeSetsLaw" 17 ⟨"VolumeSetsModel", "feed", "(IIIII)I"⟩ ∈ mn_W := mn_inW 803 (by decide +kernel) (by decide +kernel)
theorem lLa_22 : Cond.methodLink "VolumeSetsLaw" 22 ⟨"VolumeSetsModel", "end", "(I)I"⟩ ∈ mn_W := mn_inW 807 (by decide +kernel) (by decide +kernel)
theorem lMo_68 : Cond.methodLink "VolumeSetsModel" 68 ⟨"VolumeSetsModel", "in", "(III)Z"⟩ ∈ mn_W := mn_inW 811 (by decide +kernel) (by decide +kernel)
theorem lLa_27 : Cond.methodLink "VolumeSetsLaw" 27 ⟨"VolumeSetsModel", "entry", "()I"⟩ ∈ mn_W := mn_inW 814 (by decide +kernel) (by decide +kernel)
theorem lMo_80 : Cond.methodLink "VolumeSetsModel" 80 ⟨"VolumeSetsModel", "sum", "([III)I"⟩ ∈ mn_W := mn_inW 818 (by decide +kernel) (by decide +kernel)
theorem lMo_73 : Cond.methodLink "VolumeSetsModel" 73 ⟨"VolumeSetsModel", "step", "(II)I"⟩ ∈ mn_W := mn_inW 821 (by decide +kernel) (by decide +kernel)
theorem lMo_72 : Cond.constant "VolumeSetsModel" 72 65535 ∈ mn_W := mn_inW 824 (by decide +kernel) (by decide +kernel)
theorem lLa_31 : Cond.methodLink "VolumeSetsLaw" 31 ⟨"VolumeSetsModel", "clear", "()I"⟩ ∈ mn_W := mn_inW 825 (by decide +kernel) (by decide +kernel)
theorem lLa_36 : Cond.methodLink "VolumeSetsLaw" 36 ⟨"VolumeSetsModel", "rule", "(II)I"⟩ ∈ mn_W := mn_inW 829 (by decide +kernel) (by decide +kernel)
theorem lLa_40 : Cond.methodLink "VolumeSetsLaw" 40 ⟨"VolumeSetsModel", "volumes", "()I"⟩ ∈ mn_W := mn_inW 833 (by decide +kernel) (by decide +kernel)
theorem lMo_97 : Cond.methodLink "VolumeSetsModel" 97 ⟨"VolumeSetsModel", "pieces", "()I"⟩ ∈ mn_W := mn_inW 837 (by decide +kernel) (by decide +kernel)
theorem lMo_90 : Cond.methodLink "VolumeSetsModel" 90 ⟨"VolumeSetsModel", "length", "()I"⟩ ∈ mn_W := mn_inW 841 (by decide +kernel) (by decide +kernel)
theorem lMo_94 : Cond.methodLink "VolumeSetsModel" 94 ⟨"VolumeSetsModel", "piece", "()I"⟩ ∈ mn_W := mn_inW 845 (by decide +kernel) (by decide +kernel)
theorem lLa_44 : Cond.methodLink "VolumeSetsLaw" 44 ⟨"VolumeSetsModel", "byteOf", "(II)I"⟩ ∈ mn_W := mn_inW 849 (by decide +kernel) (by decide +kernel)
theorem lMo_113 : Cond.methodLink "VolumeSetsModel" 113 ⟨"VolumeSetsModel", "volumes", "()I"⟩ ∈ mn_W := mn_inW 853 (by decide +kernel) (by decide +kernel)
theorem lMo_116 : Cond.methodLink "VolumeSetsModel" 116 ⟨"VolumeSetsModel", "make", "(I)V"⟩ ∈ mn_W := mn_inW 854 (by decide +kernel) (by decide +kernel)
theorem lMo_110 : Cond.methodLink "VolumeSetsModel" 110 ⟨"VolumeSetsModel", "ofVolume", "(II)I"⟩ ∈ mn_W := mn_inW 858 (by decide +kernel) (by decide +kernel)
theorem lMo_103 : Cond.methodLink "VolumeSetsModel" 103 ⟨"VolumeSetsModel", "ofPiece", "(II)I"⟩ ∈ mn_W := mn_inW 862 (by decide +kernel) (by decide +kernel)
theorem lMo_106 : Cond.methodLink "VolumeSetsModel" 106 ⟨"VolumeSetsModel", "power", "(I)I"⟩ ∈ mn_W := mn_inW 866 (by decide +kernel) (by decide +kernel)
theorem lMo_100 : Cond.methodLink "VolumeSetsModel" 100 ⟨"VolumeSetsModel", "times", "(II)I"⟩ ∈ mn_W := mn_inW 869 (by decide +kernel) (by decide +kernel)
theorem lLa_48 : Cond.methodLink "VolumeSetsLaw" 48 ⟨"VolumeSetsModel", "write", "(I)I"⟩ ∈ mn_W := mn_inW 872 (by decide +kernel) (by decide +kernel)
theorem lMo_120 : Cond.methodLink "VolumeSetsModel" 120 ⟨"VolumeSetsModel", "isThere", "()Z"⟩ ∈ mn_W := mn_inW 876 (by decide +kernel) (by decide +kernel)
theorem lMo_124 : Cond.methodLink "VolumeSetsModel" 124 ⟨"VolumeSetsModel", "emptySlots", "()I"⟩ ∈ mn_W := mn_inW 880 (by decide +kernel) (by decide +kernel)
theorem lMo_127 : Cond.methodLink "VolumeSetsModel" 127 ⟨"VolumeSetsModel", "lay", "(I)V"⟩ ∈ mn_W := mn_inW 884 (by decide +kernel) (by decide +kernel)
theorem lLa_52 : Cond.methodLink "VolumeSetsLaw" 52 ⟨"VolumeSetsModel", "lose", "(I)I"⟩ ∈ mn_W := mn_inW 888 (by decide +kernel) (by decide +kernel)
theorem lMo_130 : Cond.methodLink "VolumeSetsModel" 130 ⟨"VolumeSetsModel", "noSlot", "(I)Z"⟩ ∈ mn_W := mn_inW 892 (by decide +kernel) (by decide +kernel)
theorem lLa_57 : Cond.methodLink "VolumeSetsLaw" 57 ⟨"VolumeSetsModel", "poke", "(III)I"⟩ ∈ mn_W := mn_inW 896 (by decide +kernel) (by decide +kernel)
theorem lLa_61 : Cond.methodLink "VolumeSetsLaw" 61 ⟨"VolumeSetsModel", "swap", "(II)I"⟩ ∈ mn_W := mn_inW 900 (by decide +kernel) (by decide +kernel)
theorem lLa_65 : Cond.methodLink "VolumeSetsLaw" 65 ⟨"VolumeSetsModel", "copy", "(II)I"⟩ ∈ mn_W := mn_inW 904 (by decide +kernel) (by decide +kernel)
theorem lLa_69 : Cond.methodLink "VolumeSetsLaw" 69 ⟨"VolumeSetsModel", "slot", "(II)I"⟩ ∈ mn_W := mn_inW 908 (by decide +kernel) (by decide +kernel)
theorem lMo_137 : Cond.methodLink "VolumeSetsModel" 137 ⟨"VolumeSetsModel", "state", "(I)I"⟩ ∈ mn_W := mn_inW 912 (by decide +kernel) (by decide +kernel)
theorem lMo_134 : Cond.methodLink "VolumeSetsModel" 134 ⟨"VolumeSetsModel", "two", "(I)I"⟩ ∈ mn_W := mn_inW 916 (by decide +kernel) (by decide +kernel)
theorem lLa_73 : Cond.methodLink "VolumeSetsLaw" 73 ⟨"VolumeSetsModel", "read", "(I)I"⟩ ∈ mn_W := mn_inW 920 (by decide +kernel) (by decide +kernel)
theorem lMo_153 : Cond.methodLink "VolumeSetsModel" 153 ⟨"VolumeSetsModel", "makeAgain", "()V"⟩ ∈ mn_W := mn_inW 924 (by decide +kernel) (by decide +kernel)
theorem lMo_162 : Cond.methodLink "VolumeSetsModel" 162 ⟨"VolumeSetsModel", "solve", "(II)V"⟩ ∈ mn_W := mn_inW 928 (by decide +kernel) (by decide +kernel)
theorem lMo_166 : Cond.methodLink "VolumeSetsModel" 166 ⟨"VolumeSetsModel", "known", "(II)I"⟩ ∈ mn_W := mn_inW 932 (by decide +kernel) (by decide +kernel)
theorem lMo_169 : Cond.methodLink "VolumeSetsModel" 169 ⟨"VolumeSetsModel", "over", "(I)I"⟩ ∈ mn_W := mn_inW 936 (by decide +kernel) (by decide +kernel)
theorem lMo_156 : Cond.methodLink "VolumeSetsModel" 156 ⟨"VolumeSetsModel", "open", "()V"⟩ ∈ mn_W := mn_inW 939 (by decide +kernel) (by decide +kernel)
theorem lMo_172 : Cond.methodLink "VolumeSetsModel" 172 ⟨"VolumeSetsModel", "isKnown", "(I)Z"⟩ ∈ mn_W := mn_inW 943 (by decide +kernel) (by decide +kernel)
theorem lMo_181 : Cond.methodLink "VolumeSetsModel" 181 ⟨"VolumeSetsModel", "isWhole", "(II)Z"⟩ ∈ mn_W := mn_inW 947 (by decide +kernel) (by decide +kernel)
theorem lLa_77 : Cond.methodLink "VolumeSetsLaw" 77 ⟨"VolumeSetsModel", "found", "(I)I"⟩ ∈ mn_W := mn_inW 951 (by decide +kernel) (by decide +kernel)
theorem lLa_81 : Cond.methodLink "VolumeSetsLaw" 81 ⟨"VolumeSetsModel", "where", "(I)I"⟩ ∈ mn_W := mn_inW 955 (by decide +kernel) (by decide +kernel)
theorem lLa_85 : Cond.methodLink "VolumeSetsLaw" 85 ⟨"VolumeSetsModel", "got", "(I)I"⟩ ∈ mn_W := mn_inW 959 (by decide +kernel) (by decide +kernel)
theorem lLa_89 : Cond.methodLink "VolumeSetsLaw" 89 ⟨"VolumeSetsModel", "opened", "(II)I"⟩ ∈ mn_W := mn_inW 963 (by decide +kernel) (by decide +kernel)
theorem lLa_93 : Cond.methodLink "VolumeSetsLaw" 93 ⟨"VolumeSetsModel", "count", "(I)I"⟩ ∈ mn_W := mn_inW 967 (by decide +kernel) (by decide +kernel)
end
section
/-! MINE: the judgement over the small world, and a row an instruction -/
def mn_ty (E : mn_En) : List (ClassId × FieldType) := (List.range mn_T.length).map (fun t => (E.2.2.1 t, mn_T.getD t .int))
theorem mn_ty_get {E : mn_En} {t : Nat} {ty : FieldType} (h : mn_T[t]? = some ty) : (mn_ty E)[t]? = some (E.2.2.1 t, ty) := by
  have hlt : t < mn_T.length := (List.getElem?_eq_some_iff.mp h).1
  unfold mn_ty
  rw [List.getElem?_map, List.getElem?_range hlt, Option.map_some, List.getD_eq_getElem?_getD, h]
  rfl
def mn_K (E : mn_En) (U : State) : Prop := va_K E.2.1 vwCl (mn_ty E) U ∧ ∀ w ∈ mn_NW, va_Nw w U
theorem mn_K.warm {E : mn_En} {s U : State} (hW : s.WarmedH U.vm) (h : mn_K E s) : mn_K E U := ⟨va_K.moved hW.alike h.1, fun w hw => mn_nw_warm w hw hW (h.2 w hw)⟩
/-- what stays while a method runs: the machine, the method, the tables, the script -/
def mn_X (E : mn_En) (M : mn_M) (p : Program) (s : State) (m : MethodId) (args : Array Value) (meth : Method) (c : Code) : Prop :=
  p.tables.exec = Jvm.exec ∧ c.code = M.2.1 ∧ c.maxLocals = M.2.2.1 ∧ meth.sig.returnType = M.2.2.2 ∧ meth.locks = false ∧ s.vm.findClass M.1.cls = some m.cls ∧ meth.name = M.1.name ∧ (∀ w ∈ mn_W, w.before args s = true) ∧ mn_K E s ∧ va_X E.2.2.2.1 E.2.2.2.2.2.1 E.2.2.2.2.2.2 s s.heap ∧ E.2.2.2.1 ≤ mn_Z E ∧ mn_Z E < s.heap.size
theorem mn_X.own {E : mn_En} {M : mn_M} {p : Program} {s : State} {m : MethodId} {args : Array Value} {meth : Method} {c : Code} (h : mn_X E M p s m args meth c) : s.vm.findClass M.1.cls = some m.cls := h.2.2.2.2.2.1
theorem mn_X.name {E : mn_En} {M : mn_M} {p : Program} {s : State} {m : MethodId} {args : Array Value} {meth : Method} {c : Code} (h : mn_X E M p s m args meth c) : meth.name = M.1.name := h.2.2.2.2.2.2.1
theorem mn_X.hts {E : mn_En} {M : mn_M} {p : Program} {s : State} {m : MethodId} {args : Array Value} {meth : Method} {c : Code} (h : mn_X E M p s m args meth c) : ∀ w ∈ mn_W, w.before args s = true := h.2.2.2.2.2.2.2.1
theorem mn_X.K {E : mn_En} {M : mn_M} {p : Program} {s : State} {m : MethodId} {args : Array Value} {meth : Method} {c : Code} (h : mn_X E M p s m args meth c) : mn_K E s := h.2.2.2.2.2.2.2.2.1
theorem mn_X.scr {E : mn_En} {M : mn_M} {p : Program} {s : State} {m : MethodId} {args : Array Value} {meth : Method} {c : Code} (h : mn_X E M p s m args meth c) : va_X E.2.2.2.1 E.2.2.2.2.2.1 E.2.2.2.2.2.2 s s.heap ∧ E.2.2.2.1 ≤ mn_Z E ∧ mn_Z E < s.heap.size := h.2.2.2.2.2.2.2.2.2
/-- the world -/
def mn_Y (E : mn_En) (g : mn_H) (s : State) (H : Heap) (locs : List Loc) : Prop := va_P E.2.1 vwCl (mn_ws E g) H ∧ H.size = mn_Z E + g.1 ∧ 0 < g.1 ∧ va_S (mn_F E) s.heap H locs
def mn_Rm (R : Room) (d w nc ns cells slots : Nat) : Prop := d ≤ R.frames ∧ w ≤ R.locals ∧ cells + nc ≤ R.cells ∧ slots + ns ≤ R.slots
/-- a method's end -/
def mn_Q (E : mn_En) (Q : Option Value → mn_H → Prop) : Array Value → State → Outcome → State → Prop := fun _ st oc t => ∃ (v : Option Value) (g : mn_H), Q v g ∧ oc = .returned (v.map (mn_v E)) ∧ va_P E.2.1 vwCl (mn_ws E g) t.heap ∧ t.heap.size = mn_Z E + g.1 ∧ 0 < g.1 ∧ va_F (mn_F E) st t
abbrev mn_m (E : mn_En) (ls : List (Nat × Value)) : List (Nat × Value) := ls.map (fun q => (q.1, mn_v E q.2))
/-- THE JUDGEMENT: method M, at pc, with locals ls, stack st, cells g, room for d frames of w words, nc new cells of ns slots: it ends with Q -/
def mn_R (E : mn_En) (M : mn_M) (d w nc ns pc : Nat) (ls : List (Nat × Value)) (st : List Value) (g : mn_H) (Q : Option Value → mn_H → Prop) : Prop :=
  ∀ (p : Program) (e : Env) (s : State) (m : MethodId) (args : Array Value) (below : List Frame) (meth : Method) (c : Code) (H : Heap) (locs : List Loc) (cells slots : Nat) (lsr : Array Slot) (R : Room),
    mn_X E M p s m args meth c → mn_Y E g s H locs → lv_has lsr M.2.2.1 (mn_m E ls) → mn_Rm R d w nc ns cells slots →
    W p E.1 e R s m args below meth c H locs cells slots (MQ below (mn_Q E Q) args s R.cells R.slots (mn_F E)) (F0 m pc lsr (st.map (mn_v E)))
theorem mn_cat (E : mn_En) (v : Value) : (mn_v E v).category = v.category := by cases v <;> rfl
theorem mn_cats (E : mn_En) (st : List Value) : ((st.map (mn_v E)).map fun v => v.category).sum = (st.map fun v => v.category).sum := by
  rw [List.map_map]
  congr 1
  apply List.map_congr_left
  intro v _
  exact mn_cat E v
theorem mn_lv {E : mn_En} {lsr : Array Slot} {nL j i : Nat} {ls : List (Nat × Value)} {v : Value} (hl : lv_has lsr nL (mn_m E ls)) (hj : ls[j]? = some (i, v)) : lsr[i]? = some (.val (mn_v E v)) :=
  lv_at hl j (by rw [List.getElem?_map, hj]; rfl)
def mn_ins (i : Nat) (v : Value) : List (Nat × Value) → List (Nat × Value)
  | [] => [(i, v)]
  | q :: t => if q.1 < i then q :: mn_ins i v t else (i, v) :: q :: t
def mn_put (ls : List (Nat × Value)) (i : Nat) (v : Value) : List (Nat × Value) := mn_ins i v (ls.filter (fun q => !(q.1 == i) && !(q.1 + 1 == i && q.2.category == 2)))
theorem mn_ins_mem {i : Nat} {v : Value} {q : Nat × Value} : ∀ {l : List (Nat × Value)}, q ∈ mn_ins i v l → q = (i, v) ∨ q ∈ l
  | [], h => Or.inl (List.mem_singleton.mp h)
  | x :: t, h => by
    unfold mn_ins at h
    split at h
    · rcases List.mem_cons.mp h with h | h
      · exact Or.inr (by rw [h]; exact List.mem_cons_self)
      · rcases mn_ins_mem h with h | h
        · exact Or.inl h
        · exact Or.inr (List.mem_cons_of_mem _ h)
    · rcases List.mem_cons.mp h with h | h
      · exact Or.inl h
      · exact Or.inr h
theorem mn_put_has {E : mn_En} {lsr : Array Slot} {nL i : Nat} {ls : List (Nat × Value)} {v : Value} (h : lv_has lsr nL ((i, mn_v E v) :: (mn_m E ls).filter (fun q => !(q.1 == i) && !(q.1 + 1 == i && q.2.category == 2)))) : lv_has lsr nL (mn_m E (mn_put ls i v)) := by
  refine ⟨h.1, h.2.1, fun q hq => h.2.2 q ?_⟩
  obtain ⟨x, hx, rfl⟩ := List.mem_map.mp hq
  rcases mn_ins_mem hx with rfl | hx
  · exact List.mem_cons_self
  · obtain ⟨h1, h2⟩ := List.mem_filter.mp hx
    refine List.mem_cons_of_mem _ (List.mem_filter.mpr ⟨List.mem_map.mpr ⟨x, h1, rfl⟩, ?_⟩)
    show (!(x.1 == i) && !(x.1 + 1 == i && (mn_v E x.2).category == 2)) = true
    rw [mn_cat]
    exact h2
section MNROWS
variable {E : mn_En} {M : mn_M} {d w nc ns pc : Nat} {ls ls' : List (Nat × Value)} {st : List Value} {g : mn_H} {Q : Option Value → mn_H → Prop}
theorem mn_R.post {Q' : Option Value → mn_H → Prop} (h : mn_R E M d w nc ns pc ls st g Q') (hq : ∀ v g', Q' v g' → Q v g') : mn_R E M d w nc ns pc ls st g Q := by
  intro p e s m args below meth c H locs cells slots lsr R X Y hl hr T hT XX
  obtain ⟨t, a, o, b1, b2, ⟨v, g', q1, q2⟩, b4⟩ := h p e s m args below meth c H locs cells slots lsr R X Y hl hr T hT XX
  exact ⟨t, a, o, b1, b2, ⟨v, g', hq v g' q1, q2⟩, b4⟩
/-- fewer locals, less room -/
theorem mn_R.less {d' w' nc' ns' : Nat} (h : mn_R E M d' w' nc' ns' pc ls' st g Q) (hs : ∀ q ∈ ls', q ∈ ls) (hd : d' ≤ d) (hw : w' ≤ w) (hc : nc' ≤ nc) (hn : ns' ≤ ns) : mn_R E M d w nc ns pc ls st g Q :=
  fun p e s m args below meth c H locs cells slots lsr R X Y hl hr => h p e s m args below meth c H locs cells slots lsr R X Y ⟨hl.1, hl.2.1, fun q hq => by
    obtain ⟨x, hx, rfl⟩ := List.mem_map.mp hq
    exact hl.2.2 _ (List.mem_map.mpr ⟨x, hs x hx, rfl⟩)⟩ ⟨Nat.le_trans hd hr.1, Nat.le_trans hw hr.2.1, Nat.le_trans (Nat.add_le_add_left hc _) hr.2.2.1, Nat.le_trans (Nat.add_le_add_left hn _) hr.2.2.2⟩

theorem mn_iconst {n : Int} {v : Int32} (hdg : decode M.2.1 pc = .ok (.iconst n, 1)) (hv : Int32.ofInt n = v) (k : mn_R E M d w nc ns (pc + 1) ls (.int v :: st) g Q) : mn_R E M d w nc ns pc ls (st) g Q :=
  fun p e s m args below meth c H locs cells slots lsr R X Y hl hr => lv_iconst X.1 X.2.1 hdg hv (k p e s m args below meth c H locs cells slots lsr R X Y hl hr)
theorem mn_bipush {n : Int} {v : Int32} (hdg : decode M.2.1 pc = .ok (.bipush n, 2)) (hv : (Int8.ofInt n).toInt32 = v) (k : mn_R E M d w nc ns (pc + 2) ls (.int v :: st) g Q) : mn_R E M d w nc ns pc ls (st) g Q :=
  fun p e s m args below meth c H locs cells slots lsr R X Y hl hr => lv_bipush X.1 X.2.1 hdg hv (k p e s m args below meth c H locs cells slots lsr R X Y hl hr)
theorem mn_sipush {n : Int} {v : Int32} (hdg : decode M.2.1 pc = .ok (.sipush n, 3)) (hv : (Int16.ofInt n).toInt32 = v) (k : mn_R E M d w nc ns (pc + 3) ls (.int v :: st) g Q) : mn_R E M d w nc ns pc ls (st) g Q :=
  fun p e s m args below meth c H locs cells slots lsr R X Y hl hr => lv_sipush X.1 X.2.1 hdg hv (k p e s m args below meth c H locs cells slots lsr R X Y hl hr)
theorem mn_null  (hdg : decode M.2.1 pc = .ok (.aconst_null, 1))  (k : mn_R E M d w nc ns (pc + 1) ls (.null :: st) g Q) : mn_R E M d w nc ns pc ls (st) g Q :=
  fun p e s m args below meth c H locs cells slots lsr R X Y hl hr => lv_null X.1 X.2.1 hdg  (k p e s m args below meth c H locs cells slots lsr R X Y hl hr)
theorem mn_iload_n {k0 : Fin 4} {i : Nat} {x : Int32} (j : Nat) (hdg : decode M.2.1 pc = .ok (.iload_n k0, 1)) (hi : (k0 : Nat) = i) (hj : ls[j]? = some (i, .int x)) (k : mn_R E M d w nc ns (pc + 1) ls (.int x :: st) g Q) : mn_R E M d w nc ns pc ls (st) g Q :=
  fun p e s m args below meth c H locs cells slots lsr R X Y hl hr => lv_iload_n X.1 X.2.1 hdg hi (mn_lv hl hj) (k p e s m args below meth c H locs cells slots lsr R X Y hl hr)
theorem mn_iload {i : Nat} {x : Int32} (j : Nat) (hdg : decode M.2.1 pc = .ok (.iload i, 2)) (hj : ls[j]? = some (i, .int x)) (k : mn_R E M d w nc ns (pc + 2) ls (.int x :: st) g Q) : mn_R E M d w nc ns pc ls (st) g Q :=
  fun p e s m args below meth c H locs cells slots lsr R X Y hl hr => lv_iload X.1 X.2.1 hdg (mn_lv hl hj) (k p e s m args below meth c H locs cells slots lsr R X Y hl hr)
theorem mn_aload_n {k0 : Fin 4} {i : Nat} {x : Nat} (j : Nat) (hdg : decode M.2.1 pc = .ok (.aload_n k0, 1)) (hi : (k0 : Nat) = i) (hj : ls[j]? = some (i, .ref x)) (k : mn_R E M d w nc ns (pc + 1) ls (.ref x :: st) g Q) : mn_R E M d w nc ns pc ls (st) g Q :=
  fun p e s m args below meth c H locs cells slots lsr R X Y hl hr => lv_aload_n X.1 X.2.1 hdg hi (mn_lv hl hj) (k p e s m args below meth c H locs cells slots lsr R X Y hl hr)
theorem mn_aload {i : Nat} {x : Nat} (j : Nat) (hdg : decode M.2.1 pc = .ok (.aload i, 2)) (hj : ls[j]? = some (i, .ref x)) (k : mn_R E M d w nc ns (pc + 2) ls (.ref x :: st) g Q) : mn_R E M d w nc ns pc ls (st) g Q :=
  fun p e s m args below meth c H locs cells slots lsr R X Y hl hr => lv_aload X.1 X.2.1 hdg (mn_lv hl hj) (k p e s m args below meth c H locs cells slots lsr R X Y hl hr)
theorem mn_iadd {x y z : Int32} (hdg : decode M.2.1 pc = .ok (.iadd, 1))  (hv : x + y = z) (k : mn_R E M d w nc ns (pc + 1) ls (.int z :: st) g Q) : mn_R E M d w nc ns pc ls (.int y :: .int x :: st) g Q := by
  subst hv
  exact fun p e s m args below meth c H locs cells slots lsr R X Y hl hr => lv_iadd X.1 X.2.1 hdg  (k p e s m args below meth c H locs cells slots lsr R X Y hl hr)
theorem mn_isub {x y z : Int32} (hdg : decode M.2.1 pc = .ok (.isub, 1))  (hv : x - y = z) (k : mn_R E M d w nc ns (pc + 1) ls (.int z :: st) g Q) : mn_R E M d w nc ns pc ls (.int y :: .int x :: st) g Q := by
  subst hv
  exact fun p e s m args below meth c H locs cells slots lsr R X Y hl hr => lv_isub X.1 X.2.1 hdg  (k p e s m args below meth c H locs cells slots lsr R X Y hl hr)
theorem mn_imul {x y z : Int32} (hdg : decode M.2.1 pc = .ok (.imul, 1))  (hv : x * y = z) (k : mn_R E M d w nc ns (pc + 1) ls (.int z :: st) g Q) : mn_R E M d w nc ns pc ls (.int y :: .int x :: st) g Q := by
  subst hv
  exact fun p e s m args below meth c H locs cells slots lsr R X Y hl hr => lv_imul X.1 X.2.1 hdg  (k p e s m args below meth c H locs cells slots lsr R X Y hl hr)
theorem mn_iand {x y z : Int32} (hdg : decode M.2.1 pc = .ok (.iand, 1))  (hv : x &&& y = z) (k : mn_R E M d w nc ns (pc + 1) ls (.int z :: st) g Q) : mn_R E M d w nc ns pc ls (.int y :: .int x :: st) g Q := by
  subst hv
  exact fun p e s m args below meth c H locs cells slots lsr R X Y hl hr => lv_iand X.1 X.2.1 hdg  (k p e s m args below meth c H locs cells slots lsr R X Y hl hr)
theorem mn_ior {x y z : Int32} (hdg : decode M.2.1 pc = .ok (.ior, 1))  (hv : x ||| y = z) (k : mn_R E M d w nc ns (pc + 1) ls (.int z :: st) g Q) : mn_R E M d w nc ns pc ls (.int y :: .int x :: st) g Q := by
  subst hv
  exact fun p e s m args below meth c H locs cells slots lsr R X Y hl hr => lv_ior X.1 X.2.1 hdg  (k p e s m args below meth c H locs cells slots lsr R X Y hl hr)
theorem mn_ixor {x y z : Int32} (hdg : decode M.2.1 pc = .ok (.ixor, 1))  (hv : x ^^^ y = z) (k : mn_R E M d w nc ns (pc + 1) ls (.int z :: st) g Q) : mn_R E M d w nc ns pc ls (.int y :: .int x :: st) g Q := by
  subst hv
  exact fun p e s m args below meth c H locs cells slots lsr R X Y hl hr => lv_ixor X.1 X.2.1 hdg  (k p e s m args below meth c H locs cells slots lsr R X Y hl hr)
theorem mn_ishl {x y z : Int32} (hdg : decode M.2.1 pc = .ok (.ishl, 1))  (hv : x <<< (y &&& 31) = z) (k : mn_R E M d w nc ns (pc + 1) ls (.int z :: st) g Q) : mn_R E M d w nc ns pc ls (.int y :: .int x :: st) g Q := by
  subst hv
  exact fun p e s m args below meth c H locs cells slots lsr R X Y hl hr => lv_ishl X.1 X.2.1 hdg  (k p e s m args below meth c H locs cells slots lsr R X Y hl hr)
theorem mn_ishr {x y z : Int32} (hdg : decode M.2.1 pc = .ok (.ishr, 1))  (hv : x >>> (y &&& 31) = z) (k : mn_R E M d w nc ns (pc + 1) ls (.int z :: st) g Q) : mn_R E M d w nc ns pc ls (.int y :: .int x :: st) g Q := by
  subst hv
  exact fun p e s m args below meth c H locs cells slots lsr R X Y hl hr => lv_ishr X.1 X.2.1 hdg  (k p e s m args below meth c H locs cells slots lsr R X Y hl hr)
theorem mn_iushr {x y z : Int32} (hdg : decode M.2.1 pc = .ok (.iushr, 1))  (hv : (x.toUInt32 >>> (y.toUInt32 &&& Int32.toUInt32 31)).toInt32 = z) (k : mn_R E M d w nc ns (pc + 1) ls (.int z :: st) g Q) : mn_R E M d w nc ns pc ls (.int y :: .int x :: st) g Q := by
  subst hv
  exact fun p e s m args below meth c H locs cells slots lsr R X Y hl hr => lv_iushr X.1 X.2.1 hdg rfl (k p e s m args below meth c H locs cells slots lsr R X Y hl hr)
theorem mn_idiv {x y z : Int32} (hdg : decode M.2.1 pc = .ok (.idiv, 1)) (hne : ¬ y = 0) (hv : x / y = z) (k : mn_R E M d w nc ns (pc + 1) ls (.int z :: st) g Q) : mn_R E M d w nc ns pc ls (.int y :: .int x :: st) g Q := by
  subst hv
  exact fun p e s m args below meth c H locs cells slots lsr R X Y hl hr => lv_idiv X.1 X.2.1 hdg hne (k p e s m args below meth c H locs cells slots lsr R X Y hl hr)
theorem mn_irem {x y z : Int32} (hdg : decode M.2.1 pc = .ok (.irem, 1)) (hne : ¬ y = 0) (hv : x - x / y * y = z) (k : mn_R E M d w nc ns (pc + 1) ls (.int z :: st) g Q) : mn_R E M d w nc ns pc ls (.int y :: .int x :: st) g Q := by
  subst hv
  exact fun p e s m args below meth c H locs cells slots lsr R X Y hl hr => lv_irem X.1 X.2.1 hdg hne (k p e s m args below meth c H locs cells slots lsr R X Y hl hr)
theorem mn_ineg {x z : Int32} (hdg : decode M.2.1 pc = .ok (.ineg, 1))  (hv : -x = z) (k : mn_R E M d w nc ns (pc + 1) ls (.int z :: st) g Q) : mn_R E M d w nc ns pc ls (.int x :: st) g Q := by
  subst hv
  exact fun p e s m args below meth c H locs cells slots lsr R X Y hl hr => lv_ineg X.1 X.2.1 hdg  (k p e s m args below meth c H locs cells slots lsr R X Y hl hr)
theorem mn_dup {v : Value} (hdg : decode M.2.1 pc = .ok (.dup, 1)) (hc : v.category = 1) (k : mn_R E M d w nc ns (pc + 1) ls (v :: v :: st) g Q) : mn_R E M d w nc ns pc ls (v :: st) g Q :=
  fun p e s m args below meth c H locs cells slots lsr R X Y hl hr => lv_dup X.1 X.2.1 hdg ((mn_cat E v).trans hc) (k p e s m args below meth c H locs cells slots lsr R X Y hl hr)
theorem mn_pop {v : Value} (hdg : decode M.2.1 pc = .ok (.pop, 1)) (hc : v.category = 1) (k : mn_R E M d w nc ns (pc + 1) ls (st) g Q) : mn_R E M d w nc ns pc ls (v :: st) g Q :=
  fun p e s m args below meth c H locs cells slots lsr R X Y hl hr => lv_pop X.1 X.2.1 hdg ((mn_cat E v).trans hc) (k p e s m args below meth c H locs cells slots lsr R X Y hl hr)
theorem mn_istore_n {k0 : Fin 4} {i : Nat} {x : Int32} (hdg : decode M.2.1 pc = .ok (.istore_n k0, 1)) (hi : (k0 : Nat) = i) (hn : i < M.2.2.1) (hl' : mn_put ls i (.int x) = ls') (k : mn_R E M d w nc ns (pc + 1) ls' st g Q) : mn_R E M d w nc ns pc ls (.int x :: st) g Q :=
  fun p e s m args below meth c H locs cells slots lsr R X Y hl hr => lv_istore_n X.1 X.2.1 hdg hi hl hn rfl (fun lsr2 hl2 => k p e s m args below meth c H locs cells slots lsr2 R X Y (hl' ▸ mn_put_has (v := .int x) hl2) hr)
theorem mn_istore {i : Nat} {x : Int32} (hdg : decode M.2.1 pc = .ok (.istore i, 2)) (hn : i < M.2.2.1) (hl' : mn_put ls i (.int x) = ls') (k : mn_R E M d w nc ns (pc + 2) ls' st g Q) : mn_R E M d w nc ns pc ls (.int x :: st) g Q :=
  fun p e s m args below meth c H locs cells slots lsr R X Y hl hr => lv_istore X.1 X.2.1 hdg hl hn rfl (fun lsr2 hl2 => k p e s m args below meth c H locs cells slots lsr2 R X Y (hl' ▸ mn_put_has (v := .int x) hl2) hr)
theorem mn_astore_n {k0 : Fin 4} {i : Nat} {x : Nat} (hdg : decode M.2.1 pc = .ok (.astore_n k0, 1)) (hi : (k0 : Nat) = i) (hn : i < M.2.2.1) (hl' : mn_put ls i (.ref x) = ls') (k : mn_R E M d w nc ns (pc + 1) ls' st g Q) : mn_R E M d w nc ns pc ls (.ref x :: st) g Q :=
  fun p e s m args below meth c H locs cells slots lsr R X Y hl hr => lv_astore_n X.1 X.2.1 hdg hi hl hn rfl (fun lsr2 hl2 => k p e s m args below meth c H locs cells slots lsr2 R X Y (hl' ▸ mn_put_has (v := .ref x) hl2) hr)
theorem mn_astore {i : Nat} {x : Nat} (hdg : decode M.2.1 pc = .ok (.astore i, 2)) (hn : i < M.2.2.1) (hl' : mn_put ls i (.ref x) = ls') (k : mn_R E M d w nc ns (pc + 2) ls' st g Q) : mn_R E M d w nc ns pc ls (.ref x :: st) g Q :=
  fun p e s m args below meth c H locs cells slots lsr R X Y hl hr => lv_astore X.1 X.2.1 hdg hl hn rfl (fun lsr2 hl2 => k p e s m args below meth c H locs cells slots lsr2 R X Y (hl' ▸ mn_put_has (v := .ref x) hl2) hr)
theorem mn_iinc {i : Nat} {n : Int} {x v : Int32} (j : Nat) (hdg : decode M.2.1 pc = .ok (.iinc i n, 3)) (hj : ls[j]? = some (i, .int x)) (hv : x + Int32.ofInt n = v) (hn : i < M.2.2.1) (hl' : mn_put ls i (.int v) = ls') (k : mn_R E M d w nc ns (pc + 3) ls' st g Q) : mn_R E M d w nc ns pc ls st g Q :=
  fun p e s m args below meth c H locs cells slots lsr R X Y hl hr => lv_iinc (k := j) X.1 X.2.1 hdg hl (by rw [List.getElem?_map, hj]; rfl) hv hn rfl (fun lsr2 hl2 => k p e s m args below meth c H locs cells slots lsr2 R X Y (hl' ▸ mn_put_has (v := .int v) hl2) hr)
theorem mn_if_eq {x : Int32} {off : Int} (tgt : Nat) (hdg : decode M.2.1 pc = .ok (.ifCond .eq off, 3)) (ht : (pc : Int) + off = (tgt : Int)) (kt : x = 0 → mn_R E M d w nc ns tgt ls st g Q) (kf : ¬ x = 0 → mn_R E M d w nc ns (pc + 3) ls st g Q) : mn_R E M d w nc ns pc ls (.int x :: st) g Q :=
  fun p e s m args below meth c H locs cells slots lsr R X Y hl hr => lv_if_eq X.1 X.2.1 hdg ht (fun h => kt h p e s m args below meth c H locs cells slots lsr R X Y hl hr) (fun h => kf h p e s m args below meth c H locs cells slots lsr R X Y hl hr)
theorem mn_icmp_eq {x y : Int32} {off : Int} (tgt : Nat) (hdg : decode M.2.1 pc = .ok (.if_icmp .eq off, 3)) (ht : (pc : Int) + off = (tgt : Int)) (kt : x = y → mn_R E M d w nc ns tgt ls st g Q) (kf : ¬ x = y → mn_R E M d w nc ns (pc + 3) ls st g Q) : mn_R E M d w nc ns pc ls (.int y :: .int x :: st) g Q :=
  fun p e s m args below meth c H locs cells slots lsr R X Y hl hr => lv_icmp_eq X.1 X.2.1 hdg ht (fun h => kt h p e s m args below meth c H locs cells slots lsr R X Y hl hr) (fun h => kf h p e s m args below meth c H locs cells slots lsr R X Y hl hr)
theorem mn_if_ne {x : Int32} {off : Int} (tgt : Nat) (hdg : decode M.2.1 pc = .ok (.ifCond .ne off, 3)) (ht : (pc : Int) + off = (tgt : Int)) (kt : ¬ x = 0 → mn_R E M d w nc ns tgt ls st g Q) (kf : x = 0 → mn_R E M d w nc ns (pc + 3) ls st g Q) : mn_R E M d w nc ns pc ls (.int x :: st) g Q :=
  fun p e s m args below meth c H locs cells slots lsr R X Y hl hr => lv_if_ne X.1 X.2.1 hdg ht (fun h => kt h p e s m args below meth c H locs cells slots lsr R X Y hl hr) (fun h => kf h p e s m args below meth c H locs cells slots lsr R X Y hl hr)
theorem mn_icmp_ne {x y : Int32} {off : Int} (tgt : Nat) (hdg : decode M.2.1 pc = .ok (.if_icmp .ne off, 3)) (ht : (pc : Int) + off = (tgt : Int)) (kt : ¬ x = y → mn_R E M d w nc ns tgt ls st g Q) (kf : x = y → mn_R E M d w nc ns (pc + 3) ls st g Q) : mn_R E M d w nc ns pc ls (.int y :: .int x :: st) g Q :=
  fun p e s m args below meth c H locs cells slots lsr R X Y hl hr => lv_icmp_ne X.1 X.2.1 hdg ht (fun h => kt h p e s m args below meth c H locs cells slots lsr R X Y hl hr) (fun h => kf h p e s m args below meth c H locs cells slots lsr R X Y hl hr)
theorem mn_if_lt {x : Int32} {off : Int} (tgt : Nat) (hdg : decode M.2.1 pc = .ok (.ifCond .lt off, 3)) (ht : (pc : Int) + off = (tgt : Int)) (kt : x < 0 → mn_R E M d w nc ns tgt ls st g Q) (kf : ¬ x < 0 → mn_R E M d w nc ns (pc + 3) ls st g Q) : mn_R E M d w nc ns pc ls (.int x :: st) g Q :=
  fun p e s m args below meth c H locs cells slots lsr R X Y hl hr => lv_if_lt X.1 X.2.1 hdg ht (fun h => kt h p e s m args below meth c H locs cells slots lsr R X Y hl hr) (fun h => kf h p e s m args below meth c H locs cells slots lsr R X Y hl hr)
theorem mn_icmp_lt {x y : Int32} {off : Int} (tgt : Nat) (hdg : decode M.2.1 pc = .ok (.if_icmp .lt off, 3)) (ht : (pc : Int) + off = (tgt : Int)) (kt : x < y → mn_R E M d w nc ns tgt ls st g Q) (kf : ¬ x < y → mn_R E M d w nc ns (pc + 3) ls st g Q) : mn_R E M d w nc ns pc ls (.int y :: .int x :: st) g Q :=
  fun p e s m args below meth c H locs cells slots lsr R X Y hl hr => lv_icmp_lt X.1 X.2.1 hdg ht (fun h => kt h p e s m args below meth c H locs cells slots lsr R X Y hl hr) (fun h => kf h p e s m args below meth c H locs cells slots lsr R X Y hl hr)
theorem mn_if_ge {x : Int32} {off : Int} (tgt : Nat) (hdg : decode M.2.1 pc = .ok (.ifCond .ge off, 3)) (ht : (pc : Int) + off = (tgt : Int)) (kt : 0 ≤ x → mn_R E M d w nc ns tgt ls st g Q) (kf : ¬ 0 ≤ x → mn_R E M d w nc ns (pc + 3) ls st g Q) : mn_R E M d w nc ns pc ls (.int x :: st) g Q :=
  fun p e s m args below meth c H locs cells slots lsr R X Y hl hr => lv_if_ge X.1 X.2.1 hdg ht (fun h => kt h p e s m args below meth c H locs cells slots lsr R X Y hl hr) (fun h => kf h p e s m args below meth c H locs cells slots lsr R X Y hl hr)
theorem mn_icmp_ge {x y : Int32} {off : Int} (tgt : Nat) (hdg : decode M.2.1 pc = .ok (.if_icmp .ge off, 3)) (ht : (pc : Int) + off = (tgt : Int)) (kt : y ≤ x → mn_R E M d w nc ns tgt ls st g Q) (kf : ¬ y ≤ x → mn_R E M d w nc ns (pc + 3) ls st g Q) : mn_R E M d w nc ns pc ls (.int y :: .int x :: st) g Q :=
  fun p e s m args below meth c H locs cells slots lsr R X Y hl hr => lv_icmp_ge X.1 X.2.1 hdg ht (fun h => kt h p e s m args below meth c H locs cells slots lsr R X Y hl hr) (fun h => kf h p e s m args below meth c H locs cells slots lsr R X Y hl hr)
theorem mn_if_gt {x : Int32} {off : Int} (tgt : Nat) (hdg : decode M.2.1 pc = .ok (.ifCond .gt off, 3)) (ht : (pc : Int) + off = (tgt : Int)) (kt : 0 < x → mn_R E M d w nc ns tgt ls st g Q) (kf : ¬ 0 < x → mn_R E M d w nc ns (pc + 3) ls st g Q) : mn_R E M d w nc ns pc ls (.int x :: st) g Q :=
  fun p e s m args below meth c H locs cells slots lsr R X Y hl hr => lv_if_gt X.1 X.2.1 hdg ht (fun h => kt h p e s m args below meth c H locs cells slots lsr R X Y hl hr) (fun h => kf h p e s m args below meth c H locs cells slots lsr R X Y hl hr)
theorem mn_icmp_gt {x y : Int32} {off : Int} (tgt : Nat) (hdg : decode M.2.1 pc = .ok (.if_icmp .gt off, 3)) (ht : (pc : Int) + off = (tgt : Int)) (kt : y < x → mn_R E M d w nc ns tgt ls st g Q) (kf : ¬ y < x → mn_R E M d w nc ns (pc + 3) ls st g Q) : mn_R E M d w nc ns pc ls (.int y :: .int x :: st) g Q :=
  fun p e s m args below meth c H locs cells slots lsr R X Y hl hr => lv_icmp_gt X.1 X.2.1 hdg ht (fun h => kt h p e s m args below meth c H locs cells slots lsr R X Y hl hr) (fun h => kf h p e s m args below meth c H locs cells slots lsr R X Y hl hr)
theorem mn_if_le {x : Int32} {off : Int} (tgt : Nat) (hdg : decode M.2.1 pc = .ok (.ifCond .le off, 3)) (ht : (pc : Int) + off = (tgt : Int)) (kt : x ≤ 0 → mn_R E M d w nc ns tgt ls st g Q) (kf : ¬ x ≤ 0 → mn_R E M d w nc ns (pc + 3) ls st g Q) : mn_R E M d w nc ns pc ls (.int x :: st) g Q :=
  fun p e s m args below meth c H locs cells slots lsr R X Y hl hr => lv_if_le X.1 X.2.1 hdg ht (fun h => kt h p e s m args below meth c H locs cells slots lsr R X Y hl hr) (fun h => kf h p e s m args below meth c H locs cells slots lsr R X Y hl hr)
theorem mn_icmp_le {x y : Int32} {off : Int} (tgt : Nat) (hdg : decode M.2.1 pc = .ok (.if_icmp .le off, 3)) (ht : (pc : Int) + off = (tgt : Int)) (kt : x ≤ y → mn_R E M d w nc ns tgt ls st g Q) (kf : ¬ x ≤ y → mn_R E M d w nc ns (pc + 3) ls st g Q) : mn_R E M d w nc ns pc ls (.int y :: .int x :: st) g Q :=
  fun p e s m args below meth c H locs cells slots lsr R X Y hl hr => lv_icmp_le X.1 X.2.1 hdg ht (fun h => kt h p e s m args below meth c H locs cells slots lsr R X Y hl hr) (fun h => kf h p e s m args below meth c H locs cells slots lsr R X Y hl hr)
theorem mn_goto {off : Int} (tgt : Nat) (hdg : decode M.2.1 pc = .ok (.goto off, 3)) (ht : (pc : Int) + off = (tgt : Int)) (k : mn_R E M d w nc ns tgt ls st g Q) : mn_R E M d w nc ns pc ls st g Q :=
  fun p e s m args below meth c H locs cells slots lsr R X Y hl hr => lv_goto X.1 X.2.1 hdg ht (k p e s m args below meth c H locs cells slots lsr R X Y hl hr)
theorem mn_ifnonnull {a : Nat} {off : Int} (tgt : Nat) (hdg : decode M.2.1 pc = .ok (.ifnonnull off, 3)) (ht : (pc : Int) + off = (tgt : Int)) (k : mn_R E M d w nc ns tgt ls st g Q) : mn_R E M d w nc ns pc ls (.ref a :: st) g Q :=
  fun p e s m args below meth c H locs cells slots lsr R X Y hl hr => lv_ifnonnull X.1 X.2.1 hdg ht (k p e s m args below meth c H locs cells slots lsr R X Y hl hr)
theorem mn_ifnull {a : Nat} {off : Int} (hdg : decode M.2.1 pc = .ok (.ifnull off, 3)) (k : mn_R E M d w nc ns (pc + 3) ls st g Q) : mn_R E M d w nc ns pc ls (.ref a :: st) g Q :=
  fun p e s m args below meth c H locs cells slots lsr R X Y hl hr => lv_ifnull X.1 X.2.1 hdg (k p e s m args below meth c H locs cells slots lsr R X Y hl hr)
theorem mn_ifnullN {off : Int} (tgt : Nat) (hdg : decode M.2.1 pc = .ok (.ifnull off, 3)) (ht : (pc : Int) + off = (tgt : Int)) (k : mn_R E M d w nc ns tgt ls st g Q) : mn_R E M d w nc ns pc ls (.null :: st) g Q :=
  fun p e s m args below meth c H locs cells slots lsr R X Y hl hr => lv_ifnullN X.1 X.2.1 hdg ht (k p e s m args below meth c H locs cells slots lsr R X Y hl hr)
theorem mn_ifnonnullN {off : Int} (hdg : decode M.2.1 pc = .ok (.ifnonnull off, 3)) (k : mn_R E M d w nc ns (pc + 3) ls st g Q) : mn_R E M d w nc ns pc ls (.null :: st) g Q :=
  fun p e s m args below meth c H locs cells slots lsr R X Y hl hr => lv_ifnonnullN X.1 X.2.1 hdg (k p e s m args below meth c H locs cells slots lsr R X Y hl hr)
theorem mn_tableOut {dflt lo hi : Int} {offs : Array Int} {len : Nat} {x : Int32} (tgt : Nat) (hdg : decode M.2.1 pc = .ok (.tableswitch dflt lo hi offs, len)) (h : x.toInt < lo ∨ hi < x.toInt) (ht : (pc : Int) + dflt = (tgt : Int)) (k : mn_R E M d w nc ns tgt ls st g Q) : mn_R E M d w nc ns pc ls (.int x :: st) g Q :=
  fun p e s m args below meth c H locs cells slots lsr R X Y hl hr => lv_tableOut X.1 X.2.1 hdg h ht (k p e s m args below meth c H locs cells slots lsr R X Y hl hr)
theorem mn_tableIn {dflt lo hi : Int} {offs : Array Int} {len : Nat} {x : Int32} {off : Int} (tgt : Nat) (hdg : decode M.2.1 pc = .ok (.tableswitch dflt lo hi offs, len)) (h1 : ¬ x.toInt < lo) (h2 : ¬ hi < x.toInt) (ho : offs[(x.toInt - lo).toNat]? = some off) (ht : (pc : Int) + off = (tgt : Int)) (k : mn_R E M d w nc ns tgt ls st g Q) : mn_R E M d w nc ns pc ls (.int x :: st) g Q :=
  fun p e s m args below meth c H locs cells slots lsr R X Y hl hr => lv_tableIn X.1 X.2.1 hdg h1 h2 ho ht (k p e s m args below meth c H locs cells slots lsr R X Y hl hr)
theorem mn_dup_x1 {v u : Value} (hdg : decode M.2.1 pc = .ok (.dup_x1, 1)) (hc : v.category = 1) (hc2 : u.category = 1) (k : mn_R E M d w nc ns (pc + 1) ls (v :: u :: v :: st) g Q) : mn_R E M d w nc ns pc ls (v :: u :: st) g Q :=
  fun p e s m args below meth c H locs cells slots lsr R X Y hl hr => lv_dup_x1 X.1 X.2.1 hdg ((mn_cat E v).trans hc) ((mn_cat E u).trans hc2) (k p e s m args below meth c H locs cells slots lsr R X Y hl hr)
theorem mn_dup2 {v u : Value} (hdg : decode M.2.1 pc = .ok (.dup2, 1)) (hc : v.category = 1) (hc2 : u.category = 1) (k : mn_R E M d w nc ns (pc + 1) ls (v :: u :: v :: u :: st) g Q) : mn_R E M d w nc ns pc ls (v :: u :: st) g Q :=
  fun p e s m args below meth c H locs cells slots lsr R X Y hl hr => lv_dup2_11 X.1 X.2.1 hdg ((mn_cat E v).trans hc) ((mn_cat E u).trans hc2) (k p e s m args below meth c H locs cells slots lsr R X Y hl hr)
theorem mn_aload_nN {k0 : Fin 4} {i : Nat} (j : Nat) (hdg : decode M.2.1 pc = .ok (.aload_n k0, 1)) (hi : (k0 : Nat) = i) (hj : ls[j]? = some (i, .null)) (k : mn_R E M d w nc ns (pc + 1) ls (.null :: st) g Q) : mn_R E M d w nc ns pc ls (st) g Q :=
  fun p e s m args below meth c H locs cells slots lsr R X Y hl hr => lv_aload_nN X.1 X.2.1 hdg hi (mn_lv hl hj) (k p e s m args below meth c H locs cells slots lsr R X Y hl hr)
theorem mn_aloadN {i : Nat} (j : Nat) (hdg : decode M.2.1 pc = .ok (.aload i, 2)) (hj : ls[j]? = some (i, .null)) (k : mn_R E M d w nc ns (pc + 2) ls (.null :: st) g Q) : mn_R E M d w nc ns pc ls (st) g Q :=
  fun p e s m args below meth c H locs cells slots lsr R X Y hl hr => lv_aloadN X.1 X.2.1 hdg (mn_lv hl hj) (k p e s m args below meth c H locs cells slots lsr R X Y hl hr)
theorem mn_astore_nN {k0 : Fin 4} {i : Nat} (hdg : decode M.2.1 pc = .ok (.astore_n k0, 1)) (hi : (k0 : Nat) = i) (hn : i < M.2.2.1) (hl' : mn_put ls i .null = ls') (k : mn_R E M d w nc ns (pc + 1) ls' st g Q) : mn_R E M d w nc ns pc ls (.null :: st) g Q :=
  fun p e s m args below meth c H locs cells slots lsr R X Y hl hr => lv_astore_nN X.1 X.2.1 hdg hi hl hn rfl (fun lsr2 hl2 => k p e s m args below meth c H locs cells slots lsr2 R X Y (hl' ▸ mn_put_has (v := .null) hl2) hr)
theorem mn_astoreN {i : Nat} (hdg : decode M.2.1 pc = .ok (.astore i, 2)) (hn : i < M.2.2.1) (hl' : mn_put ls i .null = ls') (k : mn_R E M d w nc ns (pc + 2) ls' st g Q) : mn_R E M d w nc ns pc ls (.null :: st) g Q :=
  fun p e s m args below meth c H locs cells slots lsr R X Y hl hr => lv_astoreN X.1 X.2.1 hdg hl hn rfl (fun lsr2 hl2 => k p e s m args below meth c H locs cells slots lsr2 R X Y (hl' ▸ mn_put_has (v := .null) hl2) hr)
theorem mn_ldc {i : Nat} {v : Int32} (hdg : decode M.2.1 pc = .ok (.ldc i, 2)) (hw : Cond.constant M.1.cls i v ∈ mn_W) (k : mn_R E M d w nc ns (pc + 2) ls (.int v :: st) g Q) : mn_R E M d w nc ns pc ls st g Q :=
  fun p e s m args below meth c H locs cells slots lsr R X Y hl hr => lv_ldc X.1 X.2.1 X.own (X.hts _ hw) hdg (k p e s m args below meth c H locs cells slots lsr R X Y hl hr)
theorem mn_iret {x : Int32} (hr0 : M.2.2.2 = some .int) (hdg : decode M.2.1 pc = .ok (.ireturn, 1)) (hQ : Q (some (.int x)) g) : mn_R E M d w nc ns pc ls [.int x] g Q := by
  intro p e s m args below meth c H locs cells slots lsr R X Y hl hr
  refine W.widen (k := R.cells) (n := R.slots) (Nat.le_trans (Nat.le_add_right _ _) hr.2.2.1) (Nat.le_trans (Nat.le_add_right _ _) hr.2.2.2) ?_
  exact W.iret X.1 X.2.1 (X.2.2.2.1.trans hr0) (fun t ht hW => ⟨_, g, hQ, rfl, by rw [ht]; exact Y.1, by rw [ht]; exact Y.2.1, Y.2.2.1, Y.2.2.2.F ht⟩) Y.2.2.2.2.2 hdg X.2.2.2.2.1
theorem mn_zret {x : Int32} {ty : FieldType} (hr0 : M.2.2.2 = some ty) (hn0 : narrow ty (.int x) = .int x) (hdg : decode M.2.1 pc = .ok (.ireturn, 1)) (hQ : Q (some (.int x)) g) : mn_R E M d w nc ns pc ls [.int x] g Q := by
  intro p e s m args below meth c H locs cells slots lsr R X Y hl hr
  refine W.widen (k := R.cells) (n := R.slots) (Nat.le_trans (Nat.le_add_right _ _) hr.2.2.1) (Nat.le_trans (Nat.le_add_right _ _) hr.2.2.2) ?_
  exact W.zret X.1 X.2.1 (X.2.2.2.1.trans hr0) hn0 (fun t ht hW => ⟨_, g, hQ, rfl, by rw [ht]; exact Y.1, by rw [ht]; exact Y.2.1, Y.2.2.1, Y.2.2.2.F ht⟩) Y.2.2.2.2.2 hdg X.2.2.2.2.1
theorem mn_vret (hr0 : M.2.2.2 = none) (hdg : decode M.2.1 pc = .ok (.return_, 1)) (hQ : Q (none) g) : mn_R E M d w nc ns pc ls [] g Q := by
  intro p e s m args below meth c H locs cells slots lsr R X Y hl hr
  refine W.widen (k := R.cells) (n := R.slots) (Nat.le_trans (Nat.le_add_right _ _) hr.2.2.1) (Nat.le_trans (Nat.le_add_right _ _) hr.2.2.2) ?_
  exact W.vret X.1 X.2.1 (X.2.2.2.1.trans hr0) (fun t ht hW => ⟨_, g, hQ, rfl, by rw [ht]; exact Y.1, by rw [ht]; exact Y.2.1, Y.2.2.1, Y.2.2.2.F ht⟩) Y.2.2.2.2.2 hdg X.2.2.2.2.1
theorem mn_aret {x : Nat} {rt : FieldType} (hr0 : M.2.2.2 = some rt) (hrt : (∃ n, rt = .object n) ∨ ∃ t, rt = .array t) (hdg : decode M.2.1 pc = .ok (.areturn, 1)) (hQ : Q (some (.ref x)) g) : mn_R E M d w nc ns pc ls [.ref x] g Q := by
  intro p e s m args below meth c H locs cells slots lsr R X Y hl hr
  refine W.widen (k := R.cells) (n := R.slots) (Nat.le_trans (Nat.le_add_right _ _) hr.2.2.1) (Nat.le_trans (Nat.le_add_right _ _) hr.2.2.2) ?_
  exact W.aret (v := .ref (mn_ad E x)) X.1 X.2.1 (X.2.2.2.1.trans hr0) hrt (Or.inr ⟨_, rfl⟩) (fun t ht hW => ⟨_, g, hQ, rfl, by rw [ht]; exact Y.1, by rw [ht]; exact Y.2.1, Y.2.2.1, Y.2.2.2.F ht⟩) Y.2.2.2.2.2 hdg X.2.2.2.2.1
theorem mn_nret {rt : FieldType} (hr0 : M.2.2.2 = some rt) (hrt : (∃ n, rt = .object n) ∨ ∃ t, rt = .array t) (hdg : decode M.2.1 pc = .ok (.areturn, 1)) (hQ : Q (some .null) g) : mn_R E M d w nc ns pc ls [.null] g Q := by
  intro p e s m args below meth c H locs cells slots lsr R X Y hl hr
  refine W.widen (k := R.cells) (n := R.slots) (Nat.le_trans (Nat.le_add_right _ _) hr.2.2.1) (Nat.le_trans (Nat.le_add_right _ _) hr.2.2.2) ?_
  exact W.aret (v := .null) X.1 X.2.1 (X.2.2.2.1.trans hr0) hrt (Or.inl rfl) (fun t ht hW => ⟨_, g, hQ, rfl, by rw [ht]; exact Y.1, by rw [ht]; exact Y.2.1, Y.2.2.1, Y.2.2.2.F ht⟩) Y.2.2.2.2.2 hdg X.2.2.2.2.1
end MNROWS
end
section
/-! MINE: rows over cells: fields, arrays, making, calls -/
def mn_wd (M : mn_M) : List Cond := Cond.code M.1 M.2.1 M.2.2.1 M.2.2.2 :: mn_W
theorem mn_wd_good {M : mn_M} {n : Nat} (h : mn_okM M n) : GoodIn mn_W (mn_wd M) := by
  intro w hw
  rcases List.mem_cons.mp hw with rfl | hw
  · exact ⟨h.2.1, mn_good _ h.2.1⟩
  · exact ⟨hw, mn_good _ hw⟩
/-- what a method finds at its start -/
def mn_Pc (E : mn_En) (g : mn_H) (U : State) : Prop := mn_K E U ∧ (va_X E.2.2.2.1 E.2.2.2.2.2.1 E.2.2.2.2.2.2 U U.heap ∧ E.2.2.2.1 ≤ mn_Z E ∧ mn_Z E < U.heap.size) ∧ va_P E.2.1 vwCl (mn_ws E g) U.heap ∧ U.heap.size = mn_Z E + g.1 ∧ 0 < g.1
theorem mn_Pc.blind {E : mn_En} {g : mn_H} {av : List Value} : FrameBlind (va_Pc av (mn_Pc E g)) := by
  intro a U fr mk h
  obtain ⟨h1, hK, ⟨hX, hb, hz⟩, hP⟩ := h
  exact ⟨h1, hK.warm (U := U.calling fr mk a) (State.WarmedH.refl U), ⟨va_X.moved (u := U) (U := U.calling fr mk a) (Vm.Alike.refl U.vm) hX, hb, hz⟩, hP⟩
theorem mn_scr {E : mn_En} {s : State} {H : Heap} {locs : List Loc} (h : va_X E.2.2.2.1 E.2.2.2.2.2.1 E.2.2.2.2.2.2 s s.heap ∧ E.2.2.2.1 ≤ mn_Z E ∧ mn_Z E < s.heap.size) (hS : va_S (mn_F E) s.heap H locs) : va_X E.2.2.2.1 E.2.2.2.2.2.1 E.2.2.2.2.2.2 s H :=
  h.1.kept (hS.2.1 _ (Nat.lt_of_le_of_lt h.2.1 h.2.2) (Nat.not_lt.mpr h.2.1))
theorem mn_pre {E : mn_En} {M : mn_M} {g : mn_H} {p : Program} {s : State} {m : MethodId} {args : Array Value} {meth : Method} {c : Code} {H : Heap} {locs : List Loc} (X : mn_X E M p s m args meth c) (Y : mn_Y E g s H locs) (av : List Value) : ∀ U : State, U.heap = H → s.WarmedH U.vm → va_Pc av (mn_Pc E g) av.toArray U := by
  intro U hU hW
  refine ⟨rfl, X.K.warm hW, ⟨?_, X.scr.2.1, ?_⟩, by rw [hU]; exact Y.1, by rw [hU]; exact Y.2.1, Y.2.2.1⟩
  · rw [hU]
    exact va_X.moved hW.alike (mn_scr X.scr Y.2.2.2)
  · rw [hU]
    exact Nat.lt_of_lt_of_le X.scr.2.2 Y.2.2.2.1
theorem mn_args_map (E : mn_En) : ∀ (av : List Value) (i : Nat), lv_args i (av.map (mn_v E)) = mn_m E (lv_args i av)
  | [], _ => rfl
  | v :: t, i => by
    show (i, mn_v E v) :: lv_args (if (mn_v E v).category = 2 then i + 2 else i + 1) (t.map (mn_v E)) = (i, mn_v E v) :: mn_m E (lv_args (if v.category = 2 then i + 2 else i + 1) t)
    rw [mn_cat, mn_args_map E t]
theorem mn_sl_len (E : mn_En) (av : List Value) : (lg_sl (av.map (mn_v E))).length = (lg_sl av).length := by
  unfold lg_sl
  induction av with
  | nil => rfl
  | cons v t ih =>
    simp only [List.map_cons, List.flatMap_cons, List.length_append, mn_cat, ih]
    split <;> rfl
/-- A CONTRACT -/
theorem mn_met {E : mn_En} {M : mn_M} {n d w nc ns : Nat} {av : List Value} {g : mn_H} {Q : Option Value → mn_H → Prop} (ok : mn_okM M n) (hlen : (lg_sl av).length ≤ M.2.2.1) (h : mn_R E M d w nc ns 0 (lv_args 0 av) [] g Q) :
    Met E.1 M.1 (mn_wd M) { frames := d, cells := nc, slots := ns, locals := w } (va_Pc (av.map (mn_v E)) (mn_Pc E g)) (mn_Q E Q) nc ns (mn_F E) := by
  refine Met.ofW (cc := M.2.1) (maxL := M.2.2.1) (ret := M.2.2.2) ok.1 rfl ?_
  intro p e s m args below meth c s₁ B hml hv
  obtain ⟨rfl, hK, hX, hP, hz, h0⟩ := hv
  have hts := atoms_spec (ws := mn_wd M) B.pre
  have hown : s.vm.findClass M.1.cls = some m.cls := findClass_of_methodNamed B.named
  have hl := lv_entry (av.map (mn_v E)) (n := M.2.2.1) (by rw [mn_sl_len]; exact hlen)
  rw [lg_entry_eq]
  rw [mn_args_map] at hl
  exact h p e s m _ below meth c s.heap [] 0 0 _ _ ⟨B.exec, B.bytes, hml, B.returns, B.notSynchronized, hown, (name_of_methodNamed B.named B.method).1, fun w hw => hts w (List.mem_cons_of_mem _ hw), hK, hX⟩ ⟨hP, hz, h0, va_S.rf⟩ hl ⟨Nat.le_refl _, Nat.le_refl _, by show 0 + nc ≤ nc; omega, by show 0 + ns ≤ ns; omega⟩
theorem mn_back {E : mn_En} {p : Program} {e : Env} {R : Room} {s : State} {m : MethodId} {args : Array Value} {below : List Frame} {meth : Method} {c : Code} {H : Heap} {locs : List Loc} {cells slots mc ms pc : Nat} {ls : Array Slot} {st0 rest : List Value} {a : Array Value} {Q' : Option Value → mn_H → Prop} {Qf : State → Prop}
    (hr : va_Run p E.1 e R s m args below meth c H locs cells slots mc ms (F0 m pc ls st0) rest (mn_Q E Q' a) (mn_F E)) (hS : va_S (mn_F E) s.heap H locs)
    (kk : ∀ (v : Option Value) (g' : mn_H) (H1 : Heap) (locs1 : List Loc), Q' v g' → mn_Y E g' s H1 locs1 → W p E.1 e R s m args below meth c H1 locs1 (cells + mc) (slots + ms) Qf (F0 m (pc + 3) ls ((v.map (mn_v E)).toList ++ rest))) : W p E.1 e R s m args below meth c H locs cells slots Qf (F0 m pc ls st0) := by
  intro T hT X
  obtain ⟨v, st₀, t, T', L, h0, X', hL, e1, e2, ⟨v', g', hq, hv, hP, hz, h1, hzz, hk⟩, st⟩ := hr T hT X
  cases hv
  rw [h0] at hzz hk
  obtain ⟨t2, a1, b1⟩ := kk v' g' T'.heap (locs ++ L) hq ⟨by rw [e1]; exact hP, by rw [e1]; exact hz, h1, Nat.le_trans hS.1 (by rw [e1]; exact hzz), fun q g1 g2 => by rw [e1, hk q (Nat.lt_of_lt_of_le g1 hS.1) g2]; exact hS.2.1 q g1 g2, fun q hq => by
      rcases List.mem_append.mp hq with h | h
      · exact hS.2.2 q h
      · exact hL q h⟩ T' rfl X'
  exact ⟨t2, st t2 a1, b1⟩
theorem mn_opt (E : mn_En) (v : Option Value) (st : List Value) : (v.map (mn_v E)).toList ++ st.map (mn_v E) = (v.toList ++ st).map (mn_v E) := by cases v <;> rfl
section MNCALL
variable {E : mn_En} {M M' : mn_M} {d w nc ns pc d' w' nc' ns' n i a ci : Nat} {ls : List (Nat × Value)} {st As : List Value} {g : mn_H} {Q Q' : Option Value → mn_H → Prop}
/-- the room of a call -/
abbrev mn_rm (M' : mn_M) (d w nc ns d' w' nc' ns' : Nat) : Prop := d' + 1 ≤ d ∧ 8 + (M'.2.2.1 + 11) + w' ≤ w ∧ nc' ≤ nc ∧ ns' ≤ ns
theorem mn_callV {r : vw_C} {fs stk : List Value} (ok : mn_okV M' n) (lk : Cond.methodLink M.1.cls i M'.1 ∈ mn_W) (hdg : decode M.2.1 pc = .ok (.invokevirtual i, 3)) (hat : mn_at g a (.inr (ci, fs))) (hc : vwCl[ci]? = some r) (hr1 : r.1 = M'.1.cls) (hs : stk = As.reverse ++ .ref a :: st) (hn : As.length = n) (hlen : (lg_sl (.ref a :: As)).length ≤ M'.2.2.1) (hcat : (st.map fun v => v.category).sum ≤ 8) (hrm : mn_rm M' d w nc ns d' w' nc' ns')
    (hM : mn_R E M' d' w' nc' ns' 0 (lv_args 0 (.ref a :: As)) [] g Q') (k : ∀ v g', Q' v g' → mn_R E M d w (nc - nc') (ns - ns') (pc + 3) ls (v.toList ++ st) g' Q) : mn_R E M d w nc ns pc ls stk g Q := by
  intro p e s m args below meth c H locs cells slots lsr R X Y hl hr
  subst hs
  obtain ⟨r1, r2, r3, r4⟩ := hrm
  obtain ⟨R1, R2, R3, R4⟩ := id hr
  refine mn_back (rest := st.map (mn_v E)) (va_runV (As := As.map (mn_v E)) (b := mn_ad E a) (n := n) ⟨X.1, X.2.1, X.2.2.1, X.own, X.hts⟩ (mn_met ok.1 hlen hM) ⟨callB_of n X.hts (mn_wd_good ok.1) rfl rfl rfl (X.hts _ ok.1.2.2.1) (X.hts _ lk) ⟨ok.1.2.2.2.1.1, ok.1.2.2.2.1.2, ok.1.2.2.2.2⟩ ⟨Nat.le_trans r1 R1, Nat.le_trans r2 R2⟩, X.hts _ ok.2.1, X.hts _ ok.2.2⟩ ⟨mn_Pc.blind, ?_, mn_pre X Y _⟩ rfl (by rw [List.length_map]; exact hn) hl.1 (by simp [mn_v]) (lv_room (by rw [mn_cats]; exact hcat)) hdg ⟨by omega, by omega⟩) Y.2.2.2 (fun v g' H1 locs1 hq hY => ?_)
  · have h := va_recv X.K.1 Y.1 hc (mn_ws_get hat)
    rw [hr1] at h
    exact h
  · rw [mn_opt]
    exact k v g' hq p e s m args below meth c H1 locs1 _ _ lsr R X hY hl ⟨R1, R2, by omega, by omega⟩
theorem mn_callVN {r : vw_C} {host : String} {fs stk : List Value} (ok : mn_okV M' n) (lk : Cond.methodLinkNest M.1.cls i M'.1 host ∈ mn_NW) (hdg : decode M.2.1 pc = .ok (.invokevirtual i, 3)) (hat : mn_at g a (.inr (ci, fs))) (hc : vwCl[ci]? = some r) (hr1 : r.1 = M'.1.cls) (hs : stk = As.reverse ++ .ref a :: st) (hn : As.length = n) (hlen : (lg_sl (.ref a :: As)).length ≤ M'.2.2.1) (hcat : (st.map fun v => v.category).sum ≤ 8) (hrm : mn_rm M' d w nc ns d' w' nc' ns')
    (hM : mn_R E M' d' w' nc' ns' 0 (lv_args 0 (.ref a :: As)) [] g Q') (k : ∀ v g', Q' v g' → mn_R E M d w (nc - nc') (ns - ns') (pc + 3) ls (v.toList ++ st) g' Q) : mn_R E M d w nc ns pc ls stk g Q := by
  intro p e s m args below meth c H locs cells slots lsr R X Y hl hr
  subst hs
  obtain ⟨r1, r2, r3, r4⟩ := hrm
  obtain ⟨R1, R2, R3, R4⟩ := id hr
  refine mn_back (rest := st.map (mn_v E)) (va_runVN (As := As.map (mn_v E)) (b := mn_ad E a) (n := n) ⟨X.1, X.2.1, X.2.2.1, X.own, X.hts⟩ (mn_met ok.1 hlen hM) ⟨va_cnB n X.hts (mn_wd_good ok.1) rfl rfl rfl (X.K.2 _ lk) (X.hts _ ok.1.2.2.1) ⟨ok.1.2.2.2.1.1, ok.1.2.2.2.1.2, ok.1.2.2.2.2⟩ ⟨Nat.le_trans r1 R1, Nat.le_trans r2 R2⟩, X.hts _ ok.2.1, X.hts _ ok.2.2⟩ ⟨mn_Pc.blind, ?_, mn_pre X Y _⟩ rfl (by rw [List.length_map]; exact hn) hl.1 (by simp [mn_v]) (lv_room (by rw [mn_cats]; exact hcat)) hdg ⟨by omega, by omega⟩) Y.2.2.2 (fun v g' H1 locs1 hq hY => ?_)
  · have h := va_recv X.K.1 Y.1 hc (mn_ws_get hat)
    rw [hr1] at h
    exact h
  · rw [mn_opt]
    exact k v g' hq p e s m args below meth c H1 locs1 _ _ lsr R X hY hl ⟨R1, R2, by omega, by omega⟩
theorem mn_callS {stk : List Value} (ok : mn_okS M' n) (lk : Cond.methodLink M.1.cls i M'.1 ∈ mn_W) (hdg : decode M.2.1 pc = .ok (.invokestatic i, 3)) (hs : stk = As.reverse ++ st) (hn : As.length = n) (hlen : (lg_sl As).length ≤ M'.2.2.1) (hcat : (st.map fun v => v.category).sum ≤ 8) (hrm : mn_rm M' d w nc ns d' w' nc' ns')
    (hM : mn_R E M' d' w' nc' ns' 0 (lv_args 0 As) [] g Q') (k : ∀ v g', Q' v g' → mn_R E M d w (nc - nc') (ns - ns') (pc + 3) ls (v.toList ++ st) g' Q) : mn_R E M d w nc ns pc ls stk g Q := by
  intro p e s m args below meth c H locs cells slots lsr R X Y hl hr
  subst hs
  obtain ⟨r1, r2, r3, r4⟩ := hrm
  obtain ⟨R1, R2, R3, R4⟩ := id hr
  refine mn_back (rest := st.map (mn_v E)) (va_runS (As := As.map (mn_v E)) (n := n) ⟨X.1, X.2.1, X.2.2.1, X.own, X.hts⟩ (mn_met ok.1 hlen hM) ⟨callB_of n X.hts (mn_wd_good ok.1) rfl rfl rfl (X.hts _ ok.1.2.2.1) (X.hts _ lk) ⟨ok.1.2.2.2.1.1, ok.1.2.2.2.1.2, ok.1.2.2.2.2⟩ ⟨Nat.le_trans r1 R1, Nat.le_trans r2 R2⟩, X.hts _ ok.2⟩ ⟨mn_Pc.blind, mn_pre X Y _⟩ rfl (by rw [List.length_map]; exact hn) hl.1 (by simp) (lv_room (by rw [mn_cats]; exact hcat)) hdg ⟨by omega, by omega⟩) Y.2.2.2 (fun v g' H1 locs1 hq hY => ?_)
  rw [mn_opt]
  exact k v g' hq p e s m args below meth c H1 locs1 _ _ lsr R X hY hl ⟨R1, R2, by omega, by omega⟩
theorem mn_callSN {host : String} {stk : List Value} (ok : mn_okS M' n) (lk : Cond.methodLinkNest M.1.cls i M'.1 host ∈ mn_NW) (hdg : decode M.2.1 pc = .ok (.invokestatic i, 3)) (hs : stk = As.reverse ++ st) (hn : As.length = n) (hlen : (lg_sl As).length ≤ M'.2.2.1) (hcat : (st.map fun v => v.category).sum ≤ 8) (hrm : mn_rm M' d w nc ns d' w' nc' ns')
    (hM : mn_R E M' d' w' nc' ns' 0 (lv_args 0 As) [] g Q') (k : ∀ v g', Q' v g' → mn_R E M d w (nc - nc') (ns - ns') (pc + 3) ls (v.toList ++ st) g' Q) : mn_R E M d w nc ns pc ls stk g Q := by
  intro p e s m args below meth c H locs cells slots lsr R X Y hl hr
  subst hs
  obtain ⟨r1, r2, r3, r4⟩ := hrm
  obtain ⟨R1, R2, R3, R4⟩ := id hr
  refine mn_back (rest := st.map (mn_v E)) (va_runSN (As := As.map (mn_v E)) (n := n) ⟨X.1, X.2.1, X.2.2.1, X.own, X.hts⟩ (mn_met ok.1 hlen hM) ⟨va_cnB n X.hts (mn_wd_good ok.1) rfl rfl rfl (X.K.2 _ lk) (X.hts _ ok.1.2.2.1) ⟨ok.1.2.2.2.1.1, ok.1.2.2.2.1.2, ok.1.2.2.2.2⟩ ⟨Nat.le_trans r1 R1, Nat.le_trans r2 R2⟩, X.hts _ ok.2, trivial⟩ ⟨mn_Pc.blind, mn_pre X Y _⟩ rfl (by rw [List.length_map]; exact hn) hl.1 (by simp) (lv_room (by rw [mn_cats]; exact hcat)) hdg ⟨by omega, by omega⟩) Y.2.2.2 (fun v g' H1 locs1 hq hY => ?_)
  rw [mn_opt]
  exact k v g' hq p e s m args below meth c H1 locs1 _ _ lsr R X hY hl ⟨R1, R2, by omega, by omega⟩
theorem mn_callI {stk : List Value} (ok : mn_okI M' n) (lk : Cond.methodLink M.1.cls i M'.1 ∈ mn_W) (hdg : decode M.2.1 pc = .ok (.invokespecial i, 3)) (hs : stk = As.reverse ++ .ref a :: st) (hn : As.length = n) (hlen : (lg_sl (.ref a :: As)).length ≤ M'.2.2.1) (hcat : (st.map fun v => v.category).sum ≤ 8) (hrm : mn_rm M' d w nc ns d' w' nc' ns')
    (hM : mn_R E M' d' w' nc' ns' 0 (lv_args 0 (.ref a :: As)) [] g Q') (k : ∀ v g', Q' v g' → mn_R E M d w (nc - nc') (ns - ns') (pc + 3) ls (v.toList ++ st) g' Q) : mn_R E M d w nc ns pc ls stk g Q := by
  intro p e s m args below meth c H locs cells slots lsr R X Y hl hr
  subst hs
  obtain ⟨r1, r2, r3, r4⟩ := hrm
  obtain ⟨R1, R2, R3, R4⟩ := id hr
  refine mn_back (rest := st.map (mn_v E)) (va_runI (As := As.map (mn_v E)) (b := mn_ad E a) (n := n) ⟨X.1, X.2.1, X.2.2.1, X.own, X.hts⟩ (mn_met ok.1 hlen hM) (cwI n X.hts (mn_wd_good ok.1) (by rw [← ok.2.2.2]; rfl) rfl rfl (X.hts _ ok.1.2.2.1) (X.hts _ lk) (X.hts _ ok.2.2.1) ok.2.1 ⟨ok.1.2.2.2.1.1, ok.1.2.2.2.1.2, ok.1.2.2.2.2⟩ ⟨Nat.le_trans r1 R1, Nat.le_trans r2 R2⟩) ⟨mn_Pc.blind, mn_pre X Y _⟩ rfl (by rw [List.length_map]; exact hn) hl.1 (by simp [mn_v]) (lv_room (by rw [mn_cats]; exact hcat)) hdg ⟨by omega, by omega⟩) Y.2.2.2 (fun v g' H1 locs1 hq hY => ?_)
  rw [mn_opt]
  exact k v g' hq p e s m args below meth c H1 locs1 _ _ lsr R X hY hl ⟨R1, R2, by omega, by omega⟩
theorem mn_callIN {host : String} {stk : List Value} (ok : mn_okI M' n) (lk : Cond.methodLinkNest M.1.cls i M'.1 host ∈ mn_NW) (hdg : decode M.2.1 pc = .ok (.invokespecial i, 3)) (hs : stk = As.reverse ++ .ref a :: st) (hn : As.length = n) (hlen : (lg_sl (.ref a :: As)).length ≤ M'.2.2.1) (hcat : (st.map fun v => v.category).sum ≤ 8) (hrm : mn_rm M' d w nc ns d' w' nc' ns')
    (hM : mn_R E M' d' w' nc' ns' 0 (lv_args 0 (.ref a :: As)) [] g Q') (k : ∀ v g', Q' v g' → mn_R E M d w (nc - nc') (ns - ns') (pc + 3) ls (v.toList ++ st) g' Q) : mn_R E M d w nc ns pc ls stk g Q := by
  intro p e s m args below meth c H locs cells slots lsr R X Y hl hr
  subst hs
  obtain ⟨r1, r2, r3, r4⟩ := hrm
  obtain ⟨R1, R2, R3, R4⟩ := id hr
  refine mn_back (rest := st.map (mn_v E)) (va_runIN (As := As.map (mn_v E)) (b := mn_ad E a) (n := n) ⟨X.1, X.2.1, X.2.2.1, X.own, X.hts⟩ (mn_met ok.1 hlen hM) ⟨va_cnB n X.hts (mn_wd_good ok.1) (by rw [← ok.2.2.2]; rfl) rfl rfl (X.K.2 _ lk) (X.hts _ ok.1.2.2.1) ⟨ok.1.2.2.2.1.1, ok.1.2.2.2.1.2, ok.1.2.2.2.2⟩ ⟨Nat.le_trans r1 R1, Nat.le_trans r2 R2⟩, ok.2.1, X.hts _ ok.2.2.1⟩ ⟨mn_Pc.blind, mn_pre X Y _⟩ rfl (by rw [List.length_map]; exact hn) hl.1 (by simp [mn_v]) (lv_room (by rw [mn_cats]; exact hcat)) hdg ⟨by omega, by omega⟩) Y.2.2.2 (fun v g' H1 locs1 hq hY => ?_)
  rw [mn_opt]
  exact k v g' hq p e s m args below meth c H1 locs1 _ _ lsr R X hY hl ⟨R1, R2, by omega, by omega⟩
theorem mn_objInit (lk : Cond.methodLink M.1.cls i Lib.objectInit ∈ mn_W) (hin : Cond.instanceMethod Lib.objectInit ∈ mn_W) (hco : Cond.code Lib.objectInit ⟨#[0xb1]⟩ 1 none ∈ mn_W) (hdg : decode M.2.1 pc = .ok (.invokespecial i, 3)) (hcat : (st.map fun v => v.category).sum ≤ 8) (hd : 1 ≤ d) (hw : 20 ≤ w) (k : mn_R E M d w nc ns (pc + 3) ls st g Q) : mn_R E M d w nc ns pc ls (.ref a :: st) g Q := by
  intro p e s m args below meth c H locs cells slots lsr R X Y hl hr
  refine W.objInit X.1 X.2.1 X.own (X.hts _ lk) (X.hts _ hin) (X.hts _ hco) rfl (hl.1.trans X.2.2.1.symm) rfl hdg (Nat.le_trans hd hr.1) ?_ (k p e s m args below meth c H locs cells slots lsr R X Y hl hr)
  have := hr.2.1
  show 2 * 0 + _ + 12 ≤ _
  rw [mn_cats]
  omega
theorem mn_get {C : String} {T : u_T} {N : Nat} {ty : Nat → FieldType} {fs : List Value} {v : Value} (oc : mn_okC ci C T N ty) (k0 : Nat) (lk : Cond.fieldLink M.1.cls i (T k0).1 (T k0).2.1 (T k0).2.2.1 ∈ mn_W) (hk : k0 < N) (hat : mn_at g a (.inr (ci, fs))) (hv : fs[k0]? = some v) (hdg : decode M.2.1 pc = .ok (.getfield i, 3)) (k : mn_R E M d w nc ns (pc + 3) ls (v :: st) g Q) : mn_R E M d w nc ns pc ls (.ref a :: st) g Q :=
  fun p e s m args below meth c H locs cells slots lsr R X Y hl hr => va_get (v := mn_v E v) (fs := fs.map (mn_v E)) X.1 X.2.1 X.hts oc.2.1 X.own X.K.1 Y.1 (a - 1) (mn_ws_get hat) oc.1 k0 hk (X.hts _ lk) (fun _ h => h) (by rw [List.getElem?_map, hv]; rfl) hdg (k p e s m args below meth c H locs cells slots lsr R X Y hl hr)
theorem mn_getN {host : String} {C : String} {T : u_T} {N : Nat} {ty : Nat → FieldType} {fs : List Value} {v : Value} (oc : mn_okC ci C T N ty) (k0 : Nat) (lk : Cond.fieldLinkNest M.1.cls i (T k0).1 (T k0).2.1 (T k0).2.2.1 host ∈ mn_NW) (hk : k0 < N) (hat : mn_at g a (.inr (ci, fs))) (hv : fs[k0]? = some v) (hdg : decode M.2.1 pc = .ok (.getfield i, 3)) (k : mn_R E M d w nc ns (pc + 3) ls (v :: st) g Q) : mn_R E M d w nc ns pc ls (.ref a :: st) g Q :=
  fun p e s m args below meth c H locs cells slots lsr R X Y hl hr => va_getN (v := mn_v E v) (fs := fs.map (mn_v E)) X.1 X.2.1 X.hts oc.2.1 X.own X.K.1 Y.1 (a - 1) (mn_ws_get hat) oc.1 k0 hk (va_Nw.use rfl (X.K.2 _ lk)) (fun _ h => h) (by rw [List.getElem?_map, hv]; rfl) hdg (k p e s m args below meth c H locs cells slots lsr R X Y hl hr)
theorem mn_Y.set {s : State} {H1 : Heap} {locs1 : List Loc} {c0 c1 : mn_C} (hat : mn_at g a c0) (Y0 : ∃ H locs, mn_Y E g s H locs) (hP : va_P E.2.1 vwCl ((mn_ws E g).set (a - 1) (mn_ad E a, mn_E E c1)) H1) (hz : H1.size = mn_Z E + g.1) (hS : va_S (mn_F E) s.heap H1 locs1) : mn_Y E (mn_set g a c1) s H1 locs1 := by
  obtain ⟨H, locs, Y⟩ := Y0
  rw [mn_ws_set hat] at hP
  exact ⟨hP, hz, Y.2.2.1, hS⟩
end MNCALL
end
section
/-! MINE: rows that write and make -/
theorem mn_v_def (E : mn_En) (t : FieldType) : mn_v E (defaultValue t) = defaultValue t := by cases t <;> rfl
section MNPUT
variable {E : mn_En} {M : mn_M} {d w nc ns pc i a ci : Nat} {ls : List (Nat × Value)} {st : List Value} {g : mn_H} {Q : Option Value → mn_H → Prop}
theorem mn_in {c0 : mn_C} (hat : mn_at g a c0) : mn_F E (mn_ad E a) := by
  show mn_Z E < mn_ad E a
  rw [mn_ad_pos hat.1]
  have := hat.1
  omega
theorem mn_putf {C : String} {T : u_T} {N : Nat} {ty : Nat → FieldType} {fs : List Value} {v : Value} (oc : mn_okC ci C T N ty) (k0 : Nat) (lk : Cond.fieldLink M.1.cls i (T k0).1 (T k0).2.1 (T k0).2.2.1 ∈ mn_W) (hk : k0 < N) (hfin : (T k0).2.2.2 = false) (hat : mn_at g a (.inr (ci, fs))) (hn : narrow (ty k0) (mn_v E v) = mn_v E v) (hf : fits (ty k0) (mn_v E v) = true) (hlen : k0 < fs.length) (hdg : decode M.2.1 pc = .ok (.putfield i, 3))
    (k : mn_R E M d w nc ns (pc + 3) ls st (mn_set g a (.inr (ci, fs.set k0 v))) Q) : mn_R E M d w nc ns pc ls (v :: .ref a :: st) g Q := by
  intro p e s m args below meth c H locs cells slots lsr R X Y hl hr
  have hts := X.hts
  have hap := va_apart (own := M.1.cls) hts oc.2.1 ty oc.2.2.1 oc.2.2.2 X.K.1 oc.1
  obtain ⟨r, h1, cell, q1, q2, q3, q4⟩ := Y.1 (a - 1) _ (mn_ws_get hat)
  have hr' : r = (C, T, N) := Option.some.inj (h1.symm.trans oc.1)
  subst hr'
  obtain ⟨hS, hfc, kC, hkC, hkind⟩ := X.K.1.1 ci _ oc.1
  obtain ⟨cf, kf, fi, f, hi, hsl⟩ := hS k0 hk
  have hlay := hts _ (oc.2.1 _ (u_in_lay hk))
  unfold u_lay at hlay
  rw [if_neg (by rw [hfin]; decide)] at hlay
  have hst := (u_facts hfc hkC (u_lays hts oc.2.1 hk) hi).1
  have h6 := u_store hfc hkC hkind hlay hi (oc.2.2.1 k0 hk) hn hf
  refine W.putK X.1 X.2.1 (f := f) ⟨X.own, hts _ lk, ⟨_, _, _, hi⟩, hst⟩ (by rw [q2]; exact h6) q1 q3 (by rw [hsl]; exact k2_hasslot (q4 k0 hk)) rfl rfl hdg fun H' e1 e2 e3 => ?_
  rw [hsl] at e1 ⊢
  have hP' := (Y.1).set (e := mn_E E (.inr (ci, fs.set k0 v))) mn_ws_D (mn_ws_get hat) ⟨_, oc.1, t_OB.to (V := updV (vp_V (fs.map (mn_v E))) k0 (mn_v E v)) ⟨_, e1, q2, q3, t_set q4 hap hk (mn_v E v)⟩ (fun j _ => by
    rw [vp_updV_set (by rw [List.length_map]; exact hlen)]
    show _ = vp_V ((fs.set k0 v).map (mn_v E)) j
    rw [List.map_set])⟩ e3
  rw [mn_ws_set hat] at hP'
  exact k p e s m args below meth c H' _ cells slots lsr R X ⟨hP', e2.trans Y.2.1, Y.2.2.1, Y.2.2.2.put e2 e3 (mn_in hat)⟩ hl hr
/-- a final field, in the constructor of its class -/
theorem mn_putF {C : String} {T : u_T} {N : Nat} {ty : Nat → FieldType} {fs : List Value} {v : Value} (oc : mn_okC ci C T N ty) (k0 : Nat) (lk : Cond.fieldLink M.1.cls i (T k0).1 (T k0).2.1 (T k0).2.2.1 ∈ mn_W) (hk : k0 < N) (hfin : (T k0).2.2.2 = true) (hin : M.1.name = "<init>") (hdecl : (T k0).1 = M.1.cls) (hat : mn_at g a (.inr (ci, fs))) (hn : narrow (ty k0) (mn_v E v) = mn_v E v) (hf : fits (ty k0) (mn_v E v) = true) (hlen : k0 < fs.length) (hdg : decode M.2.1 pc = .ok (.putfield i, 3))
    (k : mn_R E M d w nc ns (pc + 3) ls st (mn_set g a (.inr (ci, fs.set k0 v))) Q) : mn_R E M d w nc ns pc ls (v :: .ref a :: st) g Q := by
  intro p e s m args below meth c H locs cells slots lsr R X Y hl hr
  have hts := X.hts
  have hap := va_apart (own := M.1.cls) hts oc.2.1 ty oc.2.2.1 oc.2.2.2 X.K.1 oc.1
  obtain ⟨r, h1, cell, q1, q2, q3, q4⟩ := Y.1 (a - 1) _ (mn_ws_get hat)
  have hr' : r = (C, T, N) := Option.some.inj (h1.symm.trans oc.1)
  subst hr'
  obtain ⟨hS, hfc, kC, hkC, hkind⟩ := X.K.1.1 ci _ oc.1
  obtain ⟨cf, kf, fi, f, hi, hsl⟩ := hS k0 hk
  have hlay := hts _ (oc.2.1 _ (u_in_lay hk))
  unfold u_lay at hlay
  rw [if_pos hfin] at hlay
  have hst := (u_facts hfc hkC (u_lays hts oc.2.1 hk) hi).1
  have hcf : m.cls = cf := by
    obtain ⟨_, _, c', _, _, _, -, -, hf', -, -, -, hown2, -⟩ := Cond.laysFinal_spec hlay
    have e1 : c' = cf := by have := hi.symm.trans hf'; simp at this; exact this.1.symm
    rw [hdecl] at hown2
    rw [← e1]; exact Option.some.inj (X.own.symm.trans hown2)
  have h6 := u_fits hfc hkC hkind (Or.inr hlay) hi (oc.2.2.1 k0 hk) hn hf
  refine W.putFinK X.1 X.2.1 X.own (hts _ lk) hi hst hcf (X.name.trans hin) (by rw [q2]; exact h6) q1 q3 (by rw [hsl]; exact k2_hasslot (q4 k0 hk)) rfl rfl hdg fun H' e1 e2 e3 => ?_
  rw [hsl] at e1 ⊢
  have hP' := (Y.1).set (e := mn_E E (.inr (ci, fs.set k0 v))) mn_ws_D (mn_ws_get hat) ⟨_, oc.1, t_OB.to (V := updV (vp_V (fs.map (mn_v E))) k0 (mn_v E v)) ⟨_, e1, q2, q3, t_set q4 hap hk (mn_v E v)⟩ (fun j _ => by
    rw [vp_updV_set (by rw [List.length_map]; exact hlen)]
    show _ = vp_V ((fs.set k0 v).map (mn_v E)) j
    rw [List.map_set])⟩ e3
  rw [mn_ws_set hat] at hP'
  exact k p e s m args below meth c H' _ cells slots lsr R X ⟨hP', e2.trans Y.2.1, Y.2.2.1, Y.2.2.2.put e2 e3 (mn_in hat)⟩ hl hr
theorem mn_iald {t n : Nat} {f : Nat → Int32} {j : Int32} (hat : mn_at g a (.inl (t, n, .inl f))) (ht : mn_T[t]? = some .int) (hin : vp_in j n) (hdg : decode M.2.1 pc = .ok (.iaload, 1)) (k : mn_R E M d w nc ns (pc + 1) ls (.int (f j.toNatClampNeg) :: st) g Q) : mn_R E M d w nc ns pc ls (.int j :: .ref a :: st) g Q :=
  fun p e s m args below meth c H locs cells slots lsr R X Y hl hr => va_iald (n := n) (f := f) X.1 X.2.1 X.K.1 Y.1 (a - 1) t (mn_ws_get hat) (mn_ty_get ht) hin hdg (k p e s m args below meth c H locs cells slots lsr R X Y hl hr)
theorem mn_iast {t n : Nat} {f : Nat → Int32} {j x : Int32} (hat : mn_at g a (.inl (t, n, .inl f))) (ht : mn_T[t]? = some .int) (hin : vp_in j n) (hdg : decode M.2.1 pc = .ok (.iastore, 1)) (k : mn_R E M d w nc ns (pc + 1) ls st (mn_set g a (.inl (t, n, .inl (upd f j.toNatClampNeg x)))) Q) : mn_R E M d w nc ns pc ls (.int x :: .int j :: .ref a :: st) g Q := by
  intro p e s m args below meth c H locs cells slots lsr R X Y hl hr
  have hc : H[mn_ad E a]? = some (vp_cell (E.2.2.1 t) (n, .inl f)) := Y.1 (a - 1) _ (mn_ws_get hat)
  refine W.iast X.1 X.2.1 hc ((X.K.1.2 t _ (mn_ty_get ht)).1 n (fun j => .int (f j))) (fun q => by cases q) (by show ¬ (j < 0 ∨ (arrV _ _ _).slots.size ≤ _); rw [arrV_size]; exact hin) rfl rfl hdg fun H1 e1 z oq => ?_
  have hP' := (Y.1).set (e := mn_E E (.inl (t, n, .inl (upd f j.toNatClampNeg x)))) mn_ws_D (mn_ws_get hat) (by
    show H1[mn_ad E a]? = some (vp_cell (E.2.2.1 t) (n, .inl (upd f j.toNatClampNeg x)))
    rw [e1, vp_cell_i, vp_cell_i, arrV_store]
    congr 2
    funext q
    by_cases hq : q = j.toNatClampNeg
    · subst hq
      simp [updV, upd]
    · simp [updV, upd, hq]) oq
  rw [mn_ws_set hat] at hP'
  exact k p e s m args below meth c H1 _ cells slots lsr R X ⟨hP', z.trans Y.2.1, Y.2.2.1, Y.2.2.2.put z oq (mn_in hat)⟩ hl hr
theorem mn_alen {t n : Nat} {x : (Nat → Int32) ⊕ (Nat → Int64) ⊕ (Nat → UInt32) ⊕ (Nat → UInt64) ⊕ (Nat → Option Nat)} {ty : FieldType} (hat : mn_at g a (.inl (t, n, x))) (ht : mn_T[t]? = some ty) (hdg : decode M.2.1 pc = .ok (.arraylength, 1)) (k : mn_R E M d w nc ns (pc + 1) ls (.int (nI n) :: st) g Q) : mn_R E M d w nc ns pc ls (.ref a :: st) g Q :=
  fun p e s m args below meth c H locs cells slots lsr R X Y hl hr => va_alen (v := nI n) X.1 X.2.1 X.K.1 Y.1 (a - 1) t (mn_ws_get hat) (mn_ty_get ht) rfl hdg (k p e s m args below meth c H locs cells slots lsr R X Y hl hr)
/-- a reference out of an array; y is the cell that lies there -/
theorem mn_aald {t n y : Nat} {f : Nat → Option Nat} {j : Int32} {ty : FieldType} (hat : mn_at g a (.inl (t, n, .inr (.inr (.inr (.inr f)))))) (ht : mn_T[t]? = some ty) (hty : ty.isReference = true) (hin : vp_in j n) (hy : f j.toNatClampNeg = some y) (hdg : decode M.2.1 pc = .ok (.aaload, 1)) (k : mn_R E M d w nc ns (pc + 1) ls (.ref y :: st) g Q) : mn_R E M d w nc ns pc ls (.int j :: .ref a :: st) g Q := by
  intro p e s m args below meth c H locs cells slots lsr R X Y hl hr
  have hlt : j.toNatClampNeg < n := Nat.not_le.mp fun q => hin (Or.inr q)
  have hc : H[mn_ad E a]? = some (vp_cell (E.2.2.1 t) (n, .inr (.inr (.inr (.inr (fun i => (f i).map (mn_ad E))))))) := Y.1 (a - 1) _ (mn_ws_get hat)
  exact W.aald (v := .ref (mn_ad E y)) (ty := ty) X.1 X.2.1 hc ((X.K.1.2 t _ (mn_ty_get ht)).1 n (fun j => va_rf ((f j).map (mn_ad E)))) hty (fun q => by cases q) (by show ¬ (j < 0 ∨ (arrV _ _ _).slots.size ≤ _); rw [arrV_size]; exact hin) (by show (arrV _ _ _).slots[_]? = _; rw [arrV_read _ _ hlt]; show some (va_rf ((f j.toNatClampNeg).map (mn_ad E))) = _; rw [hy]; rfl) rfl rfl hdg (k p e s m args below meth c H locs cells slots lsr R X Y hl hr)
/-- a reference into an array of references to objects -/
theorem mn_aast {t n y : Nat} {r : vw_C} {f : Nat → Option Nat} {vs : List Value} {j : Int32} (hat : mn_at g a (.inl (t, n, .inr (.inr (.inr (.inr f)))))) (hc : vwCl[ci]? = some r) (ht : mn_T[t]? = some (.object r.1)) (hav : mn_at g y (.inr (ci, vs))) (hin : vp_in j n) (hdg : decode M.2.1 pc = .ok (.aastore, 1)) (k : mn_R E M d w nc ns (pc + 1) ls st (mn_set g a (.inl (t, n, .inr (.inr (.inr (.inr (va_up f j.toNatClampNeg (some y)))))))) Q) : mn_R E M d w nc ns pc ls (.ref y :: .int j :: .ref a :: st) g Q := by
  intro p e s m args below meth c H locs cells slots lsr R X Y hl hr
  have hlt : j.toNatClampNeg < n := Nat.not_le.mp fun q => hin (Or.inr q)
  have h0 : ¬ j < 0 := fun q => hin (Or.inl q)
  obtain ⟨r', hr', cellV, g1, g2, g3, -⟩ := Y.1 (y - 1) _ (mn_ws_get hav)
  have hcl := (X.K.1.1 ci r hc).2
  obtain ⟨kA, comp, k1, k2, k3, -⟩ := (X.K.1.2 t _ (mn_ty_get ht)).2
  have hcomp : comp = E.2.1.1 ci := Option.some.inj (k3.symm.trans hcl.1)
  subst hcomp
  obtain ⟨kC, hkC, -⟩ := hcl.2
  have hcc : H[mn_ad E a]? = some (vp_cell (E.2.2.1 t) (n, .inr (.inr (.inr (.inr (fun i => (f i).map (mn_ad E))))))) := Y.1 (a - 1) _ (mn_ws_get hat)
  refine W.aast X.1 X.2.1 hcc (fun q h => by cases h) (fun h => by cases h) k1 k2 rfl hkC ⟨h0, by show _ < (arrV _ _ _).slots.size; rw [arrV_size]; exact hlt⟩ g1 (fun q h => by rw [g3] at h; cases h) (by rw [g2]; exact hkC) (by rw [g2]; exact va_assign hcl) rfl rfl hdg fun H1 e1 z oq => ?_
  have hP' := (Y.1).set (e := mn_E E (.inl (t, n, .inr (.inr (.inr (.inr (va_up f j.toNatClampNeg (some y)))))))) mn_ws_D (mn_ws_get hat) (by
    show H1[mn_ad E a]? = some (vp_cell (E.2.2.1 t) (n, .inr (.inr (.inr (.inr (fun i => (va_up f j.toNatClampNeg (some y) i).map (mn_ad E)))))))
    rw [e1, vp_cell_q, vp_cell_q, arrV_store]
    congr 2
    funext q
    by_cases hq : q = j.toNatClampNeg
    · subst hq
      simp [updV, va_up, va_rf]
    · simp [updV, va_up, hq]) oq
  rw [mn_ws_set hat] at hP'
  exact k p e s m args below meth c H1 _ cells slots lsr R X ⟨hP', z.trans Y.2.1, Y.2.2.1, Y.2.2.2.put z oq (mn_in hat)⟩ hl hr
/-- the script -/
theorem mn_sld {j : Int32} (hin : vp_in j E.2.2.2.2.2.1) (hdg : decode M.2.1 pc = .ok (.iaload, 1)) (k : mn_R E M d w nc ns (pc + 1) ls (.int (E.2.2.2.2.2.2 j.toNatClampNeg) :: st) g Q) : mn_R E M d w nc ns pc ls (.int j :: .ref 0 :: st) g Q :=
  fun p e s m args below meth c H locs cells slots lsr R X Y hl hr => va_sld X.1 X.2.1 X.scr.1 (Nat.lt_of_le_of_lt X.scr.2.1 X.scr.2.2) (Nat.not_lt.mpr X.scr.2.1) Y.2.2.2 hin hdg (k p e s m args below meth c H locs cells slots lsr R X Y hl hr)
theorem mn_slen (hdg : decode M.2.1 pc = .ok (.arraylength, 1)) (k : mn_R E M d w nc ns (pc + 1) ls (.int (nI E.2.2.2.2.2.1) :: st) g Q) : mn_R E M d w nc ns pc ls (.ref 0 :: st) g Q :=
  fun p e s m args below meth c H locs cells slots lsr R X Y hl hr => va_slen X.1 X.2.1 X.scr.1 (Nat.lt_of_le_of_lt X.scr.2.1 X.scr.2.2) (Nat.not_lt.mpr X.scr.2.1) Y.2.2.2 hdg (k p e s m args below meth c H locs cells slots lsr R X Y hl hr)
/-- a world with one cell more -/
theorem mn_Y.push {s : State} {H H1 : Heap} {locs : List Loc} {c1 : mn_C} (Y : mn_Y E g s H locs) (z : H1.size = H.size + 1) (oq : ∀ q : Nat, q < H.size → H1[q]? = H[q]?) (hc : va_at E.2.1 vwCl (mn_Z E + g.1, mn_E E c1) H1) : mn_Y E (mn_push g c1) s H1 locs := by
  obtain ⟨hP, hz, h0, hS⟩ := Y
  refine ⟨?_, ?_, Nat.succ_pos _, Nat.le_trans hS.1 (by omega), fun q g1 g2 => (oq q (Nat.lt_of_lt_of_le g1 hS.1)).trans (hS.2.1 q g1 g2), hS.2.2⟩
  · rw [mn_ws_push h0]
    refine va_P.app (hP.kept fun k q hk => oq q.1 (hP k q hk).lt) ?_
    intro k q hk
    have hk1 : k < 1 := (List.getElem?_eq_some_iff.mp hk).1
    rw [show k = 0 by omega] at hk
    cases hk
    exact hc
  · show H1.size = mn_Z E + (g.1 + 1)
    omega
theorem mn_new {C : String} {T : u_T} {N : Nat} {ty : Nat → FieldType} (oc : mn_okC ci C T N ty) (fs : List Value) (lk : Cond.classLink M.1.cls i C ∈ mn_W) (hi : Cond.instantiable C N ∈ mn_W) (hini : Cond.initialized C ∈ mn_W) (hfs : (List.range N).map (fun j => defaultValue (ty j)) = fs) (hc1 : 1 ≤ nc) (hs1 : N ≤ ns) (hdg : decode M.2.1 pc = .ok (.new i, 3))
    (k : mn_R E M d w (nc - 1) (ns - N) (pc + 3) ls (.ref g.1 :: st) (mn_push g (.inr (ci, fs))) Q) : mn_R E M d w nc ns pc ls st g Q := by
  intro p e s m args below meth c H locs cells slots lsr R X Y hl hr
  obtain ⟨R1, R2, R3, R4⟩ := id hr
  have hKn := X.K.1.1 ci _ oc.1
  refine W.newcK X.1 X.2.1 X.own (X.hts _ lk) (X.hts _ hi) (X.hts _ hini) rfl hdg (by omega) (by omega) hKn.2.1 Y.2.1 fun H1 kC hkC e1 z1 o1 => ?_
  have hb := u_born ty X.hts oc.2.1 hKn hkC e1 oc.2.2.1
  have hY : mn_Y E (mn_push g (.inr (ci, fs))) s H1 locs := Y.push (by rw [z1, Y.2.1]) (by rw [Y.2.1]; exact o1) ⟨_, oc.1, hb.to (fun j hj => by
    subst hfs
    show _ = vp_V (((List.range N).map (fun j => defaultValue (ty j))).map (mn_v E)) j
    unfold vp_V
    rw [List.getD_eq_getElem?_getD, List.getElem?_map, List.getElem?_map, List.getElem?_range hj]
    show _ = mn_v E (defaultValue (ty j))
    rw [mn_v_def])⟩
  have hk := k p e s m args below meth c H1 locs (cells + 1) (slots + N) lsr R X hY hl ⟨R1, R2, by omega, by omega⟩
  rw [← mn_ad_pos (E := E) Y.2.2.1]
  exact hk
theorem mn_newa {t N : Nat} {n : Int32} (ht : mn_T[t]? = some .int) (harr : Cond.arrayClass .int ∈ mn_W) (hn : ¬ n < 0) (hN : n.toNatClampNeg = N) (hby : N * 4 ≤ 536870912) (hc1 : 1 ≤ nc) (hs1 : N ≤ ns) (hdg : decode M.2.1 pc = .ok (.newarray .int, 2))
    (k : mn_R E M d w (nc - 1) (ns - N) (pc + 2) ls (.ref g.1 :: st) (mn_push g (.inl (t, N, .inl (fun _ => 0)))) Q) : mn_R E M d w nc ns pc ls (.int n :: st) g Q := by
  intro p e s m args below meth c H locs cells slots lsr R X Y hl hr
  obtain ⟨R1, R2, R3, R4⟩ := id hr
  refine va_newaK X.1 X.2.1 (atype := .int) (X.hts _ harr) rfl hdg rfl hn hN hby (by omega) (by omega) Y.2.1 fun H1 cA e1 z1 o1 hAr hNm => ?_
  have hid : E.2.2.1 t = cA := by
    have h1 : s.vm.findClass ("[" ++ (FieldType.int).toString) = some (E.2.2.1 t) := (X.K.1.2 t _ (mn_ty_get ht)).2
    exact Option.some.inj (h1.symm.trans hNm)
  have hY : mn_Y E (mn_push g (.inl (t, N, .inl (fun _ => 0)))) s H1 locs := Y.push (by rw [z1, Y.2.1]) (by rw [Y.2.1]; exact o1) (by
    show H1[mn_Z E + g.1]? = some (vp_cell (E.2.2.1 t) (N, .inl (fun _ => 0)))
    rw [hid]
    exact e1)
  have hk := k p e s m args below meth c H1 locs (cells + 1) (slots + N) lsr R X hY hl ⟨R1, R2, by omega, by omega⟩
  rw [← mn_ad_pos (E := E) Y.2.2.1]
  exact hk
theorem mn_newq {t N : Nat} {C : String} {n : Int32} (ht : mn_T[t]? = some (.object C)) (lk : Cond.classLink M.1.cls i C ∈ mn_W) (hov : Cond.arrayOver (.object C) ∈ mn_NW) (hn : ¬ n < 0) (hN : n.toNatClampNeg = N) (hby : N * 4 ≤ 536870912) (hc1 : 1 ≤ nc) (hs1 : N ≤ ns) (hdg : decode M.2.1 pc = .ok (.anewarray i, 3))
    (k : mn_R E M d w (nc - 1) (ns - N) (pc + 3) ls (.ref g.1 :: st) (mn_push g (.inl (t, N, .inr (.inr (.inr (.inr (fun _ => none))))))) Q) : mn_R E M d w nc ns pc ls (.int n :: st) g Q := by
  intro p e s m args below meth c H locs cells slots lsr R X Y hl hr
  obtain ⟨R1, R2, R3, R4⟩ := id hr
  subst hN
  refine W.anew X.1 X.2.1 X.own (X.hts _ lk) (va_AO.use (X.K.2 _ hov)) rfl hdg rfl hn hby (by omega) (by omega) fun cA kA comp f1 f2 f3 f4 => ?_
  have hid : E.2.2.1 t = cA := by
    obtain ⟨_, _, _, _, _, h1⟩ := (X.K.1.2 t _ (mn_ty_get ht)).2
    exact Option.some.inj (h1.symm.trans f1)
  generalize hH1 : H.push ({ cls := cA, slots := Array.replicate n.toNatClampNeg .null, vm := .none } : Cell) = H1
  have z1 : H1.size = H.size + 1 := by rw [← hH1, Array.size_push]
  have e1 : H1[H.size]? = some (arrV cA n.toNatClampNeg (fun _ => .null)) := by rw [← hH1, Array.getElem?_push_size, ← arrV_new]
  have o1 : ∀ q : Nat, q < H.size → H1[q]? = H[q]? := fun q hq => by rw [← hH1, Array.getElem?_push, if_neg (Nat.ne_of_lt hq)]
  have hY : mn_Y E (mn_push g (.inl (t, n.toNatClampNeg, .inr (.inr (.inr (.inr (fun _ => none))))))) s H1 locs := Y.push z1 o1 (by
    show H1[mn_Z E + g.1]? = some (vp_cell (E.2.2.1 t) (n.toNatClampNeg, .inr (.inr (.inr (.inr (fun _ => none))))))
    rw [hid, ← Y.2.1]
    exact e1)
  have hk := k p e s m args below meth c H1 locs (cells + 1) (slots + n.toNatClampNeg) lsr R X hY hl ⟨R1, R2, by omega, by omega⟩
  rw [Y.2.1, ← mn_ad_pos (E := E) Y.2.2.1]
  exact hk
theorem mn_max {x y z : Int32} (hv : (if x < y then y else x) = z) (lk : Cond.methodLink M.1.cls i Lib.Math.max.name ∈ mn_W) (hst : Cond.static Lib.Math.max.name ∈ mn_W) (hin : Cond.initialized "java/lang/Math" ∈ mn_W) (hco : Cond.code Lib.Math.max.name Lib.Math.max.code 2 (some .int) ∈ mn_W) (hcat : (st.map fun v => v.category).sum ≤ 8) (hd : 1 ≤ d) (hw : 21 ≤ w) (hdg : decode M.2.1 pc = .ok (.invokestatic i, 3)) (k : mn_R E M d w nc ns (pc + 3) ls (.int z :: st) g Q) : mn_R E M d w nc ns pc ls (.int y :: .int x :: st) g Q := by
  subst hv
  intro p e s m args below meth c H locs cells slots lsr R X Y hl hr
  obtain ⟨R1, R2, R3, R4⟩ := id hr
  exact va_mmax X.1 X.2.1 (X.2.2.1.trans hl.1.symm) X.own (X.hts _ lk) (X.hts _ hst) (X.hts _ hin) (X.hts _ hco) (by omega) (by rw [mn_cats]; omega) (by omega) (by omega) hdg (k p e s m args below meth c H locs cells slots lsr R X Y hl hr)
theorem mn_min {x y z : Int32} (hv : (if y < x then y else x) = z) (lk : Cond.methodLink M.1.cls i Lib.Math.min.name ∈ mn_W) (hst : Cond.static Lib.Math.min.name ∈ mn_W) (hin : Cond.initialized "java/lang/Math" ∈ mn_W) (hco : Cond.code Lib.Math.min.name Lib.Math.min.code 2 (some .int) ∈ mn_W) (hcat : (st.map fun v => v.category).sum ≤ 8) (hd : 1 ≤ d) (hw : 21 ≤ w) (hdg : decode M.2.1 pc = .ok (.invokestatic i, 3)) (k : mn_R E M d w nc ns (pc + 3) ls (.int z :: st) g Q) : mn_R E M d w nc ns pc ls (.int y :: .int x :: st) g Q := by
  subst hv
  intro p e s m args below meth c H locs cells slots lsr R X Y hl hr
  obtain ⟨R1, R2, R3, R4⟩ := id hr
  exact va_mmin X.1 X.2.1 (X.2.2.1.trans hl.1.symm) X.own (X.hts _ lk) (X.hts _ hst) (X.hts _ hin) (X.hts _ hco) (by omega) (by rw [mn_cats]; omega) (by omega) (by omega) hdg (k p e s m args below meth c H locs cells slots lsr R X Y hl hr)
/-- System.arraycopy over arrays of ints -/
theorem mn_copy {a0 t n0 n1 : Nat} {f0 f1 : Nat → Int32} {sp dp n : Int32} (lk : Cond.methodLink M.1.cls i arraycopyName ∈ mn_W) (hnat : Cond.native arraycopyName ∈ mn_W) (hst : Cond.static arraycopyName ∈ mn_W) (hini : Cond.initialized "java/lang/System" ∈ mn_W) (ht : mn_T[t]? = some .int) (hat0 : mn_at g a0 (.inl (t, n0, .inl f0))) (hat : mn_at g a (.inl (t, n1, .inl f1)))
    (h1 : ¬ sp < 0) (h2 : ¬ dp < 0) (h3 : ¬ n < 0) (h4 : sp.toNatClampNeg + n.toNatClampNeg ≤ n0) (h5 : dp.toNatClampNeg + n.toNatClampNeg ≤ n1) (hcat : (st.map fun v => v.category).sum ≤ 8) (hd : 1 ≤ d) (hw : 26 ≤ w) (hdg : decode M.2.1 pc = .ok (.invokestatic i, 3))
    (k : mn_R E M d w nc ns (pc + 3) ls st (mn_set g a (.inl (t, n1, .inl (va_cpy f0 f1 sp.toNatClampNeg dp.toNatClampNeg n.toNatClampNeg)))) Q) : mn_R E M d w nc ns pc ls (.int n :: .int dp :: .ref a :: .int sp :: .ref a0 :: st) g Q := by
  intro p e s m args below meth c H locs cells slots lsr R X Y hl hr
  obtain ⟨R1, R2, R3, R4⟩ := id hr
  have nn : ∀ z : Int32, ¬ z < 0 → z.toInt = (z.toNatClampNeg : Int) := by
    intro z hz
    have hz0 : (0 : Int) ≤ z.toInt := by
      have := Int32.not_lt.mp hz
      simpa using Int32.le_iff_toInt_le.mp this
    show z.toInt = ((z.toInt.toNat : Nat) : Int)
    omega
  intro T hT XX
  have hc0 : H[mn_ad E a0]? = some (vp_cell (E.2.2.1 t) (n0, .inl f0)) := Y.1 (a0 - 1) _ (mn_ws_get hat0)
  have hc1 : H[mn_ad E a]? = some (vp_cell (E.2.2.1 t) (n1, .inl f1)) := Y.1 (a - 1) _ (mn_ws_get hat)
  obtain ⟨-, k0, hk0, cm0, hkk0⟩ := (X.K.1.2 t _ (mn_ty_get ht)).1 n0 (fun j => .int (f0 j))
  obtain ⟨-, k1, hk1, cm1, hkk1⟩ := (X.K.1.2 t _ (mn_ty_get ht)).1 n1 (fun j => .int (f1 j))
  obtain ⟨vm', X', step⟩ := XX.arraycopy X.1 X.own (X.hts _ lk) (X.hts _ hnat) (X.hts _ hst) (X.hts _ hini) (src := mn_ad E a0) (dst := mn_ad E a) (cs := vp_cell (E.2.2.1 t) (n0, .inl f0)) (cd := vp_cell (E.2.2.1 t) (n1, .inl f1)) (srcPos := sp) (destPos := dp) (n := n) (by rw [hT]; exact hc0) (by rw [hT]; exact hc1)
    (fun _ h => by cases h) (fun _ h => by cases h) (fun h => by cases h) (fun h => by cases h) hk0 hk1 hkk0 hkk1 rfl h1 h2 h3
    (by rw [nn sp h1, nn n h3]; show ¬ _ > ((arrV _ n0 (fun j => .int (f0 j))).slots.size : Int); rw [arrV_size]; omega)
    (by rw [nn dp h2, nn n h3]; show ¬ _ > ((arrV _ n1 (fun j => .int (f1 j))).slots.size : Int); rw [arrV_size]; omega)
    (fun vm₁ _ j hj => by
      have e : (vp_cell (E.2.2.1 t) (n0, .inl f0)).slots.getD (sp.toNatClampNeg + j) .null = .int (f0 (sp.toNatClampNeg + j)) := by
        show (arrV _ n0 (fun j => .int (f0 j))).slots.getD _ _ = _
        rw [Array.getD_eq_getD_getElem?, arrV_read _ _ (by omega)]
        rfl
      refine ⟨?_, ?_⟩
      · rw [e]
        rfl
      · rw [e]
        exact trivial)
    (g := F0 m pc lsr (.int n :: .int dp :: .ref (mn_ad E a) :: .int sp :: .ref (mn_ad E a0) :: st.map (mn_v E))) rfl (hl.1.trans X.2.2.1.symm) (rest := st.map (mn_v E)) rfl (by rw [X.2.1]; exact hdg) (by omega) (by show 2 * 0 + _ + (nativeFrameWords "java/lang/System" "arraycopy" 5 + 11) ≤ _; rw [mn_cats, show nativeFrameWords "java/lang/System" "arraycopy" 5 = 7 by decide +kernel]; omega)
  have e1 : copied (vp_cell (E.2.2.1 t) (n0, .inl f0)) (vp_cell (E.2.2.1 t) (n1, .inl f1)) sp dp n = vp_cell (E.2.2.1 t) (n1, .inl (va_cpy f0 f1 sp.toNatClampNeg dp.toNatClampNeg n.toNatClampNeg)) := va_copied (fun z => .int z) _ _ f0 f1 h4
  rw [e1] at X' step
  have hlt : mn_ad E a < H.size := (Array.getElem?_eq_some_iff.mp hc1).1
  have hheap : ((T.setVm vm').setCell (mn_ad E a) (vp_cell (E.2.2.1 t) (n1, .inl (va_cpy f0 f1 sp.toNatClampNeg dp.toNatClampNeg n.toNatClampNeg)))).heap = H.setIfInBounds (mn_ad E a) (vp_cell (E.2.2.1 t) (n1, .inl (va_cpy f0 f1 sp.toNatClampNeg dp.toNatClampNeg n.toNatClampNeg))) := by rw [← hT]; rfl
  generalize hH1 : H.setIfInBounds (mn_ad E a) (vp_cell (E.2.2.1 t) (n1, .inl (va_cpy f0 f1 sp.toNatClampNeg dp.toNatClampNeg n.toNatClampNeg))) = H1 at hheap
  have oq : ∀ q : Nat, q ≠ mn_ad E a → H1[q]? = H[q]? := fun q hq => by rw [← hH1]; simp [Array.getElem?_setIfInBounds, Ne.symm hq]
  have z : H1.size = H.size := by rw [← hH1]; simp
  have hP' := (Y.1).set (H1 := H1) (e := mn_E E (.inl (t, n1, .inl (va_cpy f0 f1 sp.toNatClampNeg dp.toNatClampNeg n.toNatClampNeg)))) mn_ws_D (mn_ws_get hat) (by
    show H1[mn_ad E a]? = some (vp_cell _ (n1, .inl (va_cpy f0 f1 sp.toNatClampNeg dp.toNatClampNeg n.toNatClampNeg)))
    rw [← hH1]; simp [Array.getElem?_setIfInBounds, hlt]) oq
  rw [mn_ws_set hat] at hP'
  have hS := Y.2.2.2
  obtain ⟨t2, a1, b1⟩ := k p e s m args below meth c H1 _ cells slots lsr R X ⟨hP', z.trans Y.2.1, Y.2.2.1, by rw [z]; exact hS.1, fun q g1 g2 => by
      rw [oq q (fun e => g2 (by rw [e]; exact mn_in hat))]
      exact hS.2.1 q g1 g2, fun q hq => by
      rcases List.mem_append.mp hq with h | h
      · exact hS.2.2 q h
      · obtain ⟨z, -, hz⟩ := List.mem_map.mp h
        rw [← hz]
        exact mn_in hat⟩ hl hr _ hheap X'
  exact ⟨t2, step t2 a1, b1⟩
end MNPUT
section MNNAT
variable {E : mn_En} {M : mn_M} {d w nc ns pc i a ci : Nat} {ls : List (Nat × Value)} {st : List Value} {g : mn_H} {Q : Option Value → mn_H → Prop}
theorem mn_ialdN {t n j : Nat} {f : Nat → Int32} (hat : mn_at g a (.inl (t, n, .inl f))) (ht : mn_T[t]? = some .int) (hj : j < n) (hn : n < 2 ^ 31) (hdg : decode M.2.1 pc = .ok (.iaload, 1)) (k : mn_R E M d w nc ns (pc + 1) ls (.int (f j) :: st) g Q) : mn_R E M d w nc ns pc ls (.int (nI j) :: .ref a :: st) g Q :=
  mn_iald hat ht (vp_in_nI hj hn) hdg (by rw [nI_clamp (by omega)]; exact k)
theorem mn_iastN {t n j : Nat} {f : Nat → Int32} {x : Int32} (hat : mn_at g a (.inl (t, n, .inl f))) (ht : mn_T[t]? = some .int) (hj : j < n) (hn : n < 2 ^ 31) (hdg : decode M.2.1 pc = .ok (.iastore, 1)) (k : mn_R E M d w nc ns (pc + 1) ls st (mn_set g a (.inl (t, n, .inl (upd f j x)))) Q) : mn_R E M d w nc ns pc ls (.int x :: .int (nI j) :: .ref a :: st) g Q :=
  mn_iast hat ht (vp_in_nI hj hn) hdg (by rw [nI_clamp (by omega)]; exact k)
theorem mn_aaldN {t n y j : Nat} {f : Nat → Option Nat} {ty : FieldType} (hat : mn_at g a (.inl (t, n, .inr (.inr (.inr (.inr f)))))) (ht : mn_T[t]? = some ty) (hty : ty.isReference = true) (hj : j < n) (hn : n < 2 ^ 31) (hy : f j = some y) (hdg : decode M.2.1 pc = .ok (.aaload, 1)) (k : mn_R E M d w nc ns (pc + 1) ls (.ref y :: st) g Q) : mn_R E M d w nc ns pc ls (.int (nI j) :: .ref a :: st) g Q :=
  mn_aald hat ht hty (vp_in_nI hj hn) (by rw [nI_clamp (by omega)]; exact hy) hdg k
theorem mn_sldN {j : Nat} (hj : j < E.2.2.2.2.2.1) (hn : E.2.2.2.2.2.1 < 2 ^ 31) (hdg : decode M.2.1 pc = .ok (.iaload, 1)) (k : mn_R E M d w nc ns (pc + 1) ls (.int (E.2.2.2.2.2.2 j) :: st) g Q) : mn_R E M d w nc ns pc ls (.int (nI j) :: .ref 0 :: st) g Q :=
  mn_sld (vp_in_nI hj hn) hdg (by rw [nI_clamp (by omega)]; exact k)
end MNNAT
/-- an answer and a world that are known -/
def mn_is (v : Option Value) (g : mn_H) : Option Value → mn_H → Prop := fun v' g' => v' = v ∧ g' = g
section MNIS
variable {E : mn_En} {M M' : mn_M} {d w nc ns pc d' w' n i a ci : Nat} {ls : List (Nat × Value)} {st As : List Value} {g g1 : mn_H} {Q : Option Value → mn_H → Prop} {v : Option Value}
theorem mn_cV {r : vw_C} {fs stk stk' : List Value} (ok : mn_okV M' n) (lk : Cond.methodLink M.1.cls i M'.1 ∈ mn_W) (hdg : decode M.2.1 pc = .ok (.invokevirtual i, 3)) (hat : mn_at g a (.inr (ci, fs))) (hc : vwCl[ci]? = some r) (hr1 : r.1 = M'.1.cls) (hs : stk = As.reverse ++ .ref a :: st) (hn : As.length = n) (hlen : (lg_sl (.ref a :: As)).length ≤ M'.2.2.1) (hcat : (st.map fun v => v.category).sum ≤ 8) (hrm : mn_rm M' d w nc ns d' w' 0 0)
    (hM : mn_R E M' d' w' 0 0 0 (lv_args 0 (.ref a :: As)) [] g (mn_is v g1)) (hs' : v.toList ++ st = stk') (k : mn_R E M d w nc ns (pc + 3) ls stk' g1 Q) : mn_R E M d w nc ns pc ls stk g Q :=
  mn_callV ok lk hdg hat hc hr1 hs hn hlen hcat hrm hM (fun v' g' hq => by obtain ⟨rfl, rfl⟩ := hq; subst hs'; exact k)
theorem mn_cS {stk stk' : List Value} (ok : mn_okS M' n) (lk : Cond.methodLink M.1.cls i M'.1 ∈ mn_W) (hdg : decode M.2.1 pc = .ok (.invokestatic i, 3)) (hs : stk = As.reverse ++ st) (hn : As.length = n) (hlen : (lg_sl As).length ≤ M'.2.2.1) (hcat : (st.map fun v => v.category).sum ≤ 8) (hrm : mn_rm M' d w nc ns d' w' 0 0)
    (hM : mn_R E M' d' w' 0 0 0 (lv_args 0 As) [] g (mn_is v g1)) (hs' : v.toList ++ st = stk') (k : mn_R E M d w nc ns (pc + 3) ls stk' g1 Q) : mn_R E M d w nc ns pc ls stk g Q :=
  mn_callS ok lk hdg hs hn hlen hcat hrm hM (fun v' g' hq => by obtain ⟨rfl, rfl⟩ := hq; subst hs'; exact k)
end MNIS
theorem mn_lit {x M : Int32} {n : Nat} (h0 : ¬ x < 0) (h1 : ¬ M ≤ x) (hM : M.toInt = (n : Int)) : vp_in x n := vp_in_iff.mpr ⟨by
  have h := Int32.not_lt.mp h0
  simpa using Int32.le_iff_toInt_le.mp h, by
  have h := Int32.not_le.mp h1
  rw [← hM]; exact Int32.lt_iff_toInt_lt.mp h⟩
theorem mn_max0 {a : Nat} (h : a < 2 ^ 31) : (if (0 : Int32) < nI a then nI a else 0) = nI a := by
  by_cases h0 : a = 0
  · subst h0; rfl
  · exact if_pos ((nI_ltI (a := 0) (b := a) (by omega) h).mpr (by omega))
theorem mn_maxN {a b : Nat} (ha : a < 2 ^ 31) (hb : b < 2 ^ 31) : (if nI a < nI b then nI b else nI a) = nI (max a b) := by
  by_cases h : a < b
  · rw [if_pos ((nI_ltI ha hb).mpr h), Nat.max_eq_right (by omega)]
  · rw [if_neg (fun q => h ((nI_ltI ha hb).mp q)), Nat.max_eq_left (by omega)]
theorem mn_minN {a b : Nat} (ha : a < 2 ^ 31) (hb : b < 2 ^ 31) : (if nI b < nI a then nI b else nI a) = nI (min a b) := by
  by_cases h : b < a
  · rw [if_pos ((nI_ltI hb ha).mpr h), Nat.min_eq_right (by omega)]
  · rw [if_neg (fun q => h ((nI_ltI hb ha).mp q)), Nat.min_eq_left (by omega)]
end
section
theorem mn_R.toG {E : mn_En} {M : mn_M} {d w nc ns pc : Nat} {ls : List (Nat × Value)} {st : List Value} {g1 g2 : mn_H} {Q : Option Value → mn_H → Prop} (h : g2 = g1) (k : mn_R E M d w nc ns pc ls st g2 Q) : mn_R E M d w nc ns pc ls st g1 Q := h ▸ k
/-! MINE: what the class's bytes are, as functions -/
def tw (x : Int32) : Int32 := if x <<< ((1 : Int32) &&& 31) ≤ 255 then x <<< ((1 : Int32) &&& 31) else (x <<< ((1 : Int32) &&& 31)) ^^^ 285
def tws (x : Int32) : Nat → Int32
  | 0 => x
  | k + 1 => tw (tws x k)
def vb_t (b : Int32) (k : Nat) : Int32 := (b.toUInt32 >>> ((nI k).toUInt32 &&& Int32.toUInt32 31)).toInt32 &&& 1
def pds (x b : Int32) : Nat → Int32
  | 0 => 0
  | k + 1 => if vb_t b k = 0 then pds x b k else pds x b k ^^^ tws x k
def su (f : Nat → Int32) (a : Nat) : Nat → Int32
  | 0 => 5381
  | k + 1 => ((33 * su f a k) ^^^ f (a + k)) &&& 65535
/-- byte of a number -/
def byt (x s : Int32) : Int32 := (x.toUInt32 >>> (s.toUInt32 &&& Int32.toUInt32 31)).toInt32 &&& 255
def up4 (f : Nat → Int32) (l : Nat) (x : Int32) : Nat → Int32 := upd (upd (upd (upd f l (byt x 24)) (l + 1) (byt x 16)) (l + 2) (byt x 8)) (l + 3) (byt x 0)
def sr8 (x : Int32) : Int32 := (x.toUInt32 >>> ((8 : Int32).toUInt32 &&& Int32.toUInt32 31)).toInt32
/-- two bytes of a sum at j -/
def ps (f : Nat → Int32) (j : Nat) (x : Int32) : Nat → Int32 := upd (upd f j (x &&& 255)) (j + 1) (sr8 x)
def sa (f : Nat → Int32) (j : Nat) : Int32 := f j + (f (j + 1) <<< ((8 : Int32) &&& 31))
def sealF (f : Nat → Int32) (s : Nat) : Nat → Int32 := ps (ps f 8 (su f 12 (s - 12))) 10 (su (ps f 8 (su f 12 (s - 12))) 0 10)
def zr (f : Nat → Int32) (lo hi : Nat) : Nat → Int32 := fun j => if lo ≤ j ∧ j < hi then 0 else f j
theorem zr_0 (f : Nat → Int32) (lo : Nat) : zr f lo lo = f := by
  funext j
  unfold zr
  rw [if_neg (by omega)]
theorem zr_s (f : Nat → Int32) {lo hi : Nat} (h : lo ≤ hi) : upd (zr f lo hi) hi 0 = zr f lo (hi + 1) := by
  funext j
  unfold upd zr
  by_cases hj : j = hi
  · rw [if_pos hj, if_pos (by omega)]
  · rw [if_neg hj]
    by_cases h2 : lo ≤ j ∧ j < hi
    · rw [if_pos h2, if_pos (by omega)]
    · rw [if_neg h2, if_neg (by omega)]
def sameB (s t : Nat) (f e : Nat → Int32) : Int32 := if s = t ∧ ∀ i, i < s → f i = e i then 1 else 0
def hhP (f : Nat → Int32) (s : Nat) : Prop := ¬ s < 12 ∧ f 0 = 86 ∧ f 1 = 83 ∧ sa f 10 = su f 0 10 ∧ ¬ f 4 < 1 ∧ ¬ 60 < f 4 ∧ ¬ 3 < f 5 ∧ ¬ f 4 + f 5 ≤ f 3
noncomputable def hh (f : Nat → Int32) (s : Nat) : Int32 := @ite _ (hhP f s) (Classical.propDecidable _) 1 0
noncomputable def stV (f : Nat → Int32) (s : Nat) : Int32 := if s = 0 then 0 else if hh f s = 0 then 3 else if sa f 8 = su f 12 (s - 12) then 1 else 2
noncomputable def gdV (f : Nat → Int32) (s : Nat) (x : Int32) : Int32 := if f 2 = x ∧ stV f s = 1 then 1 else 0
def wmV (s t : Nat) (f e : Nat → Int32) : Int32 := if s = t ∧ f 4 = e 4 ∧ f 5 = e 5 then 1 else 0
theorem hh_pos {f : Nat → Int32} {s : Nat} (h : hhP f s) : hh f s = 1 := by unfold hh; exact if_pos h
theorem hh_neg {f : Nat → Int32} {s : Nat} (h : ¬ hhP f s) : hh f s = 0 := by unfold hh; exact if_neg h
theorem hh_ge {f : Nat → Int32} {s : Nat} (h : ¬ hh f s = 0) : hhP f s := Classical.byContradiction fun q => h (hh_neg q)
/-- part i of volume n -/
def pt (fb fl fs : Nat → Int32) (w n i : Nat) : Int32 := if i = 6 then fl n else if i = 7 then fs n else if i < 12 then 0 else fb (n * w + i - 12)
/-- the sum of 2 ^ (j n) times F n, from the last one down; t of m are in it -/
def hor (F : Nat → Int32) (j m : Nat) : Nat → Int32
  | 0 => 0
  | t + 1 => tws (hor F j m t) j ^^^ F (m - 1 - t)
def mxd (fb fl fs : Nat → Int32) (w m j i : Nat) : Int32 := hor (fun n => pt fb fl fs w n i) j m m
def knP (fl : Nat → Int32) (m w p : Nat) : Prop := p < m * w ∧ nI (p - p / w * w) < fl (p / w)
noncomputable def knV (fl : Nat → Int32) (m w p : Nat) : Int32 := @ite _ (knP fl m w p) (Classical.propDecidable _) 1 0
theorem kn_pos {fl : Nat → Int32} {m w p : Nat} (h : knP fl m w p) : knV fl m w p = 1 := by unfold knV; exact if_pos h
theorem kn_neg {fl : Nat → Int32} {m w p : Nat} (h : ¬ knP fl m w p) : knV fl m w p = 0 := by unfold knV; exact if_neg h
theorem kn_of {fl : Nat → Int32} {m w p : Nat} (h : ¬ knV fl m w p = 0) : knP fl m w p := Classical.byContradiction fun q => h (kn_neg q)
theorem kn_no {fl : Nat → Int32} {m w p : Nat} (h : knV fl m w p = 0) : ¬ knP fl m w p := fun q => by rw [kn_pos q] at h; exact absurd h (by decide)
/-- what is not in S stays -/
def mn_fr (S : Nat → Prop) (g g' : mn_H) : Prop := g'.1 = g.1 ∧ ∀ a, ¬ S a → g'.2 a = g.2 a
theorem mn_at.fr {g g' : mn_H} {a : Nat} {c : mn_C} {S : Nat → Prop} (h : mn_at g a c) (hf : mn_fr S g g') (hs : ¬ S a) : mn_at g' a c := ⟨h.1, by rw [hf.1]; exact h.2.1, by rw [hf.2 a hs]; exact h.2.2⟩
theorem mn_fr.rf {S : Nat → Prop} {g : mn_H} : mn_fr S g g := ⟨rfl, fun _ _ => rfl⟩
theorem mn_fr.tr {S : Nat → Prop} {g g1 g2 : mn_H} (h1 : mn_fr S g g1) (h2 : mn_fr S g1 g2) : mn_fr S g g2 := ⟨h2.1.trans h1.1, fun a h => (h2.2 a h).trans (h1.2 a h)⟩
theorem mn_fr.mo {S S' : Nat → Prop} {g g' : mn_H} (h : mn_fr S g g') (hs : ∀ a, S a → S' a) : mn_fr S' g g' := ⟨h.1, fun a ha => h.2 a (fun q => ha (hs a q))⟩
theorem mn_fr_set {S : Nat → Prop} {g : mn_H} {a : Nat} {c : mn_C} (h : S a) : mn_fr S g (mn_set g a c) := ⟨rfl, fun b hb => by
  show (if b = a then c else g.2 b) = g.2 b
  rw [if_neg (fun e => hb (by rw [e]; exact h))]⟩
theorem mn_fr.set {S : Nat → Prop} {g0 g g1 : mn_H} {a : Nat} {c : mn_C} (h : mn_fr S g0 g) (e : g1 = mn_set g a c) (hs : S a) : mn_fr S g0 g1 := by rw [e]; exact h.tr (mn_fr_set hs)
/-- a row filled up to n -/
def flN (f : Nat → Int32) (x : Int32) (n : Nat) : Nat → Int32 := fun j => if j < n then x else f j
theorem flN_0 (f : Nat → Int32) (x : Int32) : flN f x 0 = f := by funext j; unfold flN; rw [if_neg (by omega)]
theorem flN_s (f : Nat → Int32) (x : Int32) (n : Nat) : upd (flN f x n) n x = flN f x (n + 1) := by
  funext j
  unfold upd flN
  by_cases hj : j = n
  · rw [if_pos hj, if_pos (by omega)]
  · rw [if_neg hj]
    by_cases h2 : j < n
    · rw [if_pos h2, if_pos (by omega)]
    · rw [if_neg h2, if_neg (by omega)]
def ppB (w n i : Nat) (x : Int32) (fb : Nat → Int32) : Nat → Int32 := if 12 ≤ i then upd fb (n * w + i - 12) x else fb
def ppL (n i : Nat) (x : Int32) (fl : Nat → Int32) : Nat → Int32 := if i = 6 then upd fl n x else fl
def ppS (n i : Nat) (x : Int32) (fs : Nat → Int32) : Nat → Int32 := if i = 7 then upd fs n x else fs
end
section
theorem nx_and (a b : Nat) : nI a &&& nI b = nI (a &&& b) := by
  apply Int32.toBitVec_inj.1
  show BitVec.ofNat 32 a &&& BitVec.ofNat 32 b = BitVec.ofNat 32 (a &&& b)
  apply BitVec.eq_of_getLsbD_eq
  intro i hi
  simp [hi]
theorem nx_xor (a b : Nat) : nI a ^^^ nI b = nI (a ^^^ b) := by
  apply Int32.toBitVec_inj.1
  show BitVec.ofNat 32 a ^^^ BitVec.ofNat 32 b = BitVec.ofNat 32 (a ^^^ b)
  apply BitVec.eq_of_getLsbD_eq
  intro i hi
  simp [hi]
theorem nx_cnt : ∀ j : Fin 32, (UInt32.ofNat j.val &&& Int32.toUInt32 31).toNat % 32 = j.val := by decide +kernel
theorem nx_ush {k j : Nat} (hk : k < 65536) (hj : j < 32) : ((nI k).toUInt32 >>> ((nI j).toUInt32 &&& Int32.toUInt32 31)).toInt32 = nI (k >>> j) := by
  have hs : k >>> j ≤ k := by
    rw [Nat.shiftRight_eq_div_pow]
    exact Nat.div_le_self _ _
  have e2 : UInt32.ofNat k >>> (UInt32.ofNat j &&& Int32.toUInt32 31) = UInt32.ofNat (k >>> j) := by
    apply UInt32.toNat_inj.1
    have h1 : (UInt32.ofNat k).toNat = k := Nat.mod_eq_of_lt (by omega)
    have h2 : (UInt32.ofNat (k >>> j)).toNat = k >>> j := Nat.mod_eq_of_lt (by omega)
    rw [UInt32.toNat_shiftRight, nx_cnt ⟨j, hj⟩, h1, h2]
  show (UInt32.ofNat k >>> (UInt32.ofNat j &&& Int32.toUInt32 31)).toInt32 = _
  rw [e2]
  rfl
theorem nx_bit {k j : Nat} (hk : k < 65536) (hj : j < 16) : (((nI k).toUInt32 >>> ((nI j).toUInt32 &&& Int32.toUInt32 31)).toInt32 &&& 1) = 0 ↔ k.testBit j = false := by
  rw [nx_ush hk (by omega)]
  show nI (k >>> j) &&& nI 1 = 0 ↔ _
  rw [nx_and, Nat.and_one_is_mod, ← nI_0, nI_eq (by omega) (by omega), Nat.testBit_eq_decide_div_mod_eq, Nat.shiftRight_eq_div_pow, decide_eq_false_iff_not]
  generalize k / 2 ^ j = z
  omega
theorem nx_mod (k : Nat) : nI k &&& 65535 = nI (k % 65536) := by
  show nI k &&& nI 65535 = _
  rw [nx_and, show (65535 : Nat) = 2 ^ 16 - 1 from rfl, Nat.and_two_pow_sub_one_eq_mod]
theorem nx_m16 {k : Nat} (h : k < 65536) : nI k &&& 65535 = nI k := by rw [nx_mod, Nat.mod_eq_of_lt h]
/-! MINE: the same over naturals -/
def twN (x : Nat) : Nat := if 2 * x ≤ 255 then 2 * x else (2 * x) ^^^ 285
theorem tw_ck : ∀ x, x < 256 → tw (nI x) = nI (twN x) ∧ twN x < 256 := by decide +kernel
def twsN (x : Nat) : Nat → Nat
  | 0 => x
  | k + 1 => twN (twsN x k)
theorem tws_nI {x : Nat} (h : x < 256) : ∀ n, tws (nI x) n = nI (twsN x n) ∧ twsN x n < 256
  | 0 => ⟨rfl, h⟩
  | n + 1 => by
    obtain ⟨h1, h2⟩ := tws_nI h n
    show tw (tws (nI x) n) = nI (twN (twsN x n)) ∧ twN (twsN x n) < 256
    rw [h1]
    exact tw_ck _ h2
def suN (b : Nat → Nat) (a : Nat) : Nat → Nat
  | 0 => 5381
  | k + 1 => ((33 * suN b a k) ^^^ b (a + k)) % 65536
theorem suN_lt (b : Nat → Nat) (a : Nat) : ∀ n, suN b a n < 65536
  | 0 => by show 5381 < 65536; decide
  | n + 1 => Nat.mod_lt _ (by decide)
theorem su_nI (b : Nat → Nat) (a : Nat) : ∀ n, su (fun j => nI (b j)) a n = nI (suN b a n)
  | 0 => rfl
  | n + 1 => by
    show ((33 * su (fun j => nI (b j)) a n) ^^^ nI (b (a + n))) &&& 65535 = nI (((33 * suN b a n) ^^^ b (a + n)) % 65536)
    rw [su_nI b a n, ← nx_mod, ← nx_xor, ← pk_mul]
    rfl
theorem suN_ext {b c : Nat → Nat} {a a' : Nat} : ∀ {n}, (∀ i, i < n → b (a + i) = c (a' + i)) → suN b a n = suN c a' n
  | 0, _ => rfl
  | n + 1, h => by
    show ((33 * suN b a n) ^^^ b (a + n)) % 65536 = ((33 * suN c a' n) ^^^ c (a' + n)) % 65536
    rw [suN_ext (fun i hi => h i (by omega)), h n (by omega)]
theorem xor_lt8 {a b : Nat} (ha : a < 256) (hb : b < 256) : a ^^^ b < 256 := Nat.xor_lt_two_pow (n := 8) ha hb
def ptN (pb ln sn : Nat → Nat) (w n i : Nat) : Nat := if i = 6 then ln n else if i = 7 then sn n else if i < 12 then 0 else pb (n * w + i - 12)
theorem pt_nI (pb ln sn : Nat → Nat) (w n i : Nat) : pt (fun j => nI (pb j)) (fun j => nI (ln j)) (fun j => nI (sn j)) w n i = nI (ptN pb ln sn w n i) := by
  unfold pt ptN
  split
  · rfl
  · split
    · rfl
    · split
      · rfl
      · rfl
theorem ptN_lt {pb ln sn : Nat → Nat} (hp : ∀ j, pb j < 256) (hl : ∀ j, ln j < 256) (hs : ∀ j, sn j < 256) (w n i : Nat) : ptN pb ln sn w n i < 256 := by
  unfold ptN
  split
  · exact hl n
  · split
    · exact hs n
    · split
      · decide
      · exact hp _
def horN (F : Nat → Nat) (j m : Nat) : Nat → Nat
  | 0 => 0
  | t + 1 => twsN (horN F j m t) j ^^^ F (m - 1 - t)
theorem hor_nI {F : Nat → Nat} (hF : ∀ n, F n < 256) (j m : Nat) : ∀ t, hor (fun n => nI (F n)) j m t = nI (horN F j m t) ∧ horN F j m t < 256
  | 0 => ⟨rfl, by show 0 < 256; decide⟩
  | t + 1 => by
    obtain ⟨h1, h2⟩ := hor_nI hF j m t
    show tws (hor (fun n => nI (F n)) j m t) j ^^^ nI (F (m - 1 - t)) = nI (twsN (horN F j m t) j ^^^ F (m - 1 - t)) ∧ twsN (horN F j m t) j ^^^ F (m - 1 - t) < 256
    obtain ⟨g1, g2⟩ := tws_nI h2 j
    rw [h1, g1, nx_xor]
    exact ⟨rfl, xor_lt8 g2 (hF _)⟩
theorem upd_nI (b : Nat → Nat) (k v : Nat) : upd (fun j => nI (b j)) k (nI v) = fun j => nI (va_up b k v j) := by
  funext j
  unfold upd va_up
  split <;> rfl
theorem va_up_lt {b : Nat → Nat} (h : ∀ j, b j < 256) {k v : Nat} (hv : v < 256) : ∀ j, va_up b k v j < 256 := by
  intro j
  unfold va_up
  split
  · exact hv
  · exact h j
theorem va_up_s {α : Type} (f : Nat → α) (k : Nat) (v : α) : va_up f k v k = v := if_pos rfl
theorem va_up_n {α : Type} (f : Nat → α) {k j : Nat} (v : α) (h : j ≠ k) : va_up f k v j = f j := if_neg h
theorem and255 (k : Nat) : nI k &&& 255 = nI (k % 256) := by
  show nI k &&& nI 255 = _
  rw [nx_and, show (255 : Nat) = 2 ^ 8 - 1 from rfl, Nat.and_two_pow_sub_one_eq_mod]
theorem sr8_nI {k : Nat} (h : k < 65536) : sr8 (nI k) = nI (k / 256) := by
  have := nx_ush (k := k) (j := 8) h (by decide)
  rw [Nat.shiftRight_eq_div_pow] at this
  exact this
theorem shl8_nI {k : Nat} (h : k < 65536) : nI k <<< ((8 : Int32) &&& 31) = nI (256 * k) := by
  rw [pk_shlN (8 &&& 31) 8 (by decide) (by omega), Nat.mul_comm]
def psN (b : Nat → Nat) (j X : Nat) : Nat → Nat := va_up (va_up b j (X % 256)) (j + 1) (X / 256)
theorem ps_nI (b : Nat → Nat) (j : Nat) {X : Nat} (h : X < 65536) : ps (fun i => nI (b i)) j (nI X) = fun i => nI (psN b j X i) := by
  unfold ps psN
  rw [and255, sr8_nI h, upd_nI, upd_nI]
theorem psN_lt {b : Nat → Nat} (hb : ∀ j, b j < 256) {j X : Nat} (h : X < 65536) : ∀ i, psN b j X i < 256 := va_up_lt (va_up_lt hb (by omega)) (by omega)
theorem sa_nI {b : Nat → Nat} (hb : ∀ j, b j < 256) (j : Nat) : sa (fun i => nI (b i)) j = nI (b j + 256 * b (j + 1)) := by
  have h := hb (j + 1)
  unfold sa
  show nI (b j) + (nI (b (j + 1)) <<< ((8 : Int32) &&& 31)) = _
  rw [shl8_nI (by omega), nI_add]
def sealN (b : Nat → Nat) (s : Nat) : Nat → Nat := psN (psN b 8 (suN b 12 (s - 12))) 10 (suN (psN b 8 (suN b 12 (s - 12))) 0 10)
theorem seal_nI (b : Nat → Nat) (s : Nat) : sealF (fun i => nI (b i)) s = fun i => nI (sealN b s i) := by
  unfold sealF sealN
  rw [su_nI, ps_nI _ _ (suN_lt _ _ _), su_nI, ps_nI _ _ (suN_lt _ _ _)]
theorem sealN_lt {b : Nat → Nat} (hb : ∀ j, b j < 256) (s : Nat) : ∀ i, sealN b s i < 256 := psN_lt (psN_lt hb (suN_lt _ _ _)) (suN_lt _ _ _)
def zrN (b : Nat → Nat) (lo hi : Nat) : Nat → Nat := fun j => if lo ≤ j ∧ j < hi then 0 else b j
theorem zr_nI (b : Nat → Nat) (lo hi : Nat) : zr (fun i => nI (b i)) lo hi = fun i => nI (zrN b lo hi i) := by
  funext j
  unfold zr zrN
  split <;> rfl
abbrev hdN (b : Nat → Nat) (s : Nat) : Prop := 12 ≤ s ∧ b 0 = 86 ∧ b 1 = 83 ∧ b 10 + 256 * b 11 = suN b 0 10 ∧ 1 ≤ b 4 ∧ b 4 ≤ 60 ∧ b 5 ≤ 3 ∧ b 3 < b 4 + b 5
theorem nI_e {a b : Nat} (ha : a < 2 ^ 31) (hb : b < 2 ^ 31) : nI a = nI b ↔ a = b := nI_eq ha hb
theorem hh_iff {b : Nat → Nat} (hb : ∀ j, b j < 256) (s : Nat) : hhP (fun i => nI (b i)) s ↔ hdN b s := by
  have b0 := hb 0
  have b1 := hb 1
  have b3 := hb 3
  have b4 := hb 4
  have b5 := hb 5
  have b10 := hb 10
  have b11 := hb 11
  have hs := suN_lt b 0 10
  unfold hhP
  rw [sa_nI hb, su_nI]
  show (¬ s < 12 ∧ nI (b 0) = nI 86 ∧ nI (b 1) = nI 83 ∧ nI (b 10 + 256 * b 11) = nI (suN b 0 10) ∧ ¬ nI (b 4) < nI 1 ∧ ¬ nI 60 < nI (b 4) ∧ ¬ nI 3 < nI (b 5) ∧ ¬ nI (b 4) + nI (b 5) ≤ nI (b 3)) ↔ _
  rw [nI_add, nI_eq (by omega) (by omega), nI_eq (by omega) (by omega), nI_eq (by omega) (by omega), nI_ltI (by omega) (by omega), nI_ltI (by omega) (by omega), nI_ltI (by omega) (by omega), nI_leI (by omega) (by omega)]
  unfold hdN
  constructor
  · rintro ⟨h1, h2, h3, h4, h5, h6, h7, h8⟩
    exact ⟨by omega, h2, h3, h4, by omega, by omega, by omega, by omega⟩
  · rintro ⟨h1, h2, h3, h4, h5, h6, h7, h8⟩
    exact ⟨by omega, h2, h3, h4, by omega, by omega, by omega, by omega⟩
def stN (b : Nat → Nat) (s : Nat) : Nat := if s = 0 then 0 else if hdN b s then (if b 8 + 256 * b 9 = suN b 12 (s - 12) then 1 else 2) else 3
theorem stV_nI {b : Nat → Nat} (hb : ∀ j, b j < 256) (s : Nat) : stV (fun i => nI (b i)) s = nI (stN b s) := by
  have b8 := hb 8
  have b9 := hb 9
  have hs := suN_lt b 12 (s - 12)
  unfold stV stN
  by_cases h0 : s = 0
  · rw [if_pos h0, if_pos h0]; rfl
  · rw [if_neg h0, if_neg h0]
    by_cases hh' : hdN b s
    · rw [hh_pos ((hh_iff hb s).mpr hh'), if_neg (by decide), if_pos hh', sa_nI hb, su_nI]
      by_cases he : b 8 + 256 * b 9 = suN b 12 (s - 12)
      · rw [if_pos he, if_pos (by rw [he])]; rfl
      · rw [if_neg he, if_neg (fun q => he ((nI_eq (by omega) (by omega)).mp q))]; rfl
    · rw [hh_neg (fun q => hh' ((hh_iff hb s).mp q)), if_pos rfl, if_neg hh']; rfl
theorem hh_nI {b : Nat → Nat} (hb : ∀ j, b j < 256) (s : Nat) : hh (fun i => nI (b i)) s = if hdN b s then 1 else 0 := by
  by_cases h : hdN b s
  · rw [if_pos h, hh_pos ((hh_iff hb s).mpr h)]
  · rw [if_neg h, hh_neg (fun q => h ((hh_iff hb s).mp q))]
/-- byte p of the stream is known -/
abbrev kN (ln : Nat → Nat) (m w p : Nat) : Prop := p < m * w ∧ p - p / w * w < ln (p / w)
def kV (ln : Nat → Nat) (m w p : Nat) : Int32 := if kN ln m w p then 1 else 0
theorem kV_pos {ln : Nat → Nat} {m w p : Nat} (h : kN ln m w p) : kV ln m w p = 1 := if_pos h
theorem kV_neg {ln : Nat → Nat} {m w p : Nat} (h : ¬ kN ln m w p) : kV ln m w p = 0 := if_neg h
theorem kV_of {ln : Nat → Nat} {m w p : Nat} (h : ¬ kV ln m w p = 0) : kN ln m w p := Classical.byContradiction fun q => h (kV_neg q)
theorem kV_no {ln : Nat → Nat} {m w p : Nat} (h : kV ln m w p = 0) : ¬ kN ln m w p := fun q => by rw [kV_pos q] at h; exact absurd h (by decide)
theorem mn_dec1 (x : Int32) : x + Int32.ofInt (-1) = x - 1 := by rw [show Int32.ofInt (-1) = -1 by decide, Int32.sub_eq_add_neg]
noncomputable def akV (ln : Nat → Nat) (m w i j : Nat) : Int32 := @ite _ (∀ p, i ≤ p → p < j → kN ln m w p) (Classical.propDecidable _) 1 0
theorem akV_pos {ln : Nat → Nat} {m w i j : Nat} (h : ∀ p, i ≤ p → p < j → kN ln m w p) : akV ln m w i j = 1 := by unfold akV; exact if_pos h
theorem akV_neg {ln : Nat → Nat} {m w i j : Nat} (h : ¬ ∀ p, i ≤ p → p < j → kN ln m w p) : akV ln m w i j = 0 := by unfold akV; exact if_neg h
/-- of the last k of m volumes the first one with a start -/
def sbK (ln sn : Nat → Nat) (m : Nat) : Nat → Option Nat
  | 0 => none
  | k + 1 => if sn (m - (k + 1)) < ln (m - (k + 1)) then some (m - (k + 1)) else sbK ln sn m k
theorem sbK_some {ln sn : Nat → Nat} {m : Nat} : ∀ {k n : Nat}, k ≤ m → sbK ln sn m k = some n → m - k ≤ n ∧ n < m ∧ sn n < ln n
  | 0, n, _, h => by cases h
  | k + 1, n, hk, h => by
    unfold sbK at h
    by_cases c : sn (m - (k + 1)) < ln (m - (k + 1))
    · rw [if_pos c] at h
      cases h
      exact ⟨by omega, by omega, c⟩
    · rw [if_neg c] at h
      have := sbK_some (by omega) h
      exact ⟨by omega, this.2⟩
def onI (o : Option Nat) : Int32 := match o with
  | none => -2
  | some q => nI q
/-- the first known place from p on, by at most f - 1 jumps -/
def nk (ln sn : Nat → Nat) (m w : Nat) : Nat → Nat → Option Nat
  | 0, _ => none
  | f + 1, p => if kN ln m w p then some p else match sbK ln sn m (m - (p / w + 1)) with
    | none => none
    | some n => nk ln sn m w f (n * w + sn n)
theorem nk_yes {ln sn : Nat → Nat} {m w f p : Nat} (h : kN ln m w p) : nk ln sn m w (f + 1) p = some p := if_pos h
theorem nk_none {ln sn : Nat → Nat} {m w f p : Nat} (h : ¬ kN ln m w p) (hs : sbK ln sn m (m - (p / w + 1)) = none) : nk ln sn m w (f + 1) p = none := by
  unfold nk
  rw [if_neg h, hs]
theorem nk_some {ln sn : Nat → Nat} {m w f p n : Nat} (h : ¬ kN ln m w p) (hs : sbK ln sn m (m - (p / w + 1)) = some n) : nk ln sn m w (f + 1) p = nk ln sn m w f (n * w + sn n) := by
  rw [nk, if_neg h, hs]
theorem mn_R.sub {E : mn_En} {M : mn_M} {d w nc ns pc : Nat} {ls ls' : List (Nat × Value)} {st : List Value} {g : mn_H} {Q : Option Value → mn_H → Prop} (ks : List Nat) (hl : ks.filterMap (fun k => ls[k]?) = ls') (k : mn_R E M d w nc ns pc ls' st g Q) : mn_R E M d w nc ns pc ls st g Q := by
  subst hl
  refine k.less (fun q hq => ?_) (Nat.le_refl _) (Nat.le_refl _) (Nat.le_refl _) (Nat.le_refl _)
  obtain ⟨i, -, hi⟩ := List.mem_filterMap.mp hq
  exact List.mem_of_getElem? hi
end
section
def ppBN (w n i v : Nat) (pb : Nat → Nat) : Nat → Nat := if 12 ≤ i then va_up pb (n * w + i - 12) v else pb
def ppLN (n i v : Nat) (ln : Nat → Nat) : Nat → Nat := if i = 6 then va_up ln n v else ln
def ppSN (n i v : Nat) (sn : Nat → Nat) : Nat → Nat := if i = 7 then va_up sn n v else sn
theorem ppB_nI (w n i v : Nat) (pb : Nat → Nat) : ppB w n i (nI v) (fun j => nI (pb j)) = fun j => nI (ppBN w n i v pb j) := by
  unfold ppB ppBN
  split
  · exact upd_nI _ _ _
  · rfl
theorem ppL_nI (n i v : Nat) (pb : Nat → Nat) : ppL n i (nI v) (fun j => nI (pb j)) = fun j => nI (ppLN n i v pb j) := by
  unfold ppL ppLN
  split
  · exact upd_nI _ _ _
  · rfl
theorem ppS_nI (n i v : Nat) (pb : Nat → Nat) : ppS n i (nI v) (fun j => nI (pb j)) = fun j => nI (ppSN n i v pb j) := by
  unfold ppS ppSN
  split
  · exact upd_nI _ _ _
  · rfl
/-- an entry of tl bytes with sum S behind the first len bytes; i of its bytes are there -/
def apL (pb : Nat → Nat) (len tl S : Nat) (tb : Nat → Nat) (i : Nat) : Nat → Nat := fun j => if j < len then pb j else if j = len then tl else if j = len + 1 then S % 256 else if j = len + 2 then S / 256 else if j < len + 3 + i then tb (j - (len + 3)) else pb j
theorem apL_0 (pb : Nat → Nat) (len tl S : Nat) (tb : Nat → Nat) : va_up (va_up (va_up pb len tl) (len + 1) (S % 256)) (len + 2) (S / 256) = apL pb len tl S tb 0 := by
  funext j
  unfold va_up apL
  repeat' split
  all_goals first | rfl | omega
theorem apL_s (pb : Nat → Nat) (len tl S : Nat) (tb : Nat → Nat) (i : Nat) : va_up (apL pb len tl S tb i) (len + 3 + i) (tb i) = apL pb len tl S tb (i + 1) := by
  funext j
  unfold va_up
  by_cases hj : j = len + 3 + i
  · subst hj
    unfold apL
    rw [if_pos rfl, if_neg (by omega), if_neg (by omega), if_neg (by omega), if_neg (by omega), if_pos (by omega), show len + 3 + i - (len + 3) = i by omega]
  · rw [if_neg hj]
    unfold apL
    by_cases h1 : j < len
    · rw [if_pos h1, if_pos h1]
    · rw [if_neg h1, if_neg h1]
      by_cases h2 : j = len
      · rw [if_pos h2, if_pos h2]
      · rw [if_neg h2, if_neg h2]
        by_cases h3 : j = len + 1
        · rw [if_pos h3, if_pos h3]
        · rw [if_neg h3, if_neg h3]
          by_cases h4 : j = len + 2
          · rw [if_pos h4, if_pos h4]
          · rw [if_neg h4, if_neg h4]
            by_cases h5 : j < len + 3 + i
            · rw [if_pos h5, if_pos (by omega)]
            · rw [if_neg h5, if_neg (by omega)]
def blN (pb : Nat → Nat) (n : Nat) : Nat → Nat := fun j => if j < n then 0 else pb j
theorem flN_nI (pb : Nat → Nat) (n : Nat) : flN (fun j => nI (pb j)) 0 n = fun j => nI (blN pb n j) := by
  funext j
  unfold flN blN
  split <;> rfl
theorem blN_lt {pb : Nat → Nat} (h : ∀ j, pb j < 256) (n : Nat) : ∀ j, blN pb n j < 256 := by
  intro j
  unfold blN
  split
  · decide
  · exact h j
def pcN (len w : Nat) : Nat := max 1 ((len + w - 1) / w)
/-- of the last k of e entries the place of the first that begins in from .. from + w - 1; 255: none -/
def siK (bg : Nat → Nat) (e fr w : Nat) : Nat → Nat
  | 0 => 255
  | k + 1 => if fr ≤ bg (e - (k + 1)) ∧ bg (e - (k + 1)) < fr + w then bg (e - (k + 1)) - fr else siK bg e fr w k
def dvL (ln : Nat → Nat) (len w i : Nat) : Nat → Nat := fun n => if n < i then min w (len - n * w) else ln n
def dvS (sn bg : Nat → Nat) (e w i : Nat) : Nat → Nat := fun n => if n < i then siK bg e (n * w) w e else sn n
theorem dvL_0 (ln : Nat → Nat) (len w : Nat) : dvL ln len w 0 = ln := by funext n; unfold dvL; rw [if_neg (by omega)]
theorem dvS_0 (sn bg : Nat → Nat) (e w : Nat) : dvS sn bg e w 0 = sn := by funext n; unfold dvS; rw [if_neg (by omega)]
theorem dvL_s (ln : Nat → Nat) (len w i : Nat) : va_up (dvL ln len w i) i (min w (len - i * w)) = dvL ln len w (i + 1) := by
  funext n
  unfold va_up dvL
  by_cases h : n = i
  · rw [if_pos h, if_pos (by omega), h]
  · rw [if_neg h]
    by_cases h2 : n < i
    · rw [if_pos h2, if_pos (by omega)]
    · rw [if_neg h2, if_neg (by omega)]
theorem dvS_s (sn bg : Nat → Nat) (e w i : Nat) : va_up (dvS sn bg e w i) i (siK bg e (i * w) w e) = dvS sn bg e w (i + 1) := by
  funext n
  unfold va_up dvS
  by_cases h : n = i
  · rw [if_pos h, if_pos (by omega), h]
  · rw [if_neg h]
    by_cases h2 : n < i
    · rw [if_pos h2, if_pos (by omega)]
    · rw [if_neg h2, if_neg (by omega)]
theorem siK_lt {bg : Nat → Nat} {e fr w : Nat} (hw : w ≤ 68) : ∀ k, siK bg e fr w k < 256
  | 0 => by show 255 < 256; decide
  | k + 1 => by
    unfold siK
    split
    · omega
    · exact siK_lt hw k
theorem pcN_le {len u n : Nat} (hu : 0 < u) (h : n < pcN len u) : n * u ≤ len := by
  unfold pcN at h
  by_cases h1 : n = 0
  · subst h1; omega
  · have h2 : n < (len + u - 1) / u := by
      rcases Nat.lt_or_ge n ((len + u - 1) / u) with q | q
      · exact q
      · rw [Nat.max_def] at h
        split at h <;> omega
    have h3 : (n + 1) * u ≤ len + u - 1 := (Nat.le_div_iff_mul_le hu).mp h2
    rw [Nat.succ_mul] at h3
    omega
theorem pcN_pos (len u : Nat) : 1 ≤ pcN len u := Nat.le_max_left _ _
end
section
abbrev sl_a (z : Nat) (pi : Nat → Nat) (k : Nat) : Nat := z + 2 + 2 * pi k
def sl_q (z : Nat) (pi : Nat → Nat) : Nat → Option Nat := fun k => if k < 60 then some (z + 2 + 2 * pi k) else none
/-- the slots: at z the object, at z + 1 the row; slot k is the volume pi k of those that lie behind -/
def SlP (g : mn_H) (z : Nat) (pi ss : Nat → Nat) (sb : Nat → Nat → Nat) : Prop :=
  mn_at g z (.inr (5, [.ref (z + 1)])) ∧ mn_at g (z + 1) (.inl (1, 60, .inr (.inr (.inr (.inr (sl_q z pi)))))) ∧
  (∀ k, k < 60 → mn_at g (z + 2 + 2 * pi k) (.inr (8, [.ref (z + 2 + 2 * pi k + 1), .int (nI (ss k))])) ∧ mn_at g (z + 2 + 2 * pi k + 1) (.inl (0, 80, .inl (fun j => nI (sb k j))))) ∧
  (∀ k, k < 60 → pi k < 60) ∧ (∀ a b, a < 60 → b < 60 → pi a = pi b → a = b) ∧ (∀ k, ss k ≤ 80) ∧ ∀ k j, sb k j < 256
noncomputable def cnt (P : Nat → Prop) : Nat → Nat
  | 0 => 0
  | k + 1 => cnt P k + @ite _ (P k) (Classical.propDecidable _) 1 0
theorem cnt_y {P : Nat → Prop} {k : Nat} (h : P k) : cnt P (k + 1) = cnt P k + 1 := by
  show cnt P k + @ite _ (P k) (Classical.propDecidable _) 1 0 = cnt P k + 1
  rw [if_pos h]
theorem cnt_n {P : Nat → Prop} {k : Nat} (h : ¬ P k) : cnt P (k + 1) = cnt P k := by
  show cnt P k + @ite _ (P k) (Classical.propDecidable _) 1 0 = cnt P k
  rw [if_neg h]
  rfl
theorem cnt_le (P : Nat → Prop) : ∀ k, cnt P k ≤ k
  | 0 => Nat.le_refl _
  | k + 1 => by
    have := cnt_le P k
    by_cases h : P k
    · rw [cnt_y h]; omega
    · rw [cnt_n h]; omega
/-- of the last k of n the first with P -/
noncomputable def fst' (P : Nat → Prop) (n : Nat) : Nat → Option Nat
  | 0 => none
  | k + 1 => @ite _ (P (n - (k + 1))) (Classical.propDecidable _) (some (n - (k + 1))) (fst' P n k)
theorem fst_y {P : Nat → Prop} {n i : Nat} (hi : i < n) (h : P i) : fst' P n (n - i) = some i := by
  rw [show n - i = (n - (i + 1)) + 1 by omega]
  unfold fst'
  rw [show n - (n - (i + 1) + 1) = i by omega, if_pos h]
theorem fst_n {P : Nat → Prop} {n i : Nat} (hi : i < n) (h : ¬ P i) : fst' P n (n - i) = fst' P n (n - (i + 1)) := by
  rw [show n - i = (n - (i + 1)) + 1 by omega]
  rw [fst', show n - (n - (i + 1) + 1) = i by omega, if_neg h]
theorem fst_some {P : Nat → Prop} {n : Nat} : ∀ {k i : Nat}, k ≤ n → fst' P n k = some i → n - k ≤ i ∧ i < n ∧ P i ∧ ∀ j, n - k ≤ j → j < i → ¬ P j
  | 0, i, _, h => by cases h
  | k + 1, i, hk, h => by
    unfold fst' at h
    by_cases c : P (n - (k + 1))
    · rw [if_pos c] at h
      cases h
      exact ⟨by omega, by omega, c, fun j h1 h2 => absurd h2 (by omega)⟩
    · rw [if_neg c] at h
      have := fst_some (by omega) h
      exact ⟨by omega, this.2.1, this.2.2.1, fun j h1 h2 => by
        by_cases hj : j = n - (k + 1)
        · rw [hj]; exact c
        · exact this.2.2.2 j (by omega) h2⟩
theorem fst_none {P : Nat → Prop} {n : Nat} : ∀ {k : Nat}, k ≤ n → fst' P n k = none → ∀ j, n - k ≤ j → j < n → ¬ P j
  | 0, _, _, j, h1, h2 => absurd h2 (by omega)
  | k + 1, hk, h, j, h1, h2 => by
    unfold fst' at h
    by_cases c : P (n - (k + 1))
    · rw [if_pos c] at h
      cases h
    · rw [if_neg c] at h
      by_cases hj : j = n - (k + 1)
      · rw [hj]; exact c
      · exact fst_none (by omega) h j (by omega) h2
/-- two rows of bytes are the same -/
abbrev smN (s t : Nat) (b c : Nat → Nat) : Prop := s = t ∧ ∀ i, i < s → b i = c i
theorem same_nI {s t : Nat} {b c : Nat → Nat} (hb : ∀ j, b j < 256) (hc : ∀ j, c j < 256) : (sameB s t (fun j => nI (b j)) (fun j => nI (c j)) = 0 ↔ ¬ smN s t b c) := by
  unfold sameB
  have key : (s = t ∧ ∀ i, i < s → nI (b i) = nI (c i)) ↔ smN s t b c := by
    constructor
    · rintro ⟨h1, h2⟩
      exact ⟨h1, fun i hi => (nI_eq (by have := hb i; omega) (by have := hc i; omega)).mp (h2 i hi)⟩
    · rintro ⟨h1, h2⟩
      exact ⟨h1, fun i hi => by rw [h2 i hi]⟩
  by_cases h : smN s t b c
  · rw [if_pos (key.mpr h)]
    exact ⟨fun q => absurd q (by decide), fun q => absurd h q⟩
  · rw [if_neg (fun q => h (key.mp q))]
    exact ⟨fun _ => h, fun _ => rfl⟩
def cpN (c b : Nat → Nat) : Nat → Nat := fun j => if j < 80 then c j else b j
theorem cpy_nI (c b : Nat → Nat) : va_cpy (fun j => nI (c j)) (fun j => nI (b j)) 0 0 80 = fun j => nI (cpN c b j) := by
  funext j
  by_cases h : j < 80
  · rw [pk_cpy_in (by omega) (by omega)]
    unfold cpN
    rw [if_pos h]
    simp
  · rw [pk_cpy_out (by omega)]
    unfold cpN
    rw [if_neg h]
theorem gd_nI {b : Nat → Nat} (hb : ∀ j, b j < 256) (s : Nat) {x : Nat} (hx : x < 256) : gdV (fun j => nI (b j)) s (nI x) = 0 ↔ ¬ (b 2 = x ∧ stN b s = 1) := by
  have h2 := hb 2
  have hst : stN b s < 4 := by unfold stN; split; decide; split; split; decide; decide; decide
  unfold gdV
  rw [stV_nI hb]
  have key : (nI (b 2) = nI x ∧ nI (stN b s) = 1) ↔ (b 2 = x ∧ stN b s = 1) := by
    constructor
    · rintro ⟨q1, q2⟩
      exact ⟨(nI_eq (by omega) (by omega)).mp q1, (nI_eq (b := 1) (by omega) (by omega)).mp q2⟩
    · rintro ⟨q1, q2⟩
      rw [q1, q2]; exact ⟨rfl, rfl⟩
  by_cases h : b 2 = x ∧ stN b s = 1
  · rw [if_pos (key.mpr h)]
    exact ⟨fun q => absurd q (by decide), fun q => absurd h q⟩
  · rw [if_neg (fun q => h (key.mp q))]
    exact ⟨fun _ => h, fun _ => rfl⟩
theorem stN_lt (b : Nat → Nat) (s : Nat) : stN b s < 4 := by unfold stN; split; decide; split; split; decide; decide; decide
theorem mn_aastN {E : mn_En} {M : mn_M} {d w nc ns pc a ci : Nat} {ls : List (Nat × Value)} {st : List Value} {g : mn_H} {Q : Option Value → mn_H → Prop} {t n y j : Nat} {r : vw_C} {f : Nat → Option Nat} {vs : List Value} (hat : mn_at g a (.inl (t, n, .inr (.inr (.inr (.inr f)))))) (hc : vwCl[ci]? = some r) (ht : mn_T[t]? = some (.object r.1)) (hav : mn_at g y (.inr (ci, vs))) (hj : j < n) (hn : n < 2 ^ 31) (hdg : decode M.2.1 pc = .ok (.aastore, 1)) (k : mn_R E M d w nc ns (pc + 1) ls st (mn_set g a (.inl (t, n, .inr (.inr (.inr (.inr (va_up f j (some y)))))))) Q) : mn_R E M d w nc ns pc ls (.ref y :: .int (nI j) :: .ref a :: st) g Q :=
  mn_aast hat hc ht hav (vp_in_nI hj hn) hdg (by rw [nI_clamp (by omega)]; exact k)
def swp {α : Type} (f : Nat → α) (a b : Nat) : Nat → α := fun k => if k = b then f a else if k = a then f b else f k
theorem sl_swp {z a b : Nat} {pi : Nat → Nat} (ha : a < 60) (hb : b < 60) : va_up (va_up (sl_q z pi) a (some (z + 2 + 2 * pi b))) b (some (z + 2 + 2 * pi a)) = sl_q z (swp pi a b) := by
  funext k
  unfold va_up sl_q swp
  by_cases h1 : k = b
  · rw [if_pos h1, if_pos (by omega), if_pos h1]
  · rw [if_neg h1, if_neg h1]
    by_cases h2 : k = a
    · rw [if_pos h2, if_pos (by omega), if_pos h2]
    · rw [if_neg h2, if_neg h2]
theorem SlP_swp {g g' : mn_H} {z a b : Nat} {pi ss : Nat → Nat} {sb : Nat → Nat → Nat} (h : SlP g z pi ss sb) (ha : a < 60) (hb : b < 60) (hf : mn_fr (fun q => q = z + 1) g g') (hr : mn_at g' (z + 1) (.inl (1, 60, .inr (.inr (.inr (.inr (va_up (va_up (sl_q z pi) a (some (z + 2 + 2 * pi b))) b (some (z + 2 + 2 * pi a))))))))) : SlP g' z (swp pi a b) (swp ss a b) (swp sb a b) := by
  obtain ⟨hz, hzr, hv, hpi, hpj, hss, hsb⟩ := h
  rw [sl_swp ha hb] at hr
  have hv' : ∀ k, k < 60 → mn_at g' (z + 2 + 2 * pi k) (.inr (8, [.ref (z + 2 + 2 * pi k + 1), .int (nI (ss k))])) ∧ mn_at g' (z + 2 + 2 * pi k + 1) (.inl (0, 80, .inl (fun j => nI (sb k j)))) := fun k hk =>
    ⟨(hv k hk).1.fr hf (fun h => by have h9 : z + 2 + 2 * pi k = z + 1 := h; omega), (hv k hk).2.fr hf (fun h => by have h9 : z + 2 + 2 * pi k + 1 = z + 1 := h; omega)⟩
  refine ⟨hz.fr hf (fun h => by have h9 : z = z + 1 := h; omega), hr, fun k hk => ?_, fun k hk => ?_, fun x y hx hy hxy => ?_, fun k => ?_, fun k j => ?_⟩
  · unfold swp
    by_cases h1 : k = b
    · rw [if_pos h1, if_pos h1, if_pos h1]; exact hv' a ha
    · rw [if_neg h1, if_neg h1, if_neg h1]
      by_cases h2 : k = a
      · rw [if_pos h2, if_pos h2, if_pos h2]; exact hv' b hb
      · rw [if_neg h2, if_neg h2, if_neg h2]; exact hv' k hk
  · unfold swp
    split
    · exact hpi a ha
    · split
      · exact hpi b hb
      · exact hpi k hk
  · unfold swp at hxy
    have key : ∀ u v, u < 60 → v < 60 → pi u = pi v → u = v := hpj
    by_cases x1 : x = b
    · rw [if_pos x1] at hxy
      by_cases y1 : y = b
      · omega
      · rw [if_neg y1] at hxy
        by_cases y2 : y = a
        · rw [if_pos y2] at hxy
          have := key a b ha hb hxy
          omega
        · rw [if_neg y2] at hxy
          have := key a y ha hy hxy
          omega
    · rw [if_neg x1] at hxy
      by_cases x2 : x = a
      · rw [if_pos x2] at hxy
        by_cases y1 : y = b
        · rw [if_pos y1] at hxy
          have := key b a hb ha hxy
          omega
        · rw [if_neg y1] at hxy
          by_cases y2 : y = a
          · omega
          · rw [if_neg y2] at hxy
            have := key b y hb hy hxy
            omega
      · rw [if_neg x2] at hxy
        by_cases y1 : y = b
        · rw [if_pos y1] at hxy
          have := key x a hx ha hxy
          omega
        · rw [if_neg y1] at hxy
          by_cases y2 : y = a
          · rw [if_pos y2] at hxy
            have := key x b hx hb hxy
            omega
          · rw [if_neg y2] at hxy
            exact key x y hx hy hxy
  · unfold swp
    split
    · exact hss a
    · split
      · exact hss b
      · exact hss k
  · unfold swp
    split
    · exact hsb a j
    · split
      · exact hsb b j
      · exact hsb k j
theorem cpN_lt {c b : Nat → Nat} (hc : ∀ j, c j < 256) (hb : ∀ j, b j < 256) : ∀ j, cpN c b j < 256 := by
  intro j
  unfold cpN
  split
  · exact hc j
  · exact hb j
/-- slot k changes -/
theorem SlP_put {g g' : mn_H} {z k t : Nat} {pi ss : Nat → Nat} {sb : Nat → Nat → Nat} {c : Nat → Nat} (h : SlP g z pi ss sb) (hk : k < 60) (ht : t ≤ 80) (hc : ∀ j, c j < 256) (hf : mn_fr (fun q => q = z + 2 + 2 * pi k ∨ q = z + 2 + 2 * pi k + 1) g g') (h1 : mn_at g' (z + 2 + 2 * pi k) (.inr (8, [.ref (z + 2 + 2 * pi k + 1), .int (nI t)]))) (h2 : mn_at g' (z + 2 + 2 * pi k + 1) (.inl (0, 80, .inl (fun j => nI (c j))))) : SlP g' z pi (va_up ss k t) (va_up sb k c) := by
  obtain ⟨hz, hzr, hv, hpi, hpj, hss, hsb⟩ := h
  refine ⟨hz.fr hf (fun h => by have h9 : z = z + 2 + 2 * pi k ∨ z = z + 2 + 2 * pi k + 1 := h; omega), hzr.fr hf (fun h => by have h9 : z + 1 = z + 2 + 2 * pi k ∨ z + 1 = z + 2 + 2 * pi k + 1 := h; omega), fun i hi => ?_, hpi, hpj, fun i => ?_, fun i j => ?_⟩
  · by_cases hik : i = k
    · subst hik
      rw [va_up_s, va_up_s]
      exact ⟨h1, h2⟩
    · rw [va_up_n _ _ hik, va_up_n _ _ hik]
      have hne : pi i ≠ pi k := fun q => hik (hpj i k hi hk q)
      exact ⟨(hv i hi).1.fr hf (fun h => by have h9 : z + 2 + 2 * pi i = z + 2 + 2 * pi k ∨ z + 2 + 2 * pi i = z + 2 + 2 * pi k + 1 := h; omega), (hv i hi).2.fr hf (fun h => by have h9 : z + 2 + 2 * pi i + 1 = z + 2 + 2 * pi k ∨ z + 2 + 2 * pi i + 1 = z + 2 + 2 * pi k + 1 := h; omega)⟩
  · by_cases hik : i = k
    · subst hik; rw [va_up_s]; exact ht
    · rw [va_up_n _ _ hik]; exact hss i
  · by_cases hik : i = k
    · subst hik; rw [va_up_s]; exact hc j
    · rw [va_up_n _ _ hik]; exact hsb i j
/-- the slots stay where nothing of them changes -/
theorem SlP.fr {g g' : mn_H} {z : Nat} {pi ss : Nat → Nat} {sb : Nat → Nat → Nat} {S : Nat → Prop} (h : SlP g z pi ss sb) (hf : mn_fr S g g') (hs : ∀ q, z ≤ q → q < z + 122 → ¬ S q) : SlP g' z pi ss sb := by
  obtain ⟨hz, hzr, hv, hpi, hpj, hss, hsb⟩ := h
  refine ⟨hz.fr hf (hs _ (by omega) (by omega)), hzr.fr hf (hs _ (by omega) (by omega)), fun k hk => ?_, hpi, hpj, hss, hsb⟩
  have := hpi k hk
  exact ⟨(hv k hk).1.fr hf (hs _ (by omega) (by omega)), (hv k hk).2.fr hf (hs _ (by omega) (by omega))⟩
end
section
def mkV (pb ln sn : Nat → Nat) (w m n j : Nat) : Nat := if n < m then ptN pb ln sn w n j else horN (fun k => ptN pb ln sn w k j) (n - m) m m
theorem mkV_lt {pb ln sn : Nat → Nat} (hp : ∀ j, pb j < 256) (hl : ∀ j, ln j < 256) (hs : ∀ j, sn j < 256) (w m n j : Nat) : mkV pb ln sn w m n j < 256 := by
  unfold mkV
  split
  · exact ptN_lt hp hl hs w n j
  · exact (hor_nI (fun k => ptN_lt hp hl hs w k j) (n - m) m m).2
def mkL (b V : Nat → Nat) (i : Nat) : Nat → Nat := fun j => if 6 ≤ j ∧ j < i then V j else b j
theorem mkL_6 (b V : Nat → Nat) : mkL b V 6 = b := by funext j; unfold mkL; rw [if_neg (by omega)]
theorem mkL_s (b V : Nat → Nat) {i : Nat} (hi : 6 ≤ i) : va_up (mkL b V i) i (V i) = mkL b V (i + 1) := by
  funext j
  unfold va_up mkL
  by_cases h : j = i
  · rw [if_pos h, if_pos (by omega), h]
  · rw [if_neg h]
    by_cases h2 : 6 ≤ j ∧ j < i
    · rw [if_pos h2, if_pos (by omega)]
    · rw [if_neg h2, if_neg (by omega)]
theorem mkL_lt {b V : Nat → Nat} (hb : ∀ j, b j < 256) (hV : ∀ j, V j < 256) (i : Nat) : ∀ j, mkL b V i j < 256 := by
  intro j
  unfold mkL
  split
  · exact hV j
  · exact hb j
/-- the first six bytes of a head -/
def hd6 (c : Nat → Nat) (st n m rp : Nat) : Nat → Nat := va_up (va_up (va_up (va_up (va_up (va_up c 0 86) 1 83) 2 st) 3 n) 4 m) 5 rp
theorem hd6_lt {c : Nat → Nat} (hc : ∀ j, c j < 256) {st n m rp : Nat} (h1 : st < 256) (h2 : n < 256) (h3 : m < 256) (h4 : rp < 256) : ∀ j, hd6 c st n m rp j < 256 := va_up_lt (va_up_lt (va_up_lt (va_up_lt (va_up_lt (va_up_lt hc (by decide)) (by decide)) h1) h2) h3) h4
/-- volume n -/
def vlN (c pb ln sn : Nat → Nat) (w m n st rp sz : Nat) : Nat → Nat := sealN (mkL (hd6 c st n m rp) (mkV pb ln sn w m n) sz) sz
theorem vlN_lt {c pb ln sn : Nat → Nat} (hc : ∀ j, c j < 256) (hp : ∀ j, pb j < 256) (hl : ∀ j, ln j < 256) (hs : ∀ j, sn j < 256) {w m n st rp sz : Nat} (h1 : st < 256) (h2 : n < 256) (h3 : m < 256) (h4 : rp < 256) : ∀ j, vlN c pb ln sn w m n st rp sz j < 256 := sealN_lt (mkL_lt (hd6_lt hc h1 h2 h3 h4) (mkV_lt hp hl hs w m n) sz) sz
end
section
set_option maxRecDepth 100000 in
theorem c_twice {E : mn_En} {g : mn_H} {x : Int32} : mn_R E MBy_twice 0 0 0 0 0 [(0, .int x)] [] g (mn_is (some (.int (tw x))) g) := by
  refine mn_iload_n 0 dBy_twice_0 rfl rfl ?_
  refine mn_iconst (v := 1) dBy_twice_1 (by decide) ?_
  refine mn_ishl (z := x <<< (1 &&& 31)) dBy_twice_2 rfl ?_
  refine mn_istore_n (ls' := [(0, .int x), (1, .int (x <<< (1 &&& 31)))]) dBy_twice_3 rfl (by decide) rfl ?_
  refine mn_iload_n 1 dBy_twice_4 rfl rfl ?_
  refine mn_sipush (v := 255) dBy_twice_5 (by decide) ?_
  refine mn_icmp_le 19 dBy_twice_8 (by decide) (fun c1 => ?_) (fun c1 => ?_)
  · refine mn_iload_n 1 dBy_twice_19 rfl rfl ?_
    exact mn_iret rfl dBy_twice_20 ⟨by unfold tw; first | rw [if_pos c1] | rw [if_neg c1], rfl⟩
  · refine mn_iload_n 1 dBy_twice_11 rfl rfl ?_
    refine mn_sipush (v := 285) dBy_twice_12 (by decide) ?_
    refine mn_ixor (z := (x <<< (1 &&& 31)) ^^^ 285) dBy_twice_15 rfl ?_
    refine mn_goto 20 dBy_twice_16 (by decide) ?_
    exact mn_iret rfl dBy_twice_20 ⟨by unfold tw; first | rw [if_pos c1] | rw [if_neg c1], rfl⟩
set_option maxRecDepth 100000 in
theorem c_sum_l {E : mn_En} {g : mn_H} {r n a b : Nat} {f : Nat → Int32} (hr : mn_at g r (.inl (0, n, .inl f))) (hb : b ≤ n) (hn : n < 2 ^ 31) : ∀ (fl i : Nat), a ≤ i → i ≤ b → b - i < fl → mn_R E MBy_sum 1 21 0 0 11 [(0, .ref r), (1, .int (nI a)), (2, .int (nI b)), (3, .int (su f a (i - a))), (4, .int (nI i))] [] g (mn_is (some (.int (su f a (b - a)))) g) := by
  intro fl
  induction fl with
  | zero => intro i h1 h2 h3; exact absurd h3 (by omega)
  | succ fl ih =>
    intro i h1 h2 h3
    refine mn_iload 4 dBy_sum_11 rfl ?_
    refine mn_iload_n 2 dBy_sum_13 rfl rfl ?_
    refine mn_icmp_ge 43 dBy_sum_14 (by decide) (fun c1 => ?_) (fun c1 => ?_)
    · have c1 := (nI_leI (a := b) (b := i) (by omega) (by omega)).mp c1
      refine mn_iload_n 3 dBy_sum_43 rfl rfl ?_
      exact mn_iret rfl dBy_sum_44 ⟨by rw [show i = b by omega], rfl⟩
    · have c1 := mt (nI_leI (a := b) (b := i) (by omega) (by omega)).mpr c1
      refine mn_iload 4 dBy_sum_17 rfl ?_
      refine mn_aload_n 0 dBy_sum_19 rfl rfl ?_
      refine mn_alen hr rfl dBy_sum_20 ?_
      refine mn_icmp_ge 43 dBy_sum_21 (by decide) (fun c2 => ?_) (fun c2 => ?_)
      · have c2 := (nI_leI (a := n) (b := i) (by omega) (by omega)).mp c2
        refine mn_iload_n 3 dBy_sum_43 rfl rfl ?_
        exact mn_iret rfl dBy_sum_44 ⟨by rw [show i = b by omega], rfl⟩
      · have c2 := mt (nI_leI (a := n) (b := i) (by omega) (by omega)).mpr c2
        refine mn_bipush (v := 33) dBy_sum_24 (by decide) ?_
        refine mn_iload_n 3 dBy_sum_26 rfl rfl ?_
        refine mn_imul (z := 33 * (su f a (i - a))) dBy_sum_27 rfl ?_
        refine mn_aload_n 0 dBy_sum_28 rfl rfl ?_
        refine mn_iload 4 dBy_sum_29 rfl ?_
        refine mn_ialdN (j := i) hr rfl (by omega) (by omega) dBy_sum_31 ?_
        refine mn_ixor (z := (33 * (su f a (i - a))) ^^^ (f i)) dBy_sum_32 rfl ?_
        refine mn_ldc (v := 65535) dBy_sum_33 lBy_13 ?_
        refine mn_iand (z := ((33 * (su f a (i - a))) ^^^ (f i)) &&& 65535) dBy_sum_35 rfl ?_
        refine mn_istore_n (ls' := [(0, .ref r), (1, .int (nI a)), (2, .int (nI b)), (3, .int (((33 * (su f a (i - a))) ^^^ (f i)) &&& 65535)), (4, .int (nI i))]) dBy_sum_36 rfl (by decide) rfl ?_
        refine mn_iinc (v := nI (i + 1)) (ls' := [(0, .ref r), (1, .int (nI a)), (2, .int (nI b)), (3, .int (((33 * (su f a (i - a))) ^^^ (f i)) &&& 65535)), (4, .int (nI (i + 1)))]) 4 dBy_sum_37 rfl (nI_add i 1) (by decide) rfl ?_
        refine mn_goto 11 dBy_sum_40 (by decide) ?_
        rw [show (((33 * (su f a (i - a))) ^^^ (f i)) &&& 65535) = su f a (i + 1 - a) by rw [show i + 1 - a = (i - a) + 1 by omega]; show _ = ((33 * su f a (i - a)) ^^^ f (a + (i - a))) &&& 65535; rw [show a + (i - a) = i by omega]]
        exact ih (i + 1) (by omega) (by omega) (by omega)
set_option maxRecDepth 100000 in
theorem c_sum {E : mn_En} {g : mn_H} {r n a b : Nat} {f : Nat → Int32} (hr : mn_at g r (.inl (0, n, .inl f))) (hb : b ≤ n) (hn : n < 2 ^ 31) (hab : a ≤ b) : mn_R E MBy_sum 1 21 0 0 0 [(0, .ref r), (1, .int (nI a)), (2, .int (nI b))] [] g (mn_is (some (.int (su f a (b - a)))) g) := by
  refine mn_sipush (v := 5381) dBy_sum_0 (by decide) ?_
  refine mn_istore_n (ls' := [(0, .ref r), (1, .int (nI a)), (2, .int (nI b)), (3, .int 5381)]) dBy_sum_3 rfl (by decide) rfl ?_
  refine mn_iconst (v := 0) dBy_sum_4 (by decide) ?_
  refine mn_iload_n 1 dBy_sum_5 rfl rfl ?_
  refine mn_max (z := nI a) (mn_max0 (by omega)) lBy_7 max_st math_ini max_code (Nat.le_of_ble_eq_true rfl) (by decide) (by decide) dBy_sum_6 ?_
  refine mn_istore (ls' := [(0, .ref r), (1, .int (nI a)), (2, .int (nI b)), (3, .int 5381), (4, .int (nI a))]) dBy_sum_9 (by decide) rfl ?_
  rw [show (5381 : Int32) = su f a (a - a) by rw [Nat.sub_self]; rfl]
  exact c_sum_l hr hb hn (b - a + 1) a (by omega) hab (by omega)
set_option maxRecDepth 100000 in
theorem c_product_l {E : mn_En} {g : mn_H} {x b : Int32} : ∀ (fl i : Nat), i ≤ 8 → 8 - i < fl → mn_R E MBy_product 1 21 0 0 7 [(0, .int x), (1, .int b), (2, .int (pds x b i)), (3, .int (tws x i)), (4, .int (nI i))] [] g (mn_is (some (.int (pds x b 8))) g) := by
  intro fl
  induction fl with
  | zero => intro i h1 h2; exact absurd h2 (by omega)
  | succ fl ih =>
    intro i h1 h2
    refine mn_iload 4 dBy_product_7 rfl ?_
    refine mn_bipush (v := 8) dBy_product_9 (by decide) ?_
    refine mn_icmp_ge 38 dBy_product_11 (by decide) (fun c1 => ?_) (fun c1 => ?_)
    · have c1 := (nI_leI (a := 8) (b := i) (by omega) (by omega)).mp c1
      refine mn_iload_n 2 dBy_product_38 rfl rfl ?_
      exact mn_iret rfl dBy_product_39 ⟨by rw [show i = 8 by omega], rfl⟩
    · have c1 := mt (nI_leI (a := 8) (b := i) (by omega) (by omega)).mpr c1
      refine mn_iload_n 1 dBy_product_14 rfl rfl ?_
      refine mn_iload 4 dBy_product_15 rfl ?_
      refine mn_iushr (z := (Int32.toUInt32 b >>> (Int32.toUInt32 (nI i) &&& Int32.toUInt32 31)).toInt32) dBy_product_17 rfl ?_
      refine mn_iconst (v := 1) dBy_product_18 (by decide) ?_
      refine mn_iand (z := ((Int32.toUInt32 b >>> (Int32.toUInt32 (nI i) &&& Int32.toUInt32 31)).toInt32) &&& 1) dBy_product_19 rfl ?_
      refine mn_if_eq 27 dBy_product_20 (by decide) (fun c2 => ?_) (fun c2 => ?_)
      · refine mn_iload_n 3 dBy_product_27 rfl rfl ?_
        refine mn_cS (As := [.int (tws x i)]) (stk' := [.int (tw (tws x i))]) okBy_twice lBy_16 dBy_product_28 rfl rfl (Nat.le_of_ble_eq_true rfl) (Nat.le_of_ble_eq_true rfl) (by decide) (c_twice) rfl ?_
        refine mn_istore_n (ls' := [(0, .int x), (1, .int b), (2, .int (pds x b i)), (3, .int (tw (tws x i))), (4, .int (nI i))]) dBy_product_31 rfl (by decide) rfl ?_
        refine mn_iinc (v := nI (i + 1)) (ls' := [(0, .int x), (1, .int b), (2, .int (pds x b i)), (3, .int (tw (tws x i))), (4, .int (nI (i + 1)))]) 4 dBy_product_32 rfl (nI_add i 1) (by decide) rfl ?_
        refine mn_goto 7 dBy_product_35 (by decide) ?_
        rw [show pds x b i = pds x b (i + 1) by show _ = (if vb_t b i = 0 then pds x b i else pds x b i ^^^ tws x i); first | exact (if_pos c2).symm | exact (if_neg c2).symm]
        exact ih (i + 1) (by omega) (by omega)
      · refine mn_iload_n 2 dBy_product_23 rfl rfl ?_
        refine mn_iload_n 3 dBy_product_24 rfl rfl ?_
        refine mn_ixor (z := (pds x b i) ^^^ (tws x i)) dBy_product_25 rfl ?_
        refine mn_istore_n (ls' := [(0, .int x), (1, .int b), (2, .int ((pds x b i) ^^^ (tws x i))), (3, .int (tws x i)), (4, .int (nI i))]) dBy_product_26 rfl (by decide) rfl ?_
        refine mn_iload_n 3 dBy_product_27 rfl rfl ?_
        refine mn_cS (As := [.int (tws x i)]) (stk' := [.int (tw (tws x i))]) okBy_twice lBy_16 dBy_product_28 rfl rfl (Nat.le_of_ble_eq_true rfl) (Nat.le_of_ble_eq_true rfl) (by decide) (c_twice) rfl ?_
        refine mn_istore_n (ls' := [(0, .int x), (1, .int b), (2, .int ((pds x b i) ^^^ (tws x i))), (3, .int (tw (tws x i))), (4, .int (nI i))]) dBy_product_31 rfl (by decide) rfl ?_
        refine mn_iinc (v := nI (i + 1)) (ls' := [(0, .int x), (1, .int b), (2, .int ((pds x b i) ^^^ (tws x i))), (3, .int (tw (tws x i))), (4, .int (nI (i + 1)))]) 4 dBy_product_32 rfl (nI_add i 1) (by decide) rfl ?_
        refine mn_goto 7 dBy_product_35 (by decide) ?_
        rw [show (pds x b i) ^^^ (tws x i) = pds x b (i + 1) by show _ = (if vb_t b i = 0 then pds x b i else pds x b i ^^^ tws x i); first | exact (if_pos c2).symm | exact (if_neg c2).symm]
        exact ih (i + 1) (by omega) (by omega)
set_option maxRecDepth 100000 in
theorem c_product {E : mn_En} {g : mn_H} {x b : Int32} : mn_R E MBy_product 1 21 0 0 0 [(0, .int x), (1, .int b)] [] g (mn_is (some (.int (pds x b 8))) g) := by
  refine mn_iconst (v := 0) dBy_product_0 (by decide) ?_
  refine mn_istore_n (ls' := [(0, .int x), (1, .int b), (2, .int 0)]) dBy_product_1 rfl (by decide) rfl ?_
  refine mn_iload_n 0 dBy_product_2 rfl rfl ?_
  refine mn_istore_n (ls' := [(0, .int x), (1, .int b), (2, .int 0), (3, .int x)]) dBy_product_3 rfl (by decide) rfl ?_
  refine mn_iconst (v := 0) dBy_product_4 (by decide) ?_
  refine mn_istore (ls' := [(0, .int x), (1, .int b), (2, .int 0), (3, .int x), (4, .int 0)]) dBy_product_5 (by decide) rfl ?_
  exact c_product_l 9 0 (by omega) (by omega)
set_option maxRecDepth 100000 in
theorem c_raised_l {E : mn_En} {g : mn_H} {x : Int32} {n : Nat} (hn : n < 2 ^ 31) : ∀ (fl i : Nat), i ≤ n → n - i < fl → mn_R E MBy_raised 1 21 0 0 4 [(0, .int x), (1, .int (nI n)), (2, .int (tws x i)), (3, .int (nI i))] [] g (mn_is (some (.int (tws x n))) g) := by
  intro fl
  induction fl with
  | zero => intro i h1 h2; exact absurd h2 (by omega)
  | succ fl ih =>
    intro i h1 h2
    refine mn_iload_n 3 dBy_raised_4 rfl rfl ?_
    refine mn_iload_n 1 dBy_raised_5 rfl rfl ?_
    refine mn_icmp_ge 20 dBy_raised_6 (by decide) (fun c1 => ?_) (fun c1 => ?_)
    · have c1 := (nI_leI (a := n) (b := i) (by omega) (by omega)).mp c1
      refine mn_iload_n 2 dBy_raised_20 rfl rfl ?_
      exact mn_iret rfl dBy_raised_21 ⟨by rw [show i = n by omega], rfl⟩
    · have c1 := mt (nI_leI (a := n) (b := i) (by omega) (by omega)).mpr c1
      refine mn_iload_n 2 dBy_raised_9 rfl rfl ?_
      refine mn_cS (As := [.int (tws x i)]) (stk' := [.int (tw (tws x i))]) okBy_twice lBy_16 dBy_raised_10 rfl rfl (Nat.le_of_ble_eq_true rfl) (Nat.le_of_ble_eq_true rfl) (by decide) (c_twice) rfl ?_
      refine mn_istore_n (ls' := [(0, .int x), (1, .int (nI n)), (2, .int (tw (tws x i))), (3, .int (nI i))]) dBy_raised_13 rfl (by decide) rfl ?_
      refine mn_iinc (v := nI (i + 1)) (ls' := [(0, .int x), (1, .int (nI n)), (2, .int (tw (tws x i))), (3, .int (nI (i + 1)))]) 3 dBy_raised_14 rfl (nI_add i 1) (by decide) rfl ?_
      refine mn_goto 4 dBy_raised_17 (by decide) ?_
      exact ih (i + 1) (by omega) (by omega)
set_option maxRecDepth 100000 in
theorem c_raised {E : mn_En} {g : mn_H} {x : Int32} {n : Nat} (hn : n < 2 ^ 31) : mn_R E MBy_raised 1 21 0 0 0 [(0, .int x), (1, .int (nI n))] [] g (mn_is (some (.int (tws x n))) g) := by
  refine mn_iload_n 0 dBy_raised_0 rfl rfl ?_
  refine mn_istore_n (ls' := [(0, .int x), (1, .int (nI n)), (2, .int x)]) dBy_raised_1 rfl (by decide) rfl ?_
  refine mn_iconst (v := 0) dBy_raised_2 (by decide) ?_
  refine mn_istore_n (ls' := [(0, .int x), (1, .int (nI n)), (2, .int x), (3, .int 0)]) dBy_raised_3 rfl (by decide) rfl ?_
  exact c_raised_l hn (n + 1) 0 (by omega) (by omega)
set_option maxRecDepth 100000 in
theorem c_quotient {E : mn_En} {g : mn_H} {x y : Nat} (hx : x < 2 ^ 31) (hy : y < 2 ^ 31) : mn_R E MBy_quotient 0 0 0 0 0 [(0, .int (nI x)), (1, .int (nI y))] [] g (mn_is (some (.int (nI (x / y)))) g) := by
  refine mn_iload_n 1 dBy_quotient_0 rfl rfl ?_
  refine mn_if_gt 8 dBy_quotient_1 (by decide) (fun c1 => ?_) (fun c1 => ?_)
  · have c1 := (nI_ltI (a := 0) (b := y) (by omega) (by omega)).mp c1
    refine mn_iload_n 0 dBy_quotient_8 rfl rfl ?_
    refine mn_iload_n 1 dBy_quotient_9 rfl rfl ?_
    refine mn_idiv (z := nI (x / y)) dBy_quotient_10 (nI_ne0 (by omega) (by omega)) (pk_div (by omega) (by omega) (by omega)) ?_
    exact mn_iret rfl dBy_quotient_11 ⟨rfl, rfl⟩
  · have c1 := mt (nI_ltI (a := 0) (b := y) (by omega) (by omega)).mpr c1
    refine mn_iconst (v := 0) dBy_quotient_4 (by decide) ?_
    refine mn_goto 11 dBy_quotient_5 (by decide) ?_
    exact mn_iret rfl dBy_quotient_11 ⟨by rw [show y = 0 by omega, Nat.div_zero]; rfl, rfl⟩
end
section
set_option maxRecDepth 100000 in
theorem c_V_byteAt {E : mn_En} {g : mn_H} {a r s : Nat} {f : Nat → Int32} (ha : mn_at g a (.inr (8, [.ref r, .int (nI s)]))) (hr : mn_at g r (.inl (0, 80, .inl f))) {j : Nat} (hj : j < 80) : mn_R E MVo_byteAt 0 0 0 0 0 [(0, .ref a), (1, .int (nI j))] [] g (mn_is (some (.int (f j))) g) := by
  refine mn_iload_n 1 dVo_byteAt_0 rfl rfl ?_
  refine mn_if_lt 10 dVo_byteAt_1 (by decide) (fun c1 => ?_) (fun c1 => ?_)
  · exact absurd c1 (nI_pos (by omega))
  · refine mn_iload_n 1 dVo_byteAt_4 rfl rfl ?_
    refine mn_bipush (v := 80) dVo_byteAt_5 (by decide) ?_
    refine mn_icmp_lt 14 dVo_byteAt_7 (by decide) (fun c2 => ?_) (fun c2 => ?_)
    · have c2 := (nI_ltI (a := j) (b := 80) (by omega) (by omega)).mp c2
      refine mn_aload_n 0 dVo_byteAt_14 rfl rfl ?_
      refine mn_get okVo 0 lVo_9 (by decide) ha rfl dVo_byteAt_15 ?_
      refine mn_iload_n 1 dVo_byteAt_18 rfl rfl ?_
      refine mn_ialdN (j := j) hr rfl (by omega) (by omega) dVo_byteAt_19 ?_
      exact mn_iret rfl dVo_byteAt_20 ⟨rfl, rfl⟩
    · have c2 := mt (nI_ltI (a := j) (b := 80) (by omega) (by omega)).mpr c2
      refine mn_iconst (v := 0) dVo_byteAt_10 (by decide) ?_
      refine mn_goto 20 dVo_byteAt_11 (by decide) ?_
      exact mn_iret rfl dVo_byteAt_20 (absurd hj (by omega))
set_option maxRecDepth 100000 in
theorem c_V_put {E : mn_En} {g : mn_H} {a r s : Nat} {f : Nat → Int32} (ha : mn_at g a (.inr (8, [.ref r, .int (nI s)]))) (hr : mn_at g r (.inl (0, 80, .inl f))) {j : Nat} (hj : j < 80) {x : Int32} : mn_R E MVo_put 0 0 0 0 0 [(0, .ref a), (1, .int (nI j)), (2, .int x)] [] g (mn_is none (mn_set g r (.inl (0, 80, .inl (upd f j x))))) := by
  refine mn_iload_n 1 dVo_put_0 rfl rfl ?_
  refine mn_if_lt 17 dVo_put_1 (by decide) (fun c1 => ?_) (fun c1 => ?_)
  · exact absurd c1 (nI_pos (by omega))
  · refine mn_iload_n 1 dVo_put_4 rfl rfl ?_
    refine mn_bipush (v := 80) dVo_put_5 (by decide) ?_
    refine mn_icmp_ge 17 dVo_put_7 (by decide) (fun c2 => ?_) (fun c2 => ?_)
    · have c2 := (nI_leI (a := 80) (b := j) (by omega) (by omega)).mp c2
      exact mn_vret rfl dVo_put_17 (absurd hj (by omega))
    · have c2 := mt (nI_leI (a := 80) (b := j) (by omega) (by omega)).mpr c2
      refine mn_aload_n 0 dVo_put_10 rfl rfl ?_
      refine mn_get okVo 0 lVo_9 (by decide) ha rfl dVo_put_11 ?_
      refine mn_iload_n 1 dVo_put_14 rfl rfl ?_
      refine mn_iload_n 2 dVo_put_15 rfl rfl ?_
      refine mn_iastN (j := j) hr rfl (by omega) (by omega) dVo_put_16 ?_
      obtain ⟨g3, eg3⟩ : ∃ gg_, gg_ = mn_set g r (.inl (0, 80, .inl (upd f j x))) := ⟨_, rfl⟩
      refine mn_R.toG eg3 ?_
      have ha_g3 : mn_at g3 a (.inr (8, [.ref r, .int (nI s)])) := by rw [eg3]; exact ha.off (mn_at.ne ha hr (fun h => by cases h))
      have hr_g3 : mn_at g3 r (.inl (0, 80, .inl (upd f j x))) := by rw [eg3]; exact hr.same
      exact mn_vret rfl dVo_put_17 ⟨rfl, eg3⟩
set_option maxRecDepth 100000 in
theorem c_V_putSum {E : mn_En} {g : mn_H} {a r s : Nat} {f : Nat → Int32} (ha : mn_at g a (.inr (8, [.ref r, .int (nI s)]))) (hr : mn_at g r (.inl (0, 80, .inl f))) {j : Nat} (hj : j + 1 < 80) {x : Int32} : mn_R E MVo_putSum 1 22 0 0 0 [(0, .ref a), (1, .int (nI j)), (2, .int x)] [] g (mn_is none (mn_set g r (.inl (0, 80, .inl (ps f j x))))) := by
  refine mn_aload_n 0 dVo_putSum_0 rfl rfl ?_
  refine mn_iload_n 1 dVo_putSum_1 rfl rfl ?_
  refine mn_iload_n 2 dVo_putSum_2 rfl rfl ?_
  refine mn_sipush (v := 255) dVo_putSum_3 (by decide) ?_
  refine mn_iand (z := x &&& 255) dVo_putSum_6 rfl ?_
  refine mn_cV (As := [.int (nI j), .int (x &&& 255)]) (stk' := []) okVo_put lVo_15 dVo_putSum_7 ha rfl rfl rfl rfl (Nat.le_of_ble_eq_true rfl) (Nat.le_of_ble_eq_true rfl) (by decide) (c_V_put ha hr (j := j) (by omega)) rfl ?_
  obtain ⟨g1, eg1⟩ : ∃ gg_, gg_ = mn_set g r (.inl (0, 80, .inl (upd f j (x &&& 255)))) := ⟨_, rfl⟩
  refine mn_R.toG eg1 ?_
  have ha_g1 : mn_at g1 a (.inr (8, [.ref r, .int (nI s)])) := by rw [eg1]; exact ha.off (mn_at.ne ha hr (fun h => by cases h))
  have hr_g1 : mn_at g1 r (.inl (0, 80, .inl (upd f j (x &&& 255)))) := by rw [eg1]; exact hr.same
  refine mn_aload_n 0 dVo_putSum_10 rfl rfl ?_
  refine mn_iload_n 1 dVo_putSum_11 rfl rfl ?_
  refine mn_iconst (v := 1) dVo_putSum_12 (by decide) ?_
  refine mn_iadd (z := nI (j + 1)) dVo_putSum_13 (nI_add j 1) ?_
  refine mn_iload_n 2 dVo_putSum_14 rfl rfl ?_
  refine mn_bipush (v := 8) dVo_putSum_15 (by decide) ?_
  refine mn_iushr (z := (Int32.toUInt32 x >>> (Int32.toUInt32 8 &&& Int32.toUInt32 31)).toInt32) dVo_putSum_17 rfl ?_
  refine mn_cV (As := [.int (nI (j + 1)), .int ((Int32.toUInt32 x >>> (Int32.toUInt32 8 &&& Int32.toUInt32 31)).toInt32)]) (stk' := []) okVo_put lVo_15 dVo_putSum_18 ha_g1 rfl rfl rfl rfl (Nat.le_of_ble_eq_true rfl) (Nat.le_of_ble_eq_true rfl) (by decide) (c_V_put ha_g1 hr_g1 (j := j + 1) (by omega)) rfl ?_
  obtain ⟨g2, eg2⟩ : ∃ gg_, gg_ = mn_set g1 r (.inl (0, 80, .inl (upd (upd f j (x &&& 255)) (j + 1) ((Int32.toUInt32 x >>> (Int32.toUInt32 8 &&& Int32.toUInt32 31)).toInt32)))) := ⟨_, rfl⟩
  refine mn_R.toG eg2 ?_
  have ha_g2 : mn_at g2 a (.inr (8, [.ref r, .int (nI s)])) := by rw [eg2]; exact ha_g1.off (mn_at.ne ha_g1 hr_g1 (fun h => by cases h))
  have hr_g2 : mn_at g2 r (.inl (0, 80, .inl (upd (upd f j (x &&& 255)) (j + 1) ((Int32.toUInt32 x >>> (Int32.toUInt32 8 &&& Int32.toUInt32 31)).toInt32)))) := by rw [eg2]; exact hr_g1.same
  exact mn_vret rfl dVo_putSum_21 ⟨rfl, by rw [eg2, eg1, mn_set_set]; rfl⟩
set_option maxRecDepth 100000 in
theorem c_V_sumAt {E : mn_En} {g : mn_H} {a r s : Nat} {f : Nat → Int32} (ha : mn_at g a (.inr (8, [.ref r, .int (nI s)]))) (hr : mn_at g r (.inl (0, 80, .inl f))) {j : Nat} (hj : j + 1 < 80) : mn_R E MVo_sumAt 1 21 0 0 0 [(0, .ref a), (1, .int (nI j))] [] g (mn_is (some (.int (sa f j))) g) := by
  refine mn_aload_n 0 dVo_sumAt_0 rfl rfl ?_
  refine mn_iload_n 1 dVo_sumAt_1 rfl rfl ?_
  refine mn_cV (As := [.int (nI j)]) (stk' := [.int (f j)]) okVo_byteAt lVo_19 dVo_sumAt_2 ha rfl rfl rfl rfl (Nat.le_of_ble_eq_true rfl) (Nat.le_of_ble_eq_true rfl) (by decide) (c_V_byteAt ha hr (j := j) (by omega)) rfl ?_
  refine mn_aload_n 0 dVo_sumAt_5 rfl rfl ?_
  refine mn_iload_n 1 dVo_sumAt_6 rfl rfl ?_
  refine mn_iconst (v := 1) dVo_sumAt_7 (by decide) ?_
  refine mn_iadd (z := nI (j + 1)) dVo_sumAt_8 (nI_add j 1) ?_
  refine mn_cV (As := [.int (nI (j + 1))]) (stk' := [.int (f (j + 1)), .int (f j)]) okVo_byteAt lVo_19 dVo_sumAt_9 ha rfl rfl rfl rfl (Nat.le_of_ble_eq_true rfl) (Nat.le_of_ble_eq_true rfl) (by decide) (c_V_byteAt ha hr (j := j + 1) (by omega)) rfl ?_
  refine mn_bipush (v := 8) dVo_sumAt_12 (by decide) ?_
  refine mn_ishl (z := (f (j + 1)) <<< (8 &&& 31)) dVo_sumAt_14 rfl ?_
  refine mn_iadd (z := (f j) + ((f (j + 1)) <<< (8 &&& 31))) dVo_sumAt_15 rfl ?_
  exact mn_iret rfl dVo_sumAt_16 ⟨rfl, rfl⟩
set_option maxRecDepth 100000 in
theorem c_V_seal {E : mn_En} {g : mn_H} {a r s : Nat} {f : Nat → Int32} (ha : mn_at g a (.inr (8, [.ref r, .int (nI s)]))) (hr : mn_at g r (.inl (0, 80, .inl f))) (hs : 12 ≤ s) (hs2 : s ≤ 80) : mn_R E MVo_seal 2 45 0 0 0 [(0, .ref a)] [] g (mn_is none (mn_set g r (.inl (0, 80, .inl (sealF f s))))) := by
  refine mn_aload_n 0 dVo_seal_0 rfl rfl ?_
  refine mn_bipush (v := 8) dVo_seal_1 (by decide) ?_
  refine mn_aload_n 0 dVo_seal_3 rfl rfl ?_
  refine mn_get okVo 0 lVo_9 (by decide) ha rfl dVo_seal_4 ?_
  refine mn_bipush (v := 12) dVo_seal_7 (by decide) ?_
  refine mn_aload_n 0 dVo_seal_9 rfl rfl ?_
  refine mn_get okVo 1 lVo_23 (by decide) ha rfl dVo_seal_10 ?_
  refine mn_cS (As := [.ref r, .int 12, .int (nI s)]) (stk' := [.int (su f 12 (s - 12)), .int 8, .ref a]) okBy_sum lVo_27 dVo_seal_13 rfl rfl (Nat.le_of_ble_eq_true rfl) (Nat.le_of_ble_eq_true rfl) (by decide) (c_sum hr (a := 12) (b := s) (by omega) (by omega) (by omega)) rfl ?_
  refine mn_cV (As := [.int 8, .int (su f 12 (s - 12))]) (stk' := []) okVo_putSum lVo_33 dVo_seal_16 ha rfl rfl rfl rfl (Nat.le_of_ble_eq_true rfl) (Nat.le_of_ble_eq_true rfl) (by decide) (c_V_putSum ha hr (j := 8) (by omega)) rfl ?_
  obtain ⟨g1, eg1⟩ : ∃ gg_, gg_ = mn_set g r (.inl (0, 80, .inl (ps f 8 (su f 12 (s - 12))))) := ⟨_, rfl⟩
  refine mn_R.toG eg1 ?_
  have ha_g1 : mn_at g1 a (.inr (8, [.ref r, .int (nI s)])) := by rw [eg1]; exact ha.off (mn_at.ne ha hr (fun h => by cases h))
  have hr_g1 : mn_at g1 r (.inl (0, 80, .inl (ps f 8 (su f 12 (s - 12))))) := by rw [eg1]; exact hr.same
  refine mn_aload_n 0 dVo_seal_19 rfl rfl ?_
  refine mn_bipush (v := 10) dVo_seal_20 (by decide) ?_
  refine mn_aload_n 0 dVo_seal_22 rfl rfl ?_
  refine mn_get okVo 0 lVo_9 (by decide) ha_g1 rfl dVo_seal_23 ?_
  refine mn_iconst (v := 0) dVo_seal_26 (by decide) ?_
  refine mn_bipush (v := 10) dVo_seal_27 (by decide) ?_
  refine mn_cS (As := [.ref r, .int 0, .int 10]) (stk' := [.int (su (ps f 8 (su f 12 (s - 12))) 0 10), .int 10, .ref a]) okBy_sum lVo_27 dVo_seal_29 rfl rfl (Nat.le_of_ble_eq_true rfl) (Nat.le_of_ble_eq_true rfl) (by decide) (c_sum hr_g1 (a := 0) (b := 10) (by omega) (by omega) (by omega)) rfl ?_
  refine mn_cV (As := [.int 10, .int (su (ps f 8 (su f 12 (s - 12))) 0 10)]) (stk' := []) okVo_putSum lVo_33 dVo_seal_32 ha_g1 rfl rfl rfl rfl (Nat.le_of_ble_eq_true rfl) (Nat.le_of_ble_eq_true rfl) (by decide) (c_V_putSum ha_g1 hr_g1 (j := 10) (by omega)) rfl ?_
  obtain ⟨g2, eg2⟩ : ∃ gg_, gg_ = mn_set g1 r (.inl (0, 80, .inl (ps (ps f 8 (su f 12 (s - 12))) 10 (su (ps f 8 (su f 12 (s - 12))) 0 10)))) := ⟨_, rfl⟩
  refine mn_R.toG eg2 ?_
  have ha_g2 : mn_at g2 a (.inr (8, [.ref r, .int (nI s)])) := by rw [eg2]; exact ha_g1.off (mn_at.ne ha_g1 hr_g1 (fun h => by cases h))
  have hr_g2 : mn_at g2 r (.inl (0, 80, .inl (ps (ps f 8 (su f 12 (s - 12))) 10 (su (ps f 8 (su f 12 (s - 12))) 0 10)))) := by rw [eg2]; exact hr_g1.same
  exact mn_vret rfl dVo_seal_35 ⟨rfl, by rw [eg2, eg1, mn_set_set]; rfl⟩
set_option maxRecDepth 100000 in
theorem c_V_cutOff_l {E : mn_En} {a r s : Nat} {f : Nat → Int32} (hs2 : s ≤ 80) : ∀ (fl i : Nat) (g : mn_H), s / 2 ≤ i → i ≤ s → s - i < fl → mn_at g a (.inr (8, [.ref r, .int (nI s)])) → mn_at g r (.inl (0, 80, .inl (zr f (s / 2) i))) → mn_R E MVo_cutOff 1 22 0 0 7 [(0, .ref a), (1, .int (nI i))] [] g (mn_is none (mn_set g r (.inl (0, 80, .inl (zr f (s / 2) s))))) := by
  intro fl
  induction fl with
  | zero => intro i g h1 h2 h3 ha hr; exact absurd h3 (by omega)
  | succ fl ih =>
    intro i g h1 h2 h3 ha hr
    refine mn_iload_n 1 dVo_cutOff_7 rfl rfl ?_
    refine mn_aload_n 0 dVo_cutOff_8 rfl rfl ?_
    refine mn_get okVo 1 lVo_23 (by decide) ha rfl dVo_cutOff_9 ?_
    refine mn_icmp_ge 27 dVo_cutOff_12 (by decide) (fun c1 => ?_) (fun c1 => ?_)
    · have c1 := (nI_leI (a := s) (b := i) (by omega) (by omega)).mp c1
      exact mn_vret rfl dVo_cutOff_27 ⟨rfl, by rw [show zr f (s / 2) s = zr f (s / 2) i by rw [show i = s by omega]]; exact (mn_set_id hr).symm⟩
    · have c1 := mt (nI_leI (a := s) (b := i) (by omega) (by omega)).mpr c1
      refine mn_aload_n 0 dVo_cutOff_15 rfl rfl ?_
      refine mn_iload_n 1 dVo_cutOff_16 rfl rfl ?_
      refine mn_iconst (v := 0) dVo_cutOff_17 (by decide) ?_
      refine mn_cV (As := [.int (nI i), .int 0]) (stk' := []) okVo_put lVo_15 dVo_cutOff_18 ha rfl rfl rfl rfl (Nat.le_of_ble_eq_true rfl) (Nat.le_of_ble_eq_true rfl) (by decide) (c_V_put ha hr (j := i) (by omega)) rfl ?_
      obtain ⟨g2, eg2⟩ : ∃ gg_, gg_ = mn_set g r (.inl (0, 80, .inl (upd (zr f (s / 2) i) i 0))) := ⟨_, rfl⟩
      refine mn_R.toG eg2 ?_
      have ha_g2 : mn_at g2 a (.inr (8, [.ref r, .int (nI s)])) := by rw [eg2]; exact ha.off (mn_at.ne ha hr (fun h => by cases h))
      have hr_g2 : mn_at g2 r (.inl (0, 80, .inl (upd (zr f (s / 2) i) i 0))) := by rw [eg2]; exact hr.same
      refine mn_iinc (v := nI (i + 1)) (ls' := [(0, .ref a), (1, .int (nI (i + 1)))]) 1 dVo_cutOff_21 rfl (nI_add i 1) (by decide) rfl ?_
      refine mn_goto 7 dVo_cutOff_24 (by decide) ?_
      rw [zr_s f h1] at hr_g2
      refine (ih (i + 1) g2 (by omega) (by omega) (by omega) ha_g2 hr_g2).post (fun v g' hq => ⟨hq.1, ?_⟩)
      rw [hq.2, eg2, mn_set_set]
set_option maxRecDepth 100000 in
theorem c_V_cutOff {E : mn_En} {g : mn_H} {a r s : Nat} {f : Nat → Int32} (ha : mn_at g a (.inr (8, [.ref r, .int (nI s)]))) (hr : mn_at g r (.inl (0, 80, .inl f))) (hs2 : s ≤ 80) : mn_R E MVo_cutOff 1 22 0 0 0 [(0, .ref a)] [] g (mn_is none (mn_set g r (.inl (0, 80, .inl (zr f (s / 2) s))))) := by
  refine mn_aload_n 0 dVo_cutOff_0 rfl rfl ?_
  refine mn_get okVo 1 lVo_23 (by decide) ha rfl dVo_cutOff_1 ?_
  refine mn_iconst (v := 2) dVo_cutOff_4 (by decide) ?_
  refine mn_idiv (z := nI (s / 2)) dVo_cutOff_5 (nI_ne0 (n := 2) (by omega) (by omega)) (pk_div (a := s) (d := 2) (by omega) (by omega) (by omega)) ?_
  refine mn_istore_n (ls' := [(0, .ref a), (1, .int (nI (s / 2)))]) dVo_cutOff_6 rfl (by decide) rfl ?_
  have hr : mn_at g r (.inl (0, 80, .inl (zr f (s / 2) (s / 2)))) := by rw [zr_0]; exact hr
  exact c_V_cutOff_l hs2 (s - s / 2 + 1) (s / 2) g (by omega) (by omega) (by omega) ha hr
set_option maxRecDepth 100000 in
theorem c_V_become {E : mn_En} {g : mn_H} {a r s : Nat} {f : Nat → Int32} (ha : mn_at g a (.inr (8, [.ref r, .int (nI s)]))) (hr : mn_at g r (.inl (0, 80, .inl f))) {b q t : Nat} {e : Nat → Int32} (hb : mn_at g b (.inr (8, [.ref q, .int (nI t)]))) (hq : mn_at g q (.inl (0, 80, .inl e))) (hrq : r ≠ q) (hab : a ≠ b) : mn_R E MVo_become 1 26 0 0 0 [(0, .ref a), (1, .ref b)] [] g (mn_is none (mn_set (mn_set g r (.inl (0, 80, .inl (va_cpy e f 0 0 80)))) a (.inr (8, [.ref r, .int (nI t)])))) := by
  refine mn_aload_n 1 dVo_become_0 rfl rfl ?_
  refine mn_get okVo 0 lVo_9 (by decide) hb rfl dVo_become_1 ?_
  refine mn_iconst (v := 0) dVo_become_4 (by decide) ?_
  refine mn_aload_n 0 dVo_become_5 rfl rfl ?_
  refine mn_get okVo 0 lVo_9 (by decide) ha rfl dVo_become_6 ?_
  refine mn_iconst (v := 0) dVo_become_9 (by decide) ?_
  refine mn_bipush (v := 80) dVo_become_10 (by decide) ?_
  refine mn_copy lVo_36 ac_nat ac_st sys_ini rfl hq hr (by decide) (by decide) (by decide) (by decide) (by decide) (by decide) (by decide) (by decide) dVo_become_12 ?_
  obtain ⟨g1, eg1⟩ : ∃ gg_, gg_ = mn_set g r (.inl (0, 80, .inl (va_cpy e f 0 0 80))) := ⟨_, rfl⟩
  refine mn_R.toG eg1 ?_
  have ha_g1 : mn_at g1 a (.inr (8, [.ref r, .int (nI s)])) := by rw [eg1]; exact ha.off (mn_at.ne ha hr (fun h => by cases h))
  have hr_g1 : mn_at g1 r (.inl (0, 80, .inl (va_cpy e f 0 0 80))) := by rw [eg1]; exact hr.same
  have hb_g1 : mn_at g1 b (.inr (8, [.ref q, .int (nI t)])) := by rw [eg1]; exact hb.off (mn_at.ne hb hr (fun h => by cases h))
  have hq_g1 : mn_at g1 q (.inl (0, 80, .inl e)) := by rw [eg1]; exact hq.off (Ne.symm hrq)
  refine mn_aload_n 0 dVo_become_15 rfl rfl ?_
  refine mn_aload_n 1 dVo_become_16 rfl rfl ?_
  refine mn_get okVo 1 lVo_23 (by decide) hb_g1 rfl dVo_become_17 ?_
  refine mn_putf okVo 1 lVo_23 (by decide) rfl ha_g1 rfl rfl (Nat.le_of_ble_eq_true rfl) dVo_become_20 ?_
  obtain ⟨g2, eg2⟩ : ∃ gg_, gg_ = mn_set g1 a (.inr (8, [.ref r, .int (nI t)])) := ⟨_, rfl⟩
  refine mn_R.toG eg2 ?_
  have ha_g2 : mn_at g2 a (.inr (8, [.ref r, .int (nI t)])) := by rw [eg2]; exact ha_g1.same
  have hr_g2 : mn_at g2 r (.inl (0, 80, .inl (va_cpy e f 0 0 80))) := by rw [eg2]; exact hr_g1.off (mn_at.ne hr_g1 ha_g1 (fun h => by cases h))
  have hb_g2 : mn_at g2 b (.inr (8, [.ref q, .int (nI t)])) := by rw [eg2]; exact hb_g1.off (Ne.symm hab)
  have hq_g2 : mn_at g2 q (.inl (0, 80, .inl e)) := by rw [eg2]; exact hq_g1.off (mn_at.ne hq_g1 ha_g1 (fun h => by cases h))
  exact mn_vret rfl dVo_become_23 ⟨rfl, by rw [eg2, eg1]⟩
set_option maxRecDepth 100000 in
theorem c_V_same_l {E : mn_En} {g : mn_H} {a r s : Nat} {f : Nat → Int32} (ha : mn_at g a (.inr (8, [.ref r, .int (nI s)]))) (hr : mn_at g r (.inl (0, 80, .inl f))) {b q t : Nat} {e : Nat → Int32} (hb : mn_at g b (.inr (8, [.ref q, .int (nI t)]))) (hq : mn_at g q (.inl (0, 80, .inl e))) (hs2 : s ≤ 80) (hst : s = t) : ∀ (fl i : Nat), i ≤ s → s - i < fl → (∀ k, k < i → f k = e k) → mn_R E MVo_hasJustTheBytesOf 1 21 0 0 15 [(0, .ref a), (1, .ref b), (2, .int (nI i))] [] g (mn_is (some (.int (sameB s t f e))) g) := by
  intro fl
  induction fl with
  | zero => intro i h1 h2 h3; exact absurd h2 (by omega)
  | succ fl ih =>
    intro i h1 h2 h3
    refine mn_iload_n 2 dVo_hasJustTheBytesOf_15 rfl rfl ?_
    refine mn_aload_n 0 dVo_hasJustTheBytesOf_16 rfl rfl ?_
    refine mn_get okVo 1 lVo_23 (by decide) ha rfl dVo_hasJustTheBytesOf_17 ?_
    refine mn_icmp_ge 44 dVo_hasJustTheBytesOf_20 (by decide) (fun c1 => ?_) (fun c1 => ?_)
    · have c1 := (nI_leI (a := s) (b := i) (by omega) (by omega)).mp c1
      refine mn_iconst (v := 1) dVo_hasJustTheBytesOf_44 (by decide) ?_
      exact mn_zret rfl rfl dVo_hasJustTheBytesOf_45 ⟨by unfold sameB; rw [if_pos ⟨hst, fun k hk => h3 k (by omega)⟩], rfl⟩
    · have c1 := mt (nI_leI (a := s) (b := i) (by omega) (by omega)).mpr c1
      refine mn_aload_n 0 dVo_hasJustTheBytesOf_23 rfl rfl ?_
      refine mn_iload_n 2 dVo_hasJustTheBytesOf_24 rfl rfl ?_
      refine mn_cV (As := [.int (nI i)]) (stk' := [.int (f i)]) okVo_byteAt lVo_19 dVo_hasJustTheBytesOf_25 ha rfl rfl rfl rfl (Nat.le_of_ble_eq_true rfl) (Nat.le_of_ble_eq_true rfl) (by decide) (c_V_byteAt ha hr (j := i) (by omega)) rfl ?_
      refine mn_aload_n 1 dVo_hasJustTheBytesOf_28 rfl rfl ?_
      refine mn_iload_n 2 dVo_hasJustTheBytesOf_29 rfl rfl ?_
      refine mn_cV (As := [.int (nI i)]) (stk' := [.int (e i), .int (f i)]) okVo_byteAt lVo_19 dVo_hasJustTheBytesOf_30 hb rfl rfl rfl rfl (Nat.le_of_ble_eq_true rfl) (Nat.le_of_ble_eq_true rfl) (by decide) (c_V_byteAt hb hq (j := i) (by omega)) rfl ?_
      refine mn_icmp_eq 38 dVo_hasJustTheBytesOf_33 (by decide) (fun c2 => ?_) (fun c2 => ?_)
      · refine mn_iinc (v := nI (i + 1)) (ls' := [(0, .ref a), (1, .ref b), (2, .int (nI (i + 1)))]) 2 dVo_hasJustTheBytesOf_38 rfl (nI_add i 1) (by decide) rfl ?_
        refine mn_goto 15 dVo_hasJustTheBytesOf_41 (by decide) ?_
        exact ih (i + 1) (by omega) (by omega) (fun k hk => by rcases Nat.lt_or_ge k i with h | h; exact h3 k h; rw [show k = i by omega]; exact c2)
      · refine mn_iconst (v := 0) dVo_hasJustTheBytesOf_36 (by decide) ?_
        exact mn_zret rfl rfl dVo_hasJustTheBytesOf_37 ⟨by unfold sameB; rw [if_neg (fun h => c2 (h.2 i (by omega)))], rfl⟩
set_option maxRecDepth 100000 in
theorem c_V_same {E : mn_En} {g : mn_H} {a r s : Nat} {f : Nat → Int32} (ha : mn_at g a (.inr (8, [.ref r, .int (nI s)]))) (hr : mn_at g r (.inl (0, 80, .inl f))) {b q t : Nat} {e : Nat → Int32} (hb : mn_at g b (.inr (8, [.ref q, .int (nI t)]))) (hq : mn_at g q (.inl (0, 80, .inl e))) (hs2 : s ≤ 80) (ht2 : t ≤ 80) : mn_R E MVo_hasJustTheBytesOf 1 21 0 0 0 [(0, .ref a), (1, .ref b)] [] g (mn_is (some (.int (sameB s t f e))) g) := by
  refine mn_aload_n 0 dVo_hasJustTheBytesOf_0 rfl rfl ?_
  refine mn_get okVo 1 lVo_23 (by decide) ha rfl dVo_hasJustTheBytesOf_1 ?_
  refine mn_aload_n 1 dVo_hasJustTheBytesOf_4 rfl rfl ?_
  refine mn_get okVo 1 lVo_23 (by decide) hb rfl dVo_hasJustTheBytesOf_5 ?_
  refine mn_icmp_eq 13 dVo_hasJustTheBytesOf_8 (by decide) (fun c1 => ?_) (fun c1 => ?_)
  · have c1 := (nI_eq (a := s) (b := t) (by omega) (by omega)).mp c1
    refine mn_iconst (v := 0) dVo_hasJustTheBytesOf_13 (by decide) ?_
    refine mn_istore_n (ls' := [(0, .ref a), (1, .ref b), (2, .int 0)]) dVo_hasJustTheBytesOf_14 rfl (by decide) rfl ?_
    exact c_V_same_l ha hr hb hq hs2 c1 (s + 1) 0 (by omega) (by omega) (fun k hk => absurd hk (by omega))
  · have c1 := mt (nI_eq (a := s) (b := t) (by omega) (by omega)).mpr c1
    refine mn_iconst (v := 0) dVo_hasJustTheBytesOf_11 (by decide) ?_
    exact mn_zret rfl rfl dVo_hasJustTheBytesOf_12 ⟨by unfold sameB; rw [if_neg (fun h => c1 h.1)], rfl⟩
set_option maxRecDepth 100000 in
theorem c_V_hasHead {E : mn_En} {g : mn_H} {a r s : Nat} {f : Nat → Int32} (ha : mn_at g a (.inr (8, [.ref r, .int (nI s)]))) (hr : mn_at g r (.inl (0, 80, .inl f))) (hs2 : s ≤ 80) : mn_R E MVo_hasHead 2 45 0 0 0 [(0, .ref a)] [] g (mn_is (some (.int (hh f s))) g) := by
  refine mn_aload_n 0 dVo_hasHead_0 rfl rfl ?_
  refine mn_iconst (v := 4) dVo_hasHead_1 (by decide) ?_
  refine mn_cV (As := [.int 4]) (stk' := [.int (f 4)]) okVo_byteAt lVo_19 dVo_hasHead_2 ha rfl rfl rfl rfl (Nat.le_of_ble_eq_true rfl) (Nat.le_of_ble_eq_true rfl) (by decide) (c_V_byteAt ha hr (j := 4) (by omega)) rfl ?_
  refine mn_istore_n (ls' := [(0, .ref a), (1, .int (f 4))]) dVo_hasHead_5 rfl (by decide) rfl ?_
  refine mn_aload_n 0 dVo_hasHead_6 rfl rfl ?_
  refine mn_iconst (v := 5) dVo_hasHead_7 (by decide) ?_
  refine mn_cV (As := [.int 5]) (stk' := [.int (f 5)]) okVo_byteAt lVo_19 dVo_hasHead_8 ha rfl rfl rfl rfl (Nat.le_of_ble_eq_true rfl) (Nat.le_of_ble_eq_true rfl) (by decide) (c_V_byteAt ha hr (j := 5) (by omega)) rfl ?_
  refine mn_istore_n (ls' := [(0, .ref a), (1, .int (f 4)), (2, .int (f 5))]) dVo_hasHead_11 rfl (by decide) rfl ?_
  refine mn_aload_n 0 dVo_hasHead_12 rfl rfl ?_
  refine mn_get okVo 1 lVo_23 (by decide) ha rfl dVo_hasHead_13 ?_
  refine mn_bipush (v := 12) dVo_hasHead_16 (by decide) ?_
  refine mn_icmp_lt 91 dVo_hasHead_18 (by decide) (fun c1 => ?_) (fun c1 => ?_)
  · have c1 := (nI_ltI (a := s) (b := 12) (by omega) (by omega)).mp c1
    refine mn_iconst (v := 0) dVo_hasHead_91 (by decide) ?_
    exact mn_zret rfl rfl dVo_hasHead_92 ⟨by rw [hh_neg (fun h => h.1 c1)], rfl⟩
  · have c1 := mt (nI_ltI (a := s) (b := 12) (by omega) (by omega)).mpr c1
    refine mn_aload_n 0 dVo_hasHead_21 rfl rfl ?_
    refine mn_iconst (v := 0) dVo_hasHead_22 (by decide) ?_
    refine mn_cV (As := [.int 0]) (stk' := [.int (f 0)]) okVo_byteAt lVo_19 dVo_hasHead_23 ha rfl rfl rfl rfl (Nat.le_of_ble_eq_true rfl) (Nat.le_of_ble_eq_true rfl) (by decide) (c_V_byteAt ha hr (j := 0) (by omega)) rfl ?_
    refine mn_bipush (v := 86) dVo_hasHead_26 (by decide) ?_
    refine mn_icmp_ne 91 dVo_hasHead_28 (by decide) (fun c2 => ?_) (fun c2 => ?_)
    · refine mn_iconst (v := 0) dVo_hasHead_91 (by decide) ?_
      exact mn_zret rfl rfl dVo_hasHead_92 ⟨by rw [hh_neg (fun h => c2 (h.2.1))], rfl⟩
    · refine mn_aload_n 0 dVo_hasHead_31 rfl rfl ?_
      refine mn_iconst (v := 1) dVo_hasHead_32 (by decide) ?_
      refine mn_cV (As := [.int 1]) (stk' := [.int (f 1)]) okVo_byteAt lVo_19 dVo_hasHead_33 ha rfl rfl rfl rfl (Nat.le_of_ble_eq_true rfl) (Nat.le_of_ble_eq_true rfl) (by decide) (c_V_byteAt ha hr (j := 1) (by omega)) rfl ?_
      refine mn_bipush (v := 83) dVo_hasHead_36 (by decide) ?_
      refine mn_icmp_ne 91 dVo_hasHead_38 (by decide) (fun c3 => ?_) (fun c3 => ?_)
      · refine mn_iconst (v := 0) dVo_hasHead_91 (by decide) ?_
        exact mn_zret rfl rfl dVo_hasHead_92 ⟨by rw [hh_neg (fun h => c3 (h.2.2.1))], rfl⟩
      · refine mn_aload_n 0 dVo_hasHead_41 rfl rfl ?_
        refine mn_bipush (v := 10) dVo_hasHead_42 (by decide) ?_
        refine mn_cV (As := [.int 10]) (stk' := [.int (sa f 10)]) okVo_sumAt lVo_42 dVo_hasHead_44 ha rfl rfl rfl rfl (Nat.le_of_ble_eq_true rfl) (Nat.le_of_ble_eq_true rfl) (by decide) (c_V_sumAt ha hr (j := 10) (by omega)) rfl ?_
        refine mn_aload_n 0 dVo_hasHead_47 rfl rfl ?_
        refine mn_get okVo 0 lVo_9 (by decide) ha rfl dVo_hasHead_48 ?_
        refine mn_iconst (v := 0) dVo_hasHead_51 (by decide) ?_
        refine mn_bipush (v := 10) dVo_hasHead_52 (by decide) ?_
        refine mn_cS (As := [.ref r, .int 0, .int 10]) (stk' := [.int (su f 0 10), .int (sa f 10)]) okBy_sum lVo_27 dVo_hasHead_54 rfl rfl (Nat.le_of_ble_eq_true rfl) (Nat.le_of_ble_eq_true rfl) (by decide) (c_sum hr (a := 0) (b := 10) (by omega) (by omega) (by omega)) rfl ?_
        refine mn_icmp_ne 91 dVo_hasHead_57 (by decide) (fun c4 => ?_) (fun c4 => ?_)
        · refine mn_iconst (v := 0) dVo_hasHead_91 (by decide) ?_
          exact mn_zret rfl rfl dVo_hasHead_92 ⟨by rw [hh_neg (fun h => c4 (h.2.2.2.1))], rfl⟩
        · refine mn_iload_n 1 dVo_hasHead_60 rfl rfl ?_
          refine mn_iconst (v := 1) dVo_hasHead_61 (by decide) ?_
          refine mn_icmp_lt 91 dVo_hasHead_62 (by decide) (fun c5 => ?_) (fun c5 => ?_)
          · refine mn_iconst (v := 0) dVo_hasHead_91 (by decide) ?_
            exact mn_zret rfl rfl dVo_hasHead_92 ⟨by rw [hh_neg (fun h => h.2.2.2.2.1 c5)], rfl⟩
          · refine mn_iload_n 1 dVo_hasHead_65 rfl rfl ?_
            refine mn_bipush (v := 60) dVo_hasHead_66 (by decide) ?_
            refine mn_icmp_gt 91 dVo_hasHead_68 (by decide) (fun c6 => ?_) (fun c6 => ?_)
            · refine mn_iconst (v := 0) dVo_hasHead_91 (by decide) ?_
              exact mn_zret rfl rfl dVo_hasHead_92 ⟨by rw [hh_neg (fun h => h.2.2.2.2.2.1 c6)], rfl⟩
            · refine mn_iload_n 2 dVo_hasHead_71 rfl rfl ?_
              refine mn_iconst (v := 3) dVo_hasHead_72 (by decide) ?_
              refine mn_icmp_gt 91 dVo_hasHead_73 (by decide) (fun c7 => ?_) (fun c7 => ?_)
              · refine mn_iconst (v := 0) dVo_hasHead_91 (by decide) ?_
                exact mn_zret rfl rfl dVo_hasHead_92 ⟨by rw [hh_neg (fun h => h.2.2.2.2.2.2.1 c7)], rfl⟩
              · refine mn_aload_n 0 dVo_hasHead_76 rfl rfl ?_
                refine mn_iconst (v := 3) dVo_hasHead_77 (by decide) ?_
                refine mn_cV (As := [.int 3]) (stk' := [.int (f 3)]) okVo_byteAt lVo_19 dVo_hasHead_78 ha rfl rfl rfl rfl (Nat.le_of_ble_eq_true rfl) (Nat.le_of_ble_eq_true rfl) (by decide) (c_V_byteAt ha hr (j := 3) (by omega)) rfl ?_
                refine mn_iload_n 1 dVo_hasHead_81 rfl rfl ?_
                refine mn_iload_n 2 dVo_hasHead_82 rfl rfl ?_
                refine mn_iadd (z := (f 4) + (f 5)) dVo_hasHead_83 rfl ?_
                refine mn_icmp_ge 91 dVo_hasHead_84 (by decide) (fun c8 => ?_) (fun c8 => ?_)
                · refine mn_iconst (v := 0) dVo_hasHead_91 (by decide) ?_
                  exact mn_zret rfl rfl dVo_hasHead_92 ⟨by rw [hh_neg (fun h => h.2.2.2.2.2.2.2 c8)], rfl⟩
                · refine mn_iconst (v := 1) dVo_hasHead_87 (by decide) ?_
                  refine mn_goto 92 dVo_hasHead_88 (by decide) ?_
                  exact mn_zret rfl rfl dVo_hasHead_92 ⟨by rw [hh_pos ⟨c1, c2, c3, c4, c5, c6, c7, c8⟩], rfl⟩
set_option maxRecDepth 100000 in
theorem c_V_state {E : mn_En} {g : mn_H} {a r s : Nat} {f : Nat → Int32} (ha : mn_at g a (.inr (8, [.ref r, .int (nI s)]))) (hr : mn_at g r (.inl (0, 80, .inl f))) (hs2 : s ≤ 80) : mn_R E MVo_state 3 68 0 0 0 [(0, .ref a)] [] g (mn_is (some (.int (stV f s))) g) := by
  refine mn_aload_n 0 dVo_state_0 rfl rfl ?_
  refine mn_get okVo 1 lVo_23 (by decide) ha rfl dVo_state_1 ?_
  refine mn_if_ne 9 dVo_state_4 (by decide) (fun c1 => ?_) (fun c1 => ?_)
  · have c1 := mt (nI_eq (a := s) (b := 0) (by omega) (by omega)).mpr c1
    refine mn_aload_n 0 dVo_state_9 rfl rfl ?_
    refine mn_cV (As := []) (stk' := [.int (hh f s)]) okVo_hasHead lVo_45 dVo_state_10 ha rfl rfl rfl rfl (Nat.le_of_ble_eq_true rfl) (Nat.le_of_ble_eq_true rfl) (by decide) (c_V_hasHead ha hr (by omega)) rfl ?_
    refine mn_if_ne 18 dVo_state_13 (by decide) (fun c2 => ?_) (fun c2 => ?_)
    · have h12 : 12 ≤ s := by have := (hh_ge c2).1; omega
      refine mn_aload_n 0 dVo_state_18 rfl rfl ?_
      refine mn_bipush (v := 8) dVo_state_19 (by decide) ?_
      refine mn_cV (As := [.int 8]) (stk' := [.int (sa f 8)]) okVo_sumAt lVo_42 dVo_state_21 ha rfl rfl rfl rfl (Nat.le_of_ble_eq_true rfl) (Nat.le_of_ble_eq_true rfl) (by decide) (c_V_sumAt ha hr (j := 8) (by omega)) rfl ?_
      refine mn_aload_n 0 dVo_state_24 rfl rfl ?_
      refine mn_get okVo 0 lVo_9 (by decide) ha rfl dVo_state_25 ?_
      refine mn_bipush (v := 12) dVo_state_28 (by decide) ?_
      refine mn_aload_n 0 dVo_state_30 rfl rfl ?_
      refine mn_get okVo 1 lVo_23 (by decide) ha rfl dVo_state_31 ?_
      refine mn_cS (As := [.ref r, .int 12, .int (nI s)]) (stk' := [.int (su f 12 (s - 12)), .int (sa f 8)]) okBy_sum lVo_27 dVo_state_34 rfl rfl (Nat.le_of_ble_eq_true rfl) (Nat.le_of_ble_eq_true rfl) (by decide) (c_sum hr (a := 12) (b := s) (by omega) (by omega) (by omega)) rfl ?_
      refine mn_icmp_ne 44 dVo_state_37 (by decide) (fun c3 => ?_) (fun c3 => ?_)
      · refine mn_iconst (v := 2) dVo_state_44 (by decide) ?_
        exact mn_iret rfl dVo_state_45 ⟨by unfold stV; rw [if_neg c1, if_neg c2, if_neg c3], rfl⟩
      · refine mn_iconst (v := 1) dVo_state_40 (by decide) ?_
        refine mn_goto 45 dVo_state_41 (by decide) ?_
        exact mn_iret rfl dVo_state_45 ⟨by unfold stV; rw [if_neg c1, if_neg c2, if_pos c3], rfl⟩
    · refine mn_iconst (v := 3) dVo_state_16 (by decide) ?_
      exact mn_iret rfl dVo_state_17 ⟨by unfold stV; rw [if_neg c1, if_pos c2], rfl⟩
  · have c1 := (nI_eq (a := s) (b := 0) (by omega) (by omega)).mp c1
    refine mn_iconst (v := 0) dVo_state_7 (by decide) ?_
    exact mn_iret rfl dVo_state_8 ⟨by unfold stV; rw [if_pos c1], rfl⟩
set_option maxRecDepth 100000 in
theorem c_V_isGoodOf {E : mn_En} {g : mn_H} {a r s : Nat} {f : Nat → Int32} (ha : mn_at g a (.inr (8, [.ref r, .int (nI s)]))) (hr : mn_at g r (.inl (0, 80, .inl f))) (hs2 : s ≤ 80) {x : Int32} : mn_R E MVo_isGoodOf 4 91 0 0 0 [(0, .ref a), (1, .int x)] [] g (mn_is (some (.int (gdV f s x))) g) := by
  refine mn_aload_n 0 dVo_isGoodOf_0 rfl rfl ?_
  refine mn_iconst (v := 2) dVo_isGoodOf_1 (by decide) ?_
  refine mn_cV (As := [.int 2]) (stk' := [.int (f 2)]) okVo_byteAt lVo_19 dVo_isGoodOf_2 ha rfl rfl rfl rfl (Nat.le_of_ble_eq_true rfl) (Nat.le_of_ble_eq_true rfl) (by decide) (c_V_byteAt ha hr (j := 2) (by omega)) rfl ?_
  refine mn_iload_n 1 dVo_isGoodOf_5 rfl rfl ?_
  refine mn_icmp_ne 21 dVo_isGoodOf_6 (by decide) (fun c1 => ?_) (fun c1 => ?_)
  · refine mn_iconst (v := 0) dVo_isGoodOf_21 (by decide) ?_
    exact mn_zret rfl rfl dVo_isGoodOf_22 ⟨by unfold gdV; rw [if_neg (fun h => c1 h.1)], rfl⟩
  · refine mn_aload_n 0 dVo_isGoodOf_9 rfl rfl ?_
    refine mn_cV (As := []) (stk' := [.int (stV f s)]) okVo_state lVo_49 dVo_isGoodOf_10 ha rfl rfl rfl rfl (Nat.le_of_ble_eq_true rfl) (Nat.le_of_ble_eq_true rfl) (by decide) (c_V_state ha hr (by omega)) rfl ?_
    refine mn_iconst (v := 1) dVo_isGoodOf_13 (by decide) ?_
    refine mn_icmp_ne 21 dVo_isGoodOf_14 (by decide) (fun c2 => ?_) (fun c2 => ?_)
    · refine mn_iconst (v := 0) dVo_isGoodOf_21 (by decide) ?_
      exact mn_zret rfl rfl dVo_isGoodOf_22 ⟨by unfold gdV; rw [if_neg (fun h => c2 h.2)], rfl⟩
    · refine mn_iconst (v := 1) dVo_isGoodOf_17 (by decide) ?_
      refine mn_goto 22 dVo_isGoodOf_18 (by decide) ?_
      exact mn_zret rfl rfl dVo_isGoodOf_22 ⟨by unfold gdV; rw [if_pos ⟨c1, c2⟩], rfl⟩
set_option maxRecDepth 100000 in
theorem c_V_wm {E : mn_En} {g : mn_H} {a r s : Nat} {f : Nat → Int32} (ha : mn_at g a (.inr (8, [.ref r, .int (nI s)]))) (hr : mn_at g r (.inl (0, 80, .inl f))) {b q t : Nat} {e : Nat → Int32} (hb : mn_at g b (.inr (8, [.ref q, .int (nI t)]))) (hq : mn_at g q (.inl (0, 80, .inl e))) (hs2 : s ≤ 80) (ht2 : t ≤ 80) : mn_R E MVo_isAsWideAndManyAs 1 21 0 0 0 [(0, .ref a), (1, .ref b)] [] g (mn_is (some (.int (wmV s t f e))) g) := by
  refine mn_aload_n 0 dVo_isAsWideAndManyAs_0 rfl rfl ?_
  refine mn_get okVo 1 lVo_23 (by decide) ha rfl dVo_isAsWideAndManyAs_1 ?_
  refine mn_aload_n 1 dVo_isAsWideAndManyAs_4 rfl rfl ?_
  refine mn_get okVo 1 lVo_23 (by decide) hb rfl dVo_isAsWideAndManyAs_5 ?_
  refine mn_icmp_ne 41 dVo_isAsWideAndManyAs_8 (by decide) (fun c1 => ?_) (fun c1 => ?_)
  · have c1 := mt (nI_eq (a := s) (b := t) (by omega) (by omega)).mpr c1
    refine mn_iconst (v := 0) dVo_isAsWideAndManyAs_41 (by decide) ?_
    exact mn_zret rfl rfl dVo_isAsWideAndManyAs_42 ⟨by unfold wmV; rw [if_neg (fun h => c1 h.1)], rfl⟩
  · have c1 := (nI_eq (a := s) (b := t) (by omega) (by omega)).mp c1
    refine mn_aload_n 0 dVo_isAsWideAndManyAs_11 rfl rfl ?_
    refine mn_iconst (v := 4) dVo_isAsWideAndManyAs_12 (by decide) ?_
    refine mn_cV (As := [.int 4]) (stk' := [.int (f 4)]) okVo_byteAt lVo_19 dVo_isAsWideAndManyAs_13 ha rfl rfl rfl rfl (Nat.le_of_ble_eq_true rfl) (Nat.le_of_ble_eq_true rfl) (by decide) (c_V_byteAt ha hr (j := 4) (by omega)) rfl ?_
    refine mn_aload_n 1 dVo_isAsWideAndManyAs_16 rfl rfl ?_
    refine mn_iconst (v := 4) dVo_isAsWideAndManyAs_17 (by decide) ?_
    refine mn_cV (As := [.int 4]) (stk' := [.int (e 4), .int (f 4)]) okVo_byteAt lVo_19 dVo_isAsWideAndManyAs_18 hb rfl rfl rfl rfl (Nat.le_of_ble_eq_true rfl) (Nat.le_of_ble_eq_true rfl) (by decide) (c_V_byteAt hb hq (j := 4) (by omega)) rfl ?_
    refine mn_icmp_ne 41 dVo_isAsWideAndManyAs_21 (by decide) (fun c2 => ?_) (fun c2 => ?_)
    · refine mn_iconst (v := 0) dVo_isAsWideAndManyAs_41 (by decide) ?_
      exact mn_zret rfl rfl dVo_isAsWideAndManyAs_42 ⟨by unfold wmV; rw [if_neg (fun h => c2 h.2.1)], rfl⟩
    · refine mn_aload_n 0 dVo_isAsWideAndManyAs_24 rfl rfl ?_
      refine mn_iconst (v := 5) dVo_isAsWideAndManyAs_25 (by decide) ?_
      refine mn_cV (As := [.int 5]) (stk' := [.int (f 5)]) okVo_byteAt lVo_19 dVo_isAsWideAndManyAs_26 ha rfl rfl rfl rfl (Nat.le_of_ble_eq_true rfl) (Nat.le_of_ble_eq_true rfl) (by decide) (c_V_byteAt ha hr (j := 5) (by omega)) rfl ?_
      refine mn_aload_n 1 dVo_isAsWideAndManyAs_29 rfl rfl ?_
      refine mn_iconst (v := 5) dVo_isAsWideAndManyAs_30 (by decide) ?_
      refine mn_cV (As := [.int 5]) (stk' := [.int (e 5), .int (f 5)]) okVo_byteAt lVo_19 dVo_isAsWideAndManyAs_31 hb rfl rfl rfl rfl (Nat.le_of_ble_eq_true rfl) (Nat.le_of_ble_eq_true rfl) (by decide) (c_V_byteAt hb hq (j := 5) (by omega)) rfl ?_
      refine mn_icmp_ne 41 dVo_isAsWideAndManyAs_34 (by decide) (fun c3 => ?_) (fun c3 => ?_)
      · refine mn_iconst (v := 0) dVo_isAsWideAndManyAs_41 (by decide) ?_
        exact mn_zret rfl rfl dVo_isAsWideAndManyAs_42 ⟨by unfold wmV; rw [if_neg (fun h => c3 h.2.2)], rfl⟩
      · refine mn_iconst (v := 1) dVo_isAsWideAndManyAs_37 (by decide) ?_
        refine mn_goto 42 dVo_isAsWideAndManyAs_38 (by decide) ?_
        exact mn_zret rfl rfl dVo_isAsWideAndManyAs_42 ⟨by unfold wmV; rw [if_pos ⟨c1, c2, c3⟩], rfl⟩
end
section
theorem dAr_fill_0 : decode kAr_fill 0 = .ok (.iconst 0, 1) := by decide +kernel
theorem dAr_fill_1 : decode kAr_fill 1 = .ok (.istore_n 2, 1) := by decide +kernel
theorem dAr_fill_2 : decode kAr_fill 2 = .ok (.aload_n 0, 1) := by decide +kernel
theorem dAr_fill_3 : decode kAr_fill 3 = .ok (.arraylength, 1) := by decide +kernel
theorem dAr_fill_4 : decode kAr_fill 4 = .ok (.istore_n 3, 1) := by decide +kernel
theorem dAr_fill_5 : decode kAr_fill 5 = .ok (.iload_n 2, 1) := by decide +kernel
theorem dAr_fill_6 : decode kAr_fill 6 = .ok (.iload_n 3, 1) := by decide +kernel
theorem dAr_fill_7 : decode kAr_fill 7 = .ok (.if_icmp .ge 13, 3) := by decide +kernel
theorem dAr_fill_10 : decode kAr_fill 10 = .ok (.aload_n 0, 1) := by decide +kernel
theorem dAr_fill_11 : decode kAr_fill 11 = .ok (.iload_n 2, 1) := by decide +kernel
theorem dAr_fill_12 : decode kAr_fill 12 = .ok (.iload_n 1, 1) := by decide +kernel
theorem dAr_fill_13 : decode kAr_fill 13 = .ok (.iastore, 1) := by decide +kernel
theorem dAr_fill_14 : decode kAr_fill 14 = .ok (.iinc 2 1, 3) := by decide +kernel
theorem dAr_fill_17 : decode kAr_fill 17 = .ok (.goto (-12), 3) := by decide +kernel
theorem dAr_fill_20 : decode kAr_fill 20 = .ok (.return_, 1) := by decide +kernel
set_option maxRecDepth 100000 in
theorem c_fill_l {E : mn_En} {g : mn_H} {r n : Nat} {f : Nat → Int32} {x : Int32} (hn : n < 2 ^ 31) : ∀ (k i : Nat) (g0 : mn_H), i ≤ n → n - i < k → mn_fr (fun q => q = r) g g0 → mn_at g0 r (.inl (0, n, .inl (flN f x i))) → mn_R E MAr_fill 0 0 0 0 5 [(0, .ref r), (1, .int x), (2, .int (nI i)), (3, .int (nI n))] [] g0 (fun v g' => v = none ∧ mn_fr (fun q => q = r) g g' ∧ mn_at g' r (.inl (0, n, .inl (flN f x n)))) := by
  intro k
  induction k with
  | zero => intro i g0 h1 h2; exact absurd h2 (by omega)
  | succ k ih =>
    intro i g0 h1 h2 hf hr
    refine mn_iload_n 2 dAr_fill_5 rfl rfl ?_
    refine mn_iload_n 3 dAr_fill_6 rfl rfl ?_
    refine mn_icmp_ge 20 dAr_fill_7 (by decide) (fun c1 => ?_) (fun c1 => ?_)
    · have c1 := (nI_leI (a := n) (b := i) (by omega) (by omega)).mp c1
      exact mn_vret rfl dAr_fill_20 ⟨rfl, hf, by rw [show n = i by omega] at hr ⊢; exact hr⟩
    · have c1 := mt (nI_leI (a := n) (b := i) (by omega) (by omega)).mpr c1
      refine mn_aload_n 0 dAr_fill_10 rfl rfl ?_
      refine mn_iload_n 2 dAr_fill_11 rfl rfl ?_
      refine mn_iload_n 1 dAr_fill_12 rfl rfl ?_
      refine mn_iastN (j := i) hr rfl (by omega) (by omega) dAr_fill_13 ?_
      obtain ⟨g2, eg2⟩ : ∃ gg_, gg_ = mn_set g0 r (.inl (0, n, .inl (upd (flN f x i) i x))) := ⟨_, rfl⟩
      refine mn_R.toG eg2 ?_
      have hr_g2 : mn_at g2 r (.inl (0, n, .inl (upd (flN f x i) i x))) := by rw [eg2]; exact hr.same
      refine mn_iinc (v := nI (i + 1)) (ls' := [(0, .ref r), (1, .int x), (2, .int (nI (i + 1))), (3, .int (nI n))]) 2 dAr_fill_14 rfl (nI_add i 1) (by decide) rfl ?_
      refine mn_goto 5 dAr_fill_17 (by decide) ?_
      rw [flN_s] at hr_g2
      exact ih (i + 1) g2 (by omega) (by omega) (hf.set eg2 rfl) hr_g2
set_option maxRecDepth 100000 in
theorem c_fill {E : mn_En} {g : mn_H} {r n : Nat} {f : Nat → Int32} {x : Int32} (hr : mn_at g r (.inl (0, n, .inl f))) (hn : n < 2 ^ 31) : mn_R E MAr_fill 0 0 0 0 0 [(0, .ref r), (1, .int x)] [] g (fun v g' => v = none ∧ mn_fr (fun q => q = r) g g' ∧ mn_at g' r (.inl (0, n, .inl (flN f x n)))) := by
  refine mn_iconst (v := 0) dAr_fill_0 (by decide) ?_
  refine mn_istore_n (ls' := [(0, .ref r), (1, .int x), (2, .int 0)]) dAr_fill_1 rfl (by decide) rfl ?_
  refine mn_aload_n 0 dAr_fill_2 rfl rfl ?_
  refine mn_alen hr rfl dAr_fill_3 ?_
  refine mn_istore_n (ls' := [(0, .ref r), (1, .int x), (2, .int 0), (3, .int (nI n))]) dAr_fill_4 rfl (by decide) rfl ?_
  have hr : mn_at g r (.inl (0, n, .inl (flN f x 0))) := by rw [flN_0]; exact hr
  exact c_fill_l hn (n + 1) 0 g (by omega) (by omega) mn_fr.rf hr
set_option maxRecDepth 100000 in
theorem c_P_blank {E : mn_En} {g : mn_H} {a nb m w : Nat} {fb fl fs : Nat → Int32} (ha : mn_at g a (.inr (2, [.ref (a + 3), .ref (a + 1), .ref (a + 2), .int (nI m), .int (nI w)]))) (hb : mn_at g (a + 3) (.inl (0, nb, .inl fb))) (hl : mn_at g (a + 1) (.inl (0, 60, .inl fl))) (hs : mn_at g (a + 2) (.inl (0, 60, .inl fs))) (hnb : nb < 5000) : mn_R E MPc_blank 1 23 0 0 0 [(0, .ref a)] [] g (fun v g' => v = none ∧ mn_fr (fun q => q = a + 1 ∨ q = a + 2 ∨ q = a + 3) g g' ∧ mn_at g' (a + 3) (.inl (0, nb, .inl (flN fb 0 nb))) ∧ mn_at g' (a + 1) (.inl (0, 60, .inl (flN fl 0 60))) ∧ mn_at g' (a + 2) (.inl (0, 60, .inl (flN fs 0 60)))) := by
  refine mn_aload_n 0 dPc_blank_0 rfl rfl ?_
  refine mn_get okPc 0 lPc_24 (by decide) ha rfl dPc_blank_1 ?_
  refine mn_iconst (v := 0) dPc_blank_4 (by decide) ?_
  refine mn_callS (As := [.ref (a + 3), .int 0]) (st := []) okAr_fill lPc_27 dPc_blank_5 rfl rfl (Nat.le_of_ble_eq_true rfl) (Nat.le_of_ble_eq_true rfl) (by decide) (c_fill hb (by omega)) (fun v g1 hq => ?_)
  obtain ⟨rfl, fg1, hb_g1⟩ := hq
  show mn_R E MPc_blank 1 23 _ _ 8 [(0, .ref a)] [] g1 _
  have ha_g1 := ha.fr fg1 (fun h => by have h9 : a = a + 3 := h; omega)
  have hl_g1 := hl.fr fg1 (fun h => by have h9 : (a + 1) = a + 3 := h; omega)
  have hs_g1 := hs.fr fg1 (fun h => by have h9 : (a + 2) = a + 3 := h; omega)
  refine mn_aload_n 0 dPc_blank_8 rfl rfl ?_
  refine mn_get okPc 1 lPc_9 (by decide) ha_g1 rfl dPc_blank_9 ?_
  refine mn_iconst (v := 0) dPc_blank_12 (by decide) ?_
  refine mn_callS (As := [.ref (a + 1), .int 0]) (st := []) okAr_fill lPc_27 dPc_blank_13 rfl rfl (Nat.le_of_ble_eq_true rfl) (Nat.le_of_ble_eq_true rfl) (by decide) (c_fill hl_g1 (by omega)) (fun v g2 hq => ?_)
  obtain ⟨rfl, fg2, hl_g2⟩ := hq
  show mn_R E MPc_blank 1 23 _ _ 16 [(0, .ref a)] [] g2 _
  have ha_g2 := ha_g1.fr fg2 (fun h => by have h9 : a = a + 1 := h; omega)
  have hb_g2 := hb_g1.fr fg2 (fun h => by have h9 : (a + 3) = a + 1 := h; omega)
  have hs_g2 := hs_g1.fr fg2 (fun h => by have h9 : (a + 2) = a + 1 := h; omega)
  refine mn_aload_n 0 dPc_blank_16 rfl rfl ?_
  refine mn_get okPc 2 lPc_15 (by decide) ha_g2 rfl dPc_blank_17 ?_
  refine mn_iconst (v := 0) dPc_blank_20 (by decide) ?_
  refine mn_callS (As := [.ref (a + 2), .int 0]) (st := []) okAr_fill lPc_27 dPc_blank_21 rfl rfl (Nat.le_of_ble_eq_true rfl) (Nat.le_of_ble_eq_true rfl) (by decide) (c_fill hs_g2 (by omega)) (fun v g3 hq => ?_)
  obtain ⟨rfl, fg3, hs_g3⟩ := hq
  show mn_R E MPc_blank 1 23 _ _ 24 [(0, .ref a)] [] g3 _
  have ha_g3 := ha_g2.fr fg3 (fun h => by have h9 : a = a + 2 := h; omega)
  have hb_g3 := hb_g2.fr fg3 (fun h => by have h9 : (a + 3) = a + 2 := h; omega)
  have hl_g3 := hl_g2.fr fg3 (fun h => by have h9 : (a + 1) = a + 2 := h; omega)
  exact mn_vret rfl dPc_blank_24 ⟨rfl, (((mn_fr.rf.tr (fg1.mo (fun q h => by have h9 : q = a + 3 := h; show q = a + 1 ∨ q = a + 2 ∨ q = a + 3; omega))).tr (fg2.mo (fun q h => by have h9 : q = a + 1 := h; show q = a + 1 ∨ q = a + 2 ∨ q = a + 3; omega))).tr (fg3.mo (fun q h => by have h9 : q = a + 2 := h; show q = a + 1 ∨ q = a + 2 ∨ q = a + 3; omega))), hb_g3, hl_g3, hs_g3⟩
set_option maxRecDepth 100000 in
theorem c_P_room {E : mn_En} {g : mn_H} {a nb m w : Nat} {fb fl fs : Nat → Int32} (ha : mn_at g a (.inr (2, [.ref (a + 3), .ref (a + 1), .ref (a + 2), .int (nI m), .int (nI w)]))) (hb : mn_at g (a + 3) (.inl (0, nb, .inl fb))) (hl : mn_at g (a + 1) (.inl (0, 60, .inl fl))) (hs : mn_at g (a + 2) (.inl (0, 60, .inl fs))) (hnb : nb < 5000) : mn_R E MPc_room 0 0 0 0 0 [(0, .ref a)] [] g (mn_is (some (.int (nI (m * w)))) g) := by
  refine mn_aload_n 0 dPc_room_0 rfl rfl ?_
  refine mn_get okPc 3 lPc_33 (by decide) ha rfl dPc_room_1 ?_
  refine mn_aload_n 0 dPc_room_4 rfl rfl ?_
  refine mn_get okPc 4 lPc_37 (by decide) ha rfl dPc_room_5 ?_
  refine mn_imul (z := nI (m * w)) dPc_room_8 (pk_mul m w) ?_
  exact mn_iret rfl dPc_room_9 ⟨rfl, rfl⟩
set_option maxRecDepth 100000 in
theorem c_P_byteAt {E : mn_En} {g : mn_H} {a nb m w : Nat} {fb fl fs : Nat → Int32} (ha : mn_at g a (.inr (2, [.ref (a + 3), .ref (a + 1), .ref (a + 2), .int (nI m), .int (nI w)]))) (hb : mn_at g (a + 3) (.inl (0, nb, .inl fb))) (hl : mn_at g (a + 1) (.inl (0, 60, .inl fl))) (hs : mn_at g (a + 2) (.inl (0, 60, .inl fs))) (hnb : nb < 5000) {j : Nat} (hj : j < nb) : mn_R E MPc_byteAt 0 0 0 0 0 [(0, .ref a), (1, .int (nI j))] [] g (mn_is (some (.int (fb j))) g) := by
  refine mn_iload_n 1 dPc_byteAt_0 rfl rfl ?_
  refine mn_if_lt 13 dPc_byteAt_1 (by decide) (fun c1 => ?_) (fun c1 => ?_)
  · exact absurd c1 (nI_pos (by omega))
  · refine mn_iload_n 1 dPc_byteAt_4 rfl rfl ?_
    refine mn_aload_n 0 dPc_byteAt_5 rfl rfl ?_
    refine mn_get okPc 0 lPc_24 (by decide) ha rfl dPc_byteAt_6 ?_
    refine mn_alen hb rfl dPc_byteAt_9 ?_
    refine mn_icmp_lt 17 dPc_byteAt_10 (by decide) (fun c2 => ?_) (fun c2 => ?_)
    · have c2 := (nI_ltI (a := j) (b := nb) (by omega) (by omega)).mp c2
      refine mn_aload_n 0 dPc_byteAt_17 rfl rfl ?_
      refine mn_get okPc 0 lPc_24 (by decide) ha rfl dPc_byteAt_18 ?_
      refine mn_iload_n 1 dPc_byteAt_21 rfl rfl ?_
      refine mn_ialdN (j := j) hb rfl (by omega) (by omega) dPc_byteAt_22 ?_
      exact mn_iret rfl dPc_byteAt_23 ⟨rfl, rfl⟩
    · have c2 := mt (nI_ltI (a := j) (b := nb) (by omega) (by omega)).mpr c2
      refine mn_iconst (v := 0) dPc_byteAt_13 (by decide) ?_
      refine mn_goto 23 dPc_byteAt_14 (by decide) ?_
      exact mn_iret rfl dPc_byteAt_23 (absurd hj (by omega))
set_option maxRecDepth 100000 in
theorem c_P_put {E : mn_En} {g : mn_H} {a nb m w : Nat} {fb fl fs : Nat → Int32} (ha : mn_at g a (.inr (2, [.ref (a + 3), .ref (a + 1), .ref (a + 2), .int (nI m), .int (nI w)]))) (hb : mn_at g (a + 3) (.inl (0, nb, .inl fb))) (hl : mn_at g (a + 1) (.inl (0, 60, .inl fl))) (hs : mn_at g (a + 2) (.inl (0, 60, .inl fs))) (hnb : nb < 5000) {j : Nat} (hj : j < nb) {x : Int32} : mn_R E MPc_put 0 0 0 0 0 [(0, .ref a), (1, .int (nI j)), (2, .int x)] [] g (mn_is none (mn_set g (a + 3) (.inl (0, nb, .inl (upd fb j x))))) := by
  refine mn_iload_n 1 dPc_put_0 rfl rfl ?_
  refine mn_if_lt 20 dPc_put_1 (by decide) (fun c1 => ?_) (fun c1 => ?_)
  · exact absurd c1 (nI_pos (by omega))
  · refine mn_iload_n 1 dPc_put_4 rfl rfl ?_
    refine mn_aload_n 0 dPc_put_5 rfl rfl ?_
    refine mn_get okPc 0 lPc_24 (by decide) ha rfl dPc_put_6 ?_
    refine mn_alen hb rfl dPc_put_9 ?_
    refine mn_icmp_ge 20 dPc_put_10 (by decide) (fun c2 => ?_) (fun c2 => ?_)
    · have c2 := (nI_leI (a := nb) (b := j) (by omega) (by omega)).mp c2
      exact mn_vret rfl dPc_put_20 (absurd hj (by omega))
    · have c2 := mt (nI_leI (a := nb) (b := j) (by omega) (by omega)).mpr c2
      refine mn_aload_n 0 dPc_put_13 rfl rfl ?_
      refine mn_get okPc 0 lPc_24 (by decide) ha rfl dPc_put_14 ?_
      refine mn_iload_n 1 dPc_put_17 rfl rfl ?_
      refine mn_iload_n 2 dPc_put_18 rfl rfl ?_
      refine mn_iastN (j := j) hb rfl (by omega) (by omega) dPc_put_19 ?_
      obtain ⟨g3, eg3⟩ : ∃ gg_, gg_ = mn_set g (a + 3) (.inl (0, nb, .inl (upd fb j x))) := ⟨_, rfl⟩
      refine mn_R.toG eg3 ?_
      have ha_g3 : mn_at g3 a (.inr (2, [.ref (a + 3), .ref (a + 1), .ref (a + 2), .int (nI m), .int (nI w)])) := by rw [eg3]; exact ha.off (by omega)
      have hb_g3 : mn_at g3 (a + 3) (.inl (0, nb, .inl (upd fb j x))) := by rw [eg3]; exact hb.same
      have hl_g3 : mn_at g3 (a + 1) (.inl (0, 60, .inl fl)) := by rw [eg3]; exact hl.off (by omega)
      have hs_g3 : mn_at g3 (a + 2) (.inl (0, 60, .inl fs)) := by rw [eg3]; exact hs.off (by omega)
      exact mn_vret rfl dPc_put_20 ⟨rfl, eg3⟩
set_option maxRecDepth 100000 in
theorem c_P_sum {E : mn_En} {g : mn_H} {a nb m w : Nat} {fb fl fs : Nat → Int32} (ha : mn_at g a (.inr (2, [.ref (a + 3), .ref (a + 1), .ref (a + 2), .int (nI m), .int (nI w)]))) (hb : mn_at g (a + 3) (.inl (0, nb, .inl fb))) (hl : mn_at g (a + 1) (.inl (0, 60, .inl fl))) (hs : mn_at g (a + 2) (.inl (0, 60, .inl fs))) (hnb : nb < 5000) {i j : Nat} (hij : i ≤ j) (hj : j ≤ nb) : mn_R E MPc_sum 2 45 0 0 0 [(0, .ref a), (1, .int (nI i)), (2, .int (nI j))] [] g (mn_is (some (.int (su fb i (j - i)))) g) := by
  refine mn_aload_n 0 dPc_sum_0 rfl rfl ?_
  refine mn_get okPc 0 lPc_24 (by decide) ha rfl dPc_sum_1 ?_
  refine mn_iload_n 1 dPc_sum_4 rfl rfl ?_
  refine mn_iload_n 2 dPc_sum_5 rfl rfl ?_
  refine mn_cS (As := [.ref (a + 3), .int (nI i), .int (nI j)]) (stk' := [.int (su fb i (j - i))]) okBy_sum lPc_40 dPc_sum_6 rfl rfl (Nat.le_of_ble_eq_true rfl) (Nat.le_of_ble_eq_true rfl) (by decide) (c_sum hb (a := i) (b := j) (by omega) (by omega) (by omega)) rfl ?_
  exact mn_iret rfl dPc_sum_9 ⟨rfl, rfl⟩
set_option maxRecDepth 100000 in
theorem c_P_part {E : mn_En} {g : mn_H} {a nb m w : Nat} {fb fl fs : Nat → Int32} (ha : mn_at g a (.inr (2, [.ref (a + 3), .ref (a + 1), .ref (a + 2), .int (nI m), .int (nI w)]))) (hb : mn_at g (a + 3) (.inl (0, nb, .inl fb))) (hl : mn_at g (a + 1) (.inl (0, 60, .inl fl))) (hs : mn_at g (a + 2) (.inl (0, 60, .inl fs))) (hnb : nb < 5000) {n i : Nat} (hn : n < 60) (hi : i < 80) (hw : n * w + i < nb + 12) (hw0 : n * w < 5000) : mn_R E MPc_part 1 21 0 0 0 [(0, .ref a), (1, .int (nI n)), (2, .int (nI i))] [] g (mn_is (some (.int (pt fb fl fs w n i))) g) := by
  refine mn_iload_n 1 dPc_part_0 rfl rfl ?_
  refine mn_if_lt 10 dPc_part_1 (by decide) (fun c1 => ?_) (fun c1 => ?_)
  · exact absurd c1 (nI_pos (by omega))
  · refine mn_iload_n 1 dPc_part_4 rfl rfl ?_
    refine mn_bipush (v := 60) dPc_part_5 (by decide) ?_
    refine mn_icmp_lt 12 dPc_part_7 (by decide) (fun c2 => ?_) (fun c2 => ?_)
    · have c2 := (nI_ltI (a := n) (b := 60) (by omega) (by omega)).mp c2
      refine mn_iload_n 2 dPc_part_12 rfl rfl ?_
      refine mn_bipush (v := 6) dPc_part_13 (by decide) ?_
      refine mn_icmp_ne 25 dPc_part_15 (by decide) (fun c3 => ?_) (fun c3 => ?_)
      · have c3 := mt (nI_eq (a := i) (b := 6) (by omega) (by omega)).mpr c3
        refine mn_iload_n 2 dPc_part_25 rfl rfl ?_
        refine mn_bipush (v := 7) dPc_part_26 (by decide) ?_
        refine mn_icmp_ne 38 dPc_part_28 (by decide) (fun c4 => ?_) (fun c4 => ?_)
        · have c4 := mt (nI_eq (a := i) (b := 7) (by omega) (by omega)).mpr c4
          refine mn_iload_n 2 dPc_part_38 rfl rfl ?_
          refine mn_bipush (v := 12) dPc_part_39 (by decide) ?_
          refine mn_icmp_ge 48 dPc_part_41 (by decide) (fun c5 => ?_) (fun c5 => ?_)
          · have c5 := (nI_leI (a := 12) (b := i) (by omega) (by omega)).mp c5
            refine mn_aload_n 0 dPc_part_48 rfl rfl ?_
            refine mn_iload_n 1 dPc_part_49 rfl rfl ?_
            refine mn_aload_n 0 dPc_part_50 rfl rfl ?_
            refine mn_get okPc 4 lPc_37 (by decide) ha rfl dPc_part_51 ?_
            refine mn_imul (z := nI (n * w)) dPc_part_54 (pk_mul n w) ?_
            refine mn_iload_n 2 dPc_part_55 rfl rfl ?_
            refine mn_iadd (z := nI (n * w + i)) dPc_part_56 (nI_add (n * w) i) ?_
            refine mn_bipush (v := 12) dPc_part_57 (by decide) ?_
            refine mn_isub (z := nI ((n * w + i) - 12)) dPc_part_59 (pk_sub (a := n * w + i) (b := 12) (by omega)) ?_
            refine mn_cV (As := [.int (nI ((n * w + i) - 12))]) (stk' := [.int (fb ((n * w + i) - 12))]) okPc_byteAt lPc_46 dPc_part_60 ha rfl rfl rfl rfl (Nat.le_of_ble_eq_true rfl) (Nat.le_of_ble_eq_true rfl) (by decide) (c_P_byteAt ha hb hl hs (by omega) (j := (n * w + i) - 12) (by omega)) rfl ?_
            exact mn_iret rfl dPc_part_63 ⟨by unfold pt; rw [if_neg c3, if_neg c4, if_neg (by omega)], rfl⟩
          · have c5 := mt (nI_leI (a := 12) (b := i) (by omega) (by omega)).mpr c5
            refine mn_iconst (v := 0) dPc_part_44 (by decide) ?_
            refine mn_goto 63 dPc_part_45 (by decide) ?_
            exact mn_iret rfl dPc_part_63 ⟨by unfold pt; rw [if_neg c3, if_neg c4, if_pos (by omega)], rfl⟩
        · have c4 := (nI_eq (a := i) (b := 7) (by omega) (by omega)).mp c4
          refine mn_aload_n 0 dPc_part_31 rfl rfl ?_
          refine mn_get okPc 2 lPc_15 (by decide) ha rfl dPc_part_32 ?_
          refine mn_iload_n 1 dPc_part_35 rfl rfl ?_
          refine mn_ialdN (j := n) hs rfl (by omega) (by omega) dPc_part_36 ?_
          exact mn_iret rfl dPc_part_37 ⟨by unfold pt; rw [if_neg c3, if_pos c4], rfl⟩
      · have c3 := (nI_eq (a := i) (b := 6) (by omega) (by omega)).mp c3
        refine mn_aload_n 0 dPc_part_18 rfl rfl ?_
        refine mn_get okPc 1 lPc_9 (by decide) ha rfl dPc_part_19 ?_
        refine mn_iload_n 1 dPc_part_22 rfl rfl ?_
        refine mn_ialdN (j := n) hl rfl (by omega) (by omega) dPc_part_23 ?_
        exact mn_iret rfl dPc_part_24 ⟨by unfold pt; rw [if_pos c3], rfl⟩
    · have c2 := mt (nI_ltI (a := n) (b := 60) (by omega) (by omega)).mpr c2
      refine mn_iconst (v := 0) dPc_part_10 (by decide) ?_
      exact mn_iret rfl dPc_part_11 (absurd hn (by omega))
set_option maxRecDepth 100000 in
theorem c_P_putPart {E : mn_En} {g : mn_H} {a nb m w : Nat} {fb fl fs : Nat → Int32} (ha : mn_at g a (.inr (2, [.ref (a + 3), .ref (a + 1), .ref (a + 2), .int (nI m), .int (nI w)]))) (hb : mn_at g (a + 3) (.inl (0, nb, .inl fb))) (hl : mn_at g (a + 1) (.inl (0, 60, .inl fl))) (hs : mn_at g (a + 2) (.inl (0, 60, .inl fs))) (hnb : nb < 5000) {n i : Nat} (hn : n < 60) (hi : i < 80) (hw : n * w + i < nb + 12) (hw0 : n * w < 5000) {x : Int32} : mn_R E MPc_putPart 1 22 0 0 0 [(0, .ref a), (1, .int (nI n)), (2, .int (nI i)), (3, .int x)] [] g (fun v g' => v = none ∧ mn_fr (fun q => q = a + 1 ∨ q = a + 2 ∨ q = a + 3) g g' ∧ mn_at g' (a + 3) (.inl (0, nb, .inl (ppB w n i x fb))) ∧ mn_at g' (a + 1) (.inl (0, 60, .inl (ppL n i x fl))) ∧ mn_at g' (a + 2) (.inl (0, 60, .inl (ppS n i x fs)))) := by
  refine mn_iload_n 1 dPc_putPart_0 rfl rfl ?_
  refine mn_if_lt 10 dPc_putPart_1 (by decide) (fun c1 => ?_) (fun c1 => ?_)
  · exact absurd c1 (nI_pos (by omega))
  · refine mn_iload_n 1 dPc_putPart_4 rfl rfl ?_
    refine mn_bipush (v := 60) dPc_putPart_5 (by decide) ?_
    refine mn_icmp_lt 11 dPc_putPart_7 (by decide) (fun c2 => ?_) (fun c2 => ?_)
    · have c2 := (nI_ltI (a := n) (b := 60) (by omega) (by omega)).mp c2
      refine mn_iload_n 2 dPc_putPart_11 rfl rfl ?_
      refine mn_bipush (v := 6) dPc_putPart_12 (by decide) ?_
      refine mn_icmp_ne 27 dPc_putPart_14 (by decide) (fun c3 => ?_) (fun c3 => ?_)
      · have c3 := mt (nI_eq (a := i) (b := 6) (by omega) (by omega)).mpr c3
        refine mn_iload_n 2 dPc_putPart_27 rfl rfl ?_
        refine mn_bipush (v := 7) dPc_putPart_28 (by decide) ?_
        refine mn_icmp_ne 43 dPc_putPart_30 (by decide) (fun c4 => ?_) (fun c4 => ?_)
        · have c4 := mt (nI_eq (a := i) (b := 7) (by omega) (by omega)).mpr c4
          refine mn_iload_n 2 dPc_putPart_43 rfl rfl ?_
          refine mn_bipush (v := 12) dPc_putPart_44 (by decide) ?_
          refine mn_icmp_lt 65 dPc_putPart_46 (by decide) (fun c5 => ?_) (fun c5 => ?_)
          · have c5 := (nI_ltI (a := i) (b := 12) (by omega) (by omega)).mp c5
            exact mn_vret rfl dPc_putPart_65 ⟨rfl, mn_fr.rf, by unfold ppB; rw [if_neg (by omega)]; exact hb, by unfold ppL; rw [if_neg c3]; exact hl, by unfold ppS; rw [if_neg c4]; exact hs⟩
          · have c5 := mt (nI_ltI (a := i) (b := 12) (by omega) (by omega)).mpr c5
            refine mn_aload_n 0 dPc_putPart_49 rfl rfl ?_
            refine mn_iload_n 1 dPc_putPart_50 rfl rfl ?_
            refine mn_aload_n 0 dPc_putPart_51 rfl rfl ?_
            refine mn_get okPc 4 lPc_37 (by decide) ha rfl dPc_putPart_52 ?_
            refine mn_imul (z := nI (n * w)) dPc_putPart_55 (pk_mul n w) ?_
            refine mn_iload_n 2 dPc_putPart_56 rfl rfl ?_
            refine mn_iadd (z := nI (n * w + i)) dPc_putPart_57 (nI_add (n * w) i) ?_
            refine mn_bipush (v := 12) dPc_putPart_58 (by decide) ?_
            refine mn_isub (z := nI ((n * w + i) - 12)) dPc_putPart_60 (pk_sub (a := n * w + i) (b := 12) (by omega)) ?_
            refine mn_iload_n 3 dPc_putPart_61 rfl rfl ?_
            refine mn_cV (As := [.int (nI ((n * w + i) - 12)), .int x]) (stk' := []) okPc_put lPc_50 dPc_putPart_62 ha rfl rfl rfl rfl (Nat.le_of_ble_eq_true rfl) (Nat.le_of_ble_eq_true rfl) (by decide) (c_P_put ha hb hl hs (by omega) (j := (n * w + i) - 12) (by omega)) rfl ?_
            obtain ⟨g6, eg6⟩ : ∃ gg_, gg_ = mn_set g (a + 3) (.inl (0, nb, .inl (upd fb ((n * w + i) - 12) x))) := ⟨_, rfl⟩
            refine mn_R.toG eg6 ?_
            have ha_g6 : mn_at g6 a (.inr (2, [.ref (a + 3), .ref (a + 1), .ref (a + 2), .int (nI m), .int (nI w)])) := by rw [eg6]; exact ha.off (by omega)
            have hb_g6 : mn_at g6 (a + 3) (.inl (0, nb, .inl (upd fb ((n * w + i) - 12) x))) := by rw [eg6]; exact hb.same
            have hl_g6 : mn_at g6 (a + 1) (.inl (0, 60, .inl fl)) := by rw [eg6]; exact hl.off (by omega)
            have hs_g6 : mn_at g6 (a + 2) (.inl (0, 60, .inl fs)) := by rw [eg6]; exact hs.off (by omega)
            exact mn_vret rfl dPc_putPart_65 ⟨rfl, (mn_fr.rf.set eg6 (by omega)), by unfold ppB; rw [if_pos (by omega)]; exact hb_g6, by unfold ppL; rw [if_neg c3]; exact hl_g6, by unfold ppS; rw [if_neg c4]; exact hs_g6⟩
        · have c4 := (nI_eq (a := i) (b := 7) (by omega) (by omega)).mp c4
          refine mn_aload_n 0 dPc_putPart_33 rfl rfl ?_
          refine mn_get okPc 2 lPc_15 (by decide) ha rfl dPc_putPart_34 ?_
          refine mn_iload_n 1 dPc_putPart_37 rfl rfl ?_
          refine mn_iload_n 3 dPc_putPart_38 rfl rfl ?_
          refine mn_iastN (j := n) hs rfl (by omega) (by omega) dPc_putPart_39 ?_
          obtain ⟨g7, eg7⟩ : ∃ gg_, gg_ = mn_set g (a + 2) (.inl (0, 60, .inl (upd fs n x))) := ⟨_, rfl⟩
          refine mn_R.toG eg7 ?_
          have ha_g7 : mn_at g7 a (.inr (2, [.ref (a + 3), .ref (a + 1), .ref (a + 2), .int (nI m), .int (nI w)])) := by rw [eg7]; exact ha.off (by omega)
          have hb_g7 : mn_at g7 (a + 3) (.inl (0, nb, .inl fb)) := by rw [eg7]; exact hb.off (by omega)
          have hl_g7 : mn_at g7 (a + 1) (.inl (0, 60, .inl fl)) := by rw [eg7]; exact hl.off (by omega)
          have hs_g7 : mn_at g7 (a + 2) (.inl (0, 60, .inl (upd fs n x))) := by rw [eg7]; exact hs.same
          refine mn_goto 65 dPc_putPart_40 (by decide) ?_
          exact mn_vret rfl dPc_putPart_65 ⟨rfl, (mn_fr.rf.set eg7 (by omega)), by unfold ppB; rw [if_neg (by omega)]; exact hb_g7, by unfold ppL; rw [if_neg c3]; exact hl_g7, by unfold ppS; rw [if_pos c4]; exact hs_g7⟩
      · have c3 := (nI_eq (a := i) (b := 6) (by omega) (by omega)).mp c3
        refine mn_aload_n 0 dPc_putPart_17 rfl rfl ?_
        refine mn_get okPc 1 lPc_9 (by decide) ha rfl dPc_putPart_18 ?_
        refine mn_iload_n 1 dPc_putPart_21 rfl rfl ?_
        refine mn_iload_n 3 dPc_putPart_22 rfl rfl ?_
        refine mn_iastN (j := n) hl rfl (by omega) (by omega) dPc_putPart_23 ?_
        obtain ⟨g8, eg8⟩ : ∃ gg_, gg_ = mn_set g (a + 1) (.inl (0, 60, .inl (upd fl n x))) := ⟨_, rfl⟩
        refine mn_R.toG eg8 ?_
        have ha_g8 : mn_at g8 a (.inr (2, [.ref (a + 3), .ref (a + 1), .ref (a + 2), .int (nI m), .int (nI w)])) := by rw [eg8]; exact ha.off (by omega)
        have hb_g8 : mn_at g8 (a + 3) (.inl (0, nb, .inl fb)) := by rw [eg8]; exact hb.off (by omega)
        have hl_g8 : mn_at g8 (a + 1) (.inl (0, 60, .inl (upd fl n x))) := by rw [eg8]; exact hl.same
        have hs_g8 : mn_at g8 (a + 2) (.inl (0, 60, .inl fs)) := by rw [eg8]; exact hs.off (by omega)
        refine mn_goto 65 dPc_putPart_24 (by decide) ?_
        exact mn_vret rfl dPc_putPart_65 ⟨rfl, (mn_fr.rf.set eg8 (by omega)), by unfold ppB; rw [if_neg (by omega)]; exact hb_g8, by unfold ppL; rw [if_pos c3]; exact hl_g8, by unfold ppS; rw [if_neg (by omega)]; exact hs_g8⟩
    · have c2 := mt (nI_ltI (a := n) (b := 60) (by omega) (by omega)).mpr c2
      exact mn_vret rfl dPc_putPart_10 (absurd hn (by omega))
end
section
set_option maxRecDepth 100000 in
theorem c_T_add {E : mn_En} {g : mn_H} {a l : Nat} {f : Nat → Int32} (ha : mn_at g a (.inr (7, [.ref (a + 1), .int (nI l)]))) (hr : mn_at g (a + 1) (.inl (0, 60, .inl f))) (hl : l < 60) {x : Int32} : mn_R E MTa_add 0 0 0 0 0 [(0, .ref a), (1, .int x)] [] g (fun v g' => v = none ∧ mn_fr (fun q => q = a ∨ q = a + 1) g g' ∧ mn_at g' a (.inr (7, [.ref (a + 1), .int (nI (l + 1))])) ∧ mn_at g' (a + 1) (.inl (0, 60, .inl (upd f l x)))) := by
  refine mn_aload_n 0 dTa_add_0 rfl rfl ?_
  refine mn_get okTa 1 lTa_19 (by decide) ha rfl dTa_add_1 ?_
  refine mn_if_lt 36 dTa_add_4 (by decide) (fun c1 => ?_) (fun c1 => ?_)
  · exact absurd c1 (nI_pos (by omega))
  · refine mn_aload_n 0 dTa_add_7 rfl rfl ?_
    refine mn_get okTa 1 lTa_19 (by decide) ha rfl dTa_add_8 ?_
    refine mn_bipush (v := 60) dTa_add_11 (by decide) ?_
    refine mn_icmp_ge 36 dTa_add_13 (by decide) (fun c2 => ?_) (fun c2 => ?_)
    · have c2 := (nI_leI (a := 60) (b := l) (by omega) (by omega)).mp c2
      exact mn_vret rfl dTa_add_36 (absurd hl (by omega))
    · have c2 := mt (nI_leI (a := 60) (b := l) (by omega) (by omega)).mpr c2
      refine mn_aload_n 0 dTa_add_16 rfl rfl ?_
      refine mn_get okTa 0 lTa_9 (by decide) ha rfl dTa_add_17 ?_
      refine mn_aload_n 0 dTa_add_20 rfl rfl ?_
      refine mn_get okTa 1 lTa_19 (by decide) ha rfl dTa_add_21 ?_
      refine mn_iload_n 1 dTa_add_24 rfl rfl ?_
      refine mn_iastN (j := l) hr rfl (by omega) (by omega) dTa_add_25 ?_
      obtain ⟨g3, eg3⟩ : ∃ gg_, gg_ = mn_set g (a + 1) (.inl (0, 60, .inl (upd f l x))) := ⟨_, rfl⟩
      refine mn_R.toG eg3 ?_
      have ha_g3 : mn_at g3 a (.inr (7, [.ref (a + 1), .int (nI l)])) := by rw [eg3]; exact ha.off (by omega)
      have hr_g3 : mn_at g3 (a + 1) (.inl (0, 60, .inl (upd f l x))) := by rw [eg3]; exact hr.same
      refine mn_aload_n 0 dTa_add_26 rfl rfl ?_
      refine mn_dup dTa_add_27 rfl ?_
      refine mn_get okTa 1 lTa_19 (by decide) ha_g3 rfl dTa_add_28 ?_
      refine mn_iconst (v := 1) dTa_add_31 (by decide) ?_
      refine mn_iadd (z := nI (l + 1)) dTa_add_32 (nI_add l 1) ?_
      refine mn_putf okTa 1 lTa_19 (by decide) rfl ha_g3 rfl rfl (Nat.le_of_ble_eq_true rfl) dTa_add_33 ?_
      obtain ⟨g4, eg4⟩ : ∃ gg_, gg_ = mn_set g3 a (.inr (7, [.ref (a + 1), .int (nI (l + 1))])) := ⟨_, rfl⟩
      refine mn_R.toG eg4 ?_
      have ha_g4 : mn_at g4 a (.inr (7, [.ref (a + 1), .int (nI (l + 1))])) := by rw [eg4]; exact ha_g3.same
      have hr_g4 : mn_at g4 (a + 1) (.inl (0, 60, .inl (upd f l x))) := by rw [eg4]; exact hr_g3.off (by omega)
      exact mn_vret rfl dTa_add_36 ⟨rfl, ((mn_fr.rf.set eg3 (by show (a + 1) = a ∨ (a + 1) = a + 1; omega)).set eg4 (by show a = a ∨ a = a + 1; omega)), ha_g4, hr_g4⟩
set_option maxRecDepth 100000 in
theorem c_T_addN {E : mn_En} {g : mn_H} {a l : Nat} {f : Nat → Int32} (ha : mn_at g a (.inr (7, [.ref (a + 1), .int (nI l)]))) (hr : mn_at g (a + 1) (.inl (0, 60, .inl f))) (hl : l + 4 ≤ 60) {x : Int32} : mn_R E MTa_addNumber 1 22 0 0 0 [(0, .ref a), (1, .int x)] [] g (fun v g' => v = none ∧ mn_fr (fun q => q = a ∨ q = a + 1) g g' ∧ mn_at g' a (.inr (7, [.ref (a + 1), .int (nI (l + 4))])) ∧ mn_at g' (a + 1) (.inl (0, 60, .inl (up4 f l x)))) := by
  refine mn_bipush (v := 24) dTa_addNumber_0 (by decide) ?_
  refine mn_istore_n (ls' := [(0, .ref a), (1, .int x), (2, .int 24)]) dTa_addNumber_2 rfl (by decide) rfl ?_
  refine mn_iload_n 2 dTa_addNumber_3 rfl rfl ?_
  refine mn_if_lt 24 dTa_addNumber_4 (by decide) (fun c1 => ?_) (fun c1 => ?_)
  · exact absurd c1 (by decide)
  · refine mn_aload_n 0 dTa_addNumber_7 rfl rfl ?_
    refine mn_iload_n 1 dTa_addNumber_8 rfl rfl ?_
    refine mn_iload_n 2 dTa_addNumber_9 rfl rfl ?_
    refine mn_iushr (z := (Int32.toUInt32 x >>> (Int32.toUInt32 24 &&& Int32.toUInt32 31)).toInt32) dTa_addNumber_10 rfl ?_
    refine mn_sipush (v := 255) dTa_addNumber_11 (by decide) ?_
    refine mn_iand (z := ((Int32.toUInt32 x >>> (Int32.toUInt32 24 &&& Int32.toUInt32 31)).toInt32) &&& 255) dTa_addNumber_14 rfl ?_
    refine mn_callV (As := [.int (((Int32.toUInt32 x >>> (Int32.toUInt32 24 &&& Int32.toUInt32 31)).toInt32) &&& 255)]) (st := []) okTa_add lTa_15 dTa_addNumber_15 ha rfl rfl rfl rfl (Nat.le_of_ble_eq_true rfl) (Nat.le_of_ble_eq_true rfl) (by decide) (c_T_add ha hr (by omega)) (fun v g2 hq => ?_)
    obtain ⟨rfl, fg2, ha_g2, hr_g2⟩ := hq
    show mn_R E MTa_addNumber 1 22 _ _ 18 [(0, .ref a), (1, .int x), (2, .int 24)] [] g2 _
    refine mn_iinc (v := 16) (ls' := [(0, .ref a), (1, .int x), (2, .int 16)]) 2 dTa_addNumber_18 rfl (by decide) (by decide) rfl ?_
    refine mn_goto 3 dTa_addNumber_21 (by decide) ?_
    refine mn_iload_n 2 dTa_addNumber_3 rfl rfl ?_
    refine mn_if_lt 24 dTa_addNumber_4 (by decide) (fun c3 => ?_) (fun c3 => ?_)
    · exact absurd c3 (by decide)
    · refine mn_aload_n 0 dTa_addNumber_7 rfl rfl ?_
      refine mn_iload_n 1 dTa_addNumber_8 rfl rfl ?_
      refine mn_iload_n 2 dTa_addNumber_9 rfl rfl ?_
      refine mn_iushr (z := (Int32.toUInt32 x >>> (Int32.toUInt32 16 &&& Int32.toUInt32 31)).toInt32) dTa_addNumber_10 rfl ?_
      refine mn_sipush (v := 255) dTa_addNumber_11 (by decide) ?_
      refine mn_iand (z := ((Int32.toUInt32 x >>> (Int32.toUInt32 16 &&& Int32.toUInt32 31)).toInt32) &&& 255) dTa_addNumber_14 rfl ?_
      refine mn_callV (As := [.int (((Int32.toUInt32 x >>> (Int32.toUInt32 16 &&& Int32.toUInt32 31)).toInt32) &&& 255)]) (st := []) okTa_add lTa_15 dTa_addNumber_15 ha_g2 rfl rfl rfl rfl (Nat.le_of_ble_eq_true rfl) (Nat.le_of_ble_eq_true rfl) (by decide) (c_T_add ha_g2 hr_g2 (by omega)) (fun v g4 hq => ?_)
      obtain ⟨rfl, fg4, ha_g4, hr_g4⟩ := hq
      show mn_R E MTa_addNumber 1 22 _ _ 18 [(0, .ref a), (1, .int x), (2, .int 16)] [] g4 _
      refine mn_iinc (v := 8) (ls' := [(0, .ref a), (1, .int x), (2, .int 8)]) 2 dTa_addNumber_18 rfl (by decide) (by decide) rfl ?_
      refine mn_goto 3 dTa_addNumber_21 (by decide) ?_
      refine mn_iload_n 2 dTa_addNumber_3 rfl rfl ?_
      refine mn_if_lt 24 dTa_addNumber_4 (by decide) (fun c5 => ?_) (fun c5 => ?_)
      · exact absurd c5 (by decide)
      · refine mn_aload_n 0 dTa_addNumber_7 rfl rfl ?_
        refine mn_iload_n 1 dTa_addNumber_8 rfl rfl ?_
        refine mn_iload_n 2 dTa_addNumber_9 rfl rfl ?_
        refine mn_iushr (z := (Int32.toUInt32 x >>> (Int32.toUInt32 8 &&& Int32.toUInt32 31)).toInt32) dTa_addNumber_10 rfl ?_
        refine mn_sipush (v := 255) dTa_addNumber_11 (by decide) ?_
        refine mn_iand (z := ((Int32.toUInt32 x >>> (Int32.toUInt32 8 &&& Int32.toUInt32 31)).toInt32) &&& 255) dTa_addNumber_14 rfl ?_
        refine mn_callV (As := [.int (((Int32.toUInt32 x >>> (Int32.toUInt32 8 &&& Int32.toUInt32 31)).toInt32) &&& 255)]) (st := []) okTa_add lTa_15 dTa_addNumber_15 ha_g4 rfl rfl rfl rfl (Nat.le_of_ble_eq_true rfl) (Nat.le_of_ble_eq_true rfl) (by decide) (c_T_add ha_g4 hr_g4 (by omega)) (fun v g6 hq => ?_)
        obtain ⟨rfl, fg6, ha_g6, hr_g6⟩ := hq
        show mn_R E MTa_addNumber 1 22 _ _ 18 [(0, .ref a), (1, .int x), (2, .int 8)] [] g6 _
        refine mn_iinc (v := 0) (ls' := [(0, .ref a), (1, .int x), (2, .int 0)]) 2 dTa_addNumber_18 rfl (by decide) (by decide) rfl ?_
        refine mn_goto 3 dTa_addNumber_21 (by decide) ?_
        refine mn_iload_n 2 dTa_addNumber_3 rfl rfl ?_
        refine mn_if_lt 24 dTa_addNumber_4 (by decide) (fun c7 => ?_) (fun c7 => ?_)
        · exact absurd c7 (by decide)
        · refine mn_aload_n 0 dTa_addNumber_7 rfl rfl ?_
          refine mn_iload_n 1 dTa_addNumber_8 rfl rfl ?_
          refine mn_iload_n 2 dTa_addNumber_9 rfl rfl ?_
          refine mn_iushr (z := (Int32.toUInt32 x >>> (Int32.toUInt32 0 &&& Int32.toUInt32 31)).toInt32) dTa_addNumber_10 rfl ?_
          refine mn_sipush (v := 255) dTa_addNumber_11 (by decide) ?_
          refine mn_iand (z := ((Int32.toUInt32 x >>> (Int32.toUInt32 0 &&& Int32.toUInt32 31)).toInt32) &&& 255) dTa_addNumber_14 rfl ?_
          refine mn_callV (As := [.int (((Int32.toUInt32 x >>> (Int32.toUInt32 0 &&& Int32.toUInt32 31)).toInt32) &&& 255)]) (st := []) okTa_add lTa_15 dTa_addNumber_15 ha_g6 rfl rfl rfl rfl (Nat.le_of_ble_eq_true rfl) (Nat.le_of_ble_eq_true rfl) (by decide) (c_T_add ha_g6 hr_g6 (by omega)) (fun v g8 hq => ?_)
          obtain ⟨rfl, fg8, ha_g8, hr_g8⟩ := hq
          show mn_R E MTa_addNumber 1 22 _ _ 18 [(0, .ref a), (1, .int x), (2, .int 0)] [] g8 _
          refine mn_iinc (v := (-8)) (ls' := [(0, .ref a), (1, .int x), (2, .int (-8))]) 2 dTa_addNumber_18 rfl (by decide) (by decide) rfl ?_
          refine mn_goto 3 dTa_addNumber_21 (by decide) ?_
          refine mn_iload_n 2 dTa_addNumber_3 rfl rfl ?_
          refine mn_if_lt 24 dTa_addNumber_4 (by decide) (fun c9 => ?_) (fun c9 => ?_)
          · exact mn_vret rfl dTa_addNumber_24 ⟨rfl, ((((mn_fr.rf.tr (fg2.mo (fun q h => by have h9 : q = a ∨ q = a + 1 := h; show q = a ∨ q = a + 1; omega))).tr (fg4.mo (fun q h => by have h9 : q = a ∨ q = a + 1 := h; show q = a ∨ q = a + 1; omega))).tr (fg6.mo (fun q h => by have h9 : q = a ∨ q = a + 1 := h; show q = a ∨ q = a + 1; omega))).tr (fg8.mo (fun q h => by have h9 : q = a ∨ q = a + 1 := h; show q = a ∨ q = a + 1; omega))), ha_g8, hr_g8⟩
          · exact absurd c9 (by decide)
set_option maxRecDepth 100000 in
theorem c_T_byteAt {E : mn_En} {g : mn_H} {a l : Nat} {f : Nat → Int32} (ha : mn_at g a (.inr (7, [.ref (a + 1), .int (nI l)]))) (hr : mn_at g (a + 1) (.inl (0, 60, .inl f))) {j : Nat} (hj : j < 60) : mn_R E MTa_byteAt 0 0 0 0 0 [(0, .ref a), (1, .int (nI j))] [] g (mn_is (some (.int (f j))) g) := by
  refine mn_iload_n 1 dTa_byteAt_0 rfl rfl ?_
  refine mn_if_lt 10 dTa_byteAt_1 (by decide) (fun c1 => ?_) (fun c1 => ?_)
  · exact absurd c1 (nI_pos (by omega))
  · refine mn_iload_n 1 dTa_byteAt_4 rfl rfl ?_
    refine mn_bipush (v := 60) dTa_byteAt_5 (by decide) ?_
    refine mn_icmp_lt 14 dTa_byteAt_7 (by decide) (fun c2 => ?_) (fun c2 => ?_)
    · have c2 := (nI_ltI (a := j) (b := 60) (by omega) (by omega)).mp c2
      refine mn_aload_n 0 dTa_byteAt_14 rfl rfl ?_
      refine mn_get okTa 0 lTa_9 (by decide) ha rfl dTa_byteAt_15 ?_
      refine mn_iload_n 1 dTa_byteAt_18 rfl rfl ?_
      refine mn_ialdN (j := j) hr rfl (by omega) (by omega) dTa_byteAt_19 ?_
      exact mn_iret rfl dTa_byteAt_20 ⟨rfl, rfl⟩
    · have c2 := mt (nI_ltI (a := j) (b := 60) (by omega) (by omega)).mpr c2
      refine mn_iconst (v := 0) dTa_byteAt_10 (by decide) ?_
      refine mn_goto 20 dTa_byteAt_11 (by decide) ?_
      exact mn_iret rfl dTa_byteAt_20 (absurd hj (by omega))
set_option maxRecDepth 100000 in
theorem c_T_sum {E : mn_En} {g : mn_H} {a l : Nat} {f : Nat → Int32} (ha : mn_at g a (.inr (7, [.ref (a + 1), .int (nI l)]))) (hr : mn_at g (a + 1) (.inl (0, 60, .inl f))) (hl : l ≤ 60) : mn_R E MTa_sum 2 45 0 0 0 [(0, .ref a)] [] g (mn_is (some (.int (su f 0 l))) g) := by
  refine mn_aload_n 0 dTa_sum_0 rfl rfl ?_
  refine mn_get okTa 0 lTa_9 (by decide) ha rfl dTa_sum_1 ?_
  refine mn_iconst (v := 0) dTa_sum_4 (by decide) ?_
  refine mn_aload_n 0 dTa_sum_5 rfl rfl ?_
  refine mn_get okTa 1 lTa_19 (by decide) ha rfl dTa_sum_6 ?_
  refine mn_cS (As := [.ref (a + 1), .int 0, .int (nI l)]) (stk' := [.int (su f 0 l)]) okBy_sum lTa_23 dTa_sum_9 rfl rfl (Nat.le_of_ble_eq_true rfl) (Nat.le_of_ble_eq_true rfl) (by decide) (c_sum hr (a := 0) (b := l) (by omega) (by omega) (by omega)) rfl ?_
  exact mn_iret rfl dTa_sum_12 ⟨rfl, rfl⟩
set_option maxRecDepth 100000 in
theorem c_R_width {E : mn_En} {g : mn_H} {a sz rp st : Nat} (ha : mn_at g a (.inr (4, [.int (nI sz), .int (nI rp), .int (nI st)]))) (hs : 20 ≤ sz) : mn_R E MRu_width 0 0 0 0 0 [(0, .ref a)] [] g (mn_is (some (.int (nI (sz - 12)))) g) := by
  refine mn_aload_n 0 dRu_width_0 rfl rfl ?_
  refine mn_get okRu 0 lRu_9 (by decide) ha rfl dRu_width_1 ?_
  refine mn_bipush (v := 12) dRu_width_4 (by decide) ?_
  refine mn_isub (z := nI (sz - 12)) dRu_width_6 (pk_sub (a := sz) (b := 12) (by omega)) ?_
  exact mn_iret rfl dRu_width_7 ⟨rfl, rfl⟩
set_option maxRecDepth 100000 in
theorem c_R_changeSize {E : mn_En} {g : mn_H} {a sz rp st : Nat} (ha : mn_at g a (.inr (4, [.int (nI sz), .int (nI rp), .int (nI st)]))) {k : Nat} (hk : 20 ≤ k) (hk2 : k ≤ 80) : mn_R E MRu_changeSize 0 0 0 0 0 [(0, .ref a), (1, .int (nI k))] [] g (fun v g' => v = some (.int (nI sz)) ∧ mn_fr (fun q => q = a) g g' ∧ mn_at g' a (.inr (4, [.int (nI k), .int (nI rp), .int (nI st)]))) := by
  refine mn_iload_n 1 dRu_changeSize_0 rfl rfl ?_
  refine mn_bipush (v := 20) dRu_changeSize_1 (by decide) ?_
  refine mn_icmp_lt 12 dRu_changeSize_3 (by decide) (fun c1 => ?_) (fun c1 => ?_)
  · have c1 := (nI_ltI (a := k) (b := 20) (by omega) (by omega)).mp c1
    refine mn_iconst (v := -1) dRu_changeSize_12 (by decide) ?_
    exact mn_iret rfl dRu_changeSize_13 (absurd hk2 (by omega))
  · have c1 := mt (nI_ltI (a := k) (b := 20) (by omega) (by omega)).mpr c1
    refine mn_iload_n 1 dRu_changeSize_6 rfl rfl ?_
    refine mn_bipush (v := 80) dRu_changeSize_7 (by decide) ?_
    refine mn_icmp_le 14 dRu_changeSize_9 (by decide) (fun c2 => ?_) (fun c2 => ?_)
    · have c2 := (nI_leI (a := k) (b := 80) (by omega) (by omega)).mp c2
      refine mn_aload_n 0 dRu_changeSize_14 rfl rfl ?_
      refine mn_get okRu 0 lRu_9 (by decide) ha rfl dRu_changeSize_15 ?_
      refine mn_istore_n (ls' := [(0, .ref a), (1, .int (nI k)), (2, .int (nI sz))]) dRu_changeSize_18 rfl (by decide) rfl ?_
      refine mn_aload_n 0 dRu_changeSize_19 rfl rfl ?_
      refine mn_iload_n 1 dRu_changeSize_20 rfl rfl ?_
      refine mn_putf okRu 0 lRu_9 (by decide) rfl ha rfl rfl (Nat.le_of_ble_eq_true rfl) dRu_changeSize_21 ?_
      obtain ⟨g3, eg3⟩ : ∃ gg_, gg_ = mn_set g a (.inr (4, [.int (nI k), .int (nI rp), .int (nI st)])) := ⟨_, rfl⟩
      refine mn_R.toG eg3 ?_
      have ha_g3 : mn_at g3 a (.inr (4, [.int (nI k), .int (nI rp), .int (nI st)])) := by rw [eg3]; exact ha.same
      refine mn_iload_n 2 dRu_changeSize_24 rfl rfl ?_
      exact mn_iret rfl dRu_changeSize_25 ⟨rfl, (mn_fr.rf.set eg3 (by show a = a; omega)), ha_g3⟩
    · have c2 := mt (nI_leI (a := k) (b := 80) (by omega) (by omega)).mpr c2
      refine mn_iconst (v := -1) dRu_changeSize_12 (by decide) ?_
      exact mn_iret rfl dRu_changeSize_13 (absurd hk2 (by omega))
set_option maxRecDepth 100000 in
theorem c_R_changeSize_bad {E : mn_En} {g : mn_H} {a sz rp st : Nat} (ha : mn_at g a (.inr (4, [.int (nI sz), .int (nI rp), .int (nI st)]))) {x : Int32} (hx : x < 20 ∨ 80 < x) : mn_R E MRu_changeSize 0 0 0 0 0 [(0, .ref a), (1, .int x)] [] g (mn_is (some (.int (-1))) g) := by
  refine mn_iload_n 1 dRu_changeSize_0 rfl rfl ?_
  refine mn_bipush (v := 20) dRu_changeSize_1 (by decide) ?_
  refine mn_icmp_lt 12 dRu_changeSize_3 (by decide) (fun c1 => ?_) (fun c1 => ?_)
  · refine mn_iconst (v := -1) dRu_changeSize_12 (by decide) ?_
    exact mn_iret rfl dRu_changeSize_13 ⟨rfl, rfl⟩
  · refine mn_iload_n 1 dRu_changeSize_6 rfl rfl ?_
    refine mn_bipush (v := 80) dRu_changeSize_7 (by decide) ?_
    refine mn_icmp_le 14 dRu_changeSize_9 (by decide) (fun c2 => ?_) (fun c2 => ?_)
    · refine mn_aload_n 0 dRu_changeSize_14 rfl rfl ?_
      refine mn_get okRu 0 lRu_9 (by decide) ha rfl dRu_changeSize_15 ?_
      refine mn_istore_n (ls' := [(0, .ref a), (1, .int x), (2, .int (nI sz))]) dRu_changeSize_18 rfl (by decide) rfl ?_
      refine mn_aload_n 0 dRu_changeSize_19 rfl rfl ?_
      refine mn_iload_n 1 dRu_changeSize_20 rfl rfl ?_
      refine mn_putf okRu 0 lRu_9 (by decide) rfl ha rfl rfl (Nat.le_of_ble_eq_true rfl) dRu_changeSize_21 ?_
      obtain ⟨g3, eg3⟩ : ∃ gg_, gg_ = mn_set g a (.inr (4, [.int x, .int (nI rp), .int (nI st)])) := ⟨_, rfl⟩
      refine mn_R.toG eg3 ?_
      have ha_g3 : mn_at g3 a (.inr (4, [.int x, .int (nI rp), .int (nI st)])) := by rw [eg3]; exact ha.same
      refine mn_iload_n 2 dRu_changeSize_24 rfl rfl ?_
      exact mn_iret rfl dRu_changeSize_25 (absurd hx (fun h => h.elim c1 (Int32.not_lt.mpr c2)))
    · refine mn_iconst (v := -1) dRu_changeSize_12 (by decide) ?_
      exact mn_iret rfl dRu_changeSize_13 ⟨rfl, rfl⟩
set_option maxRecDepth 100000 in
theorem c_R_changeRepairs {E : mn_En} {g : mn_H} {a sz rp st : Nat} (ha : mn_at g a (.inr (4, [.int (nI sz), .int (nI rp), .int (nI st)]))) {k : Nat} (hk : 0 ≤ k) (hk2 : k ≤ 3) : mn_R E MRu_changeRepairs 0 0 0 0 0 [(0, .ref a), (1, .int (nI k))] [] g (fun v g' => v = some (.int (nI rp)) ∧ mn_fr (fun q => q = a) g g' ∧ mn_at g' a (.inr (4, [.int (nI sz), .int (nI k), .int (nI st)]))) := by
  refine mn_iload_n 1 dRu_changeRepairs_0 rfl rfl ?_
  refine mn_if_lt 9 dRu_changeRepairs_1 (by decide) (fun c1 => ?_) (fun c1 => ?_)
  · exact absurd c1 (nI_pos (by omega))
  · refine mn_iload_n 1 dRu_changeRepairs_4 rfl rfl ?_
    refine mn_iconst (v := 3) dRu_changeRepairs_5 (by decide) ?_
    refine mn_icmp_le 11 dRu_changeRepairs_6 (by decide) (fun c2 => ?_) (fun c2 => ?_)
    · have c2 := (nI_leI (a := k) (b := 3) (by omega) (by omega)).mp c2
      refine mn_aload_n 0 dRu_changeRepairs_11 rfl rfl ?_
      refine mn_get okRu 1 lRu_25 (by decide) ha rfl dRu_changeRepairs_12 ?_
      refine mn_istore_n (ls' := [(0, .ref a), (1, .int (nI k)), (2, .int (nI rp))]) dRu_changeRepairs_15 rfl (by decide) rfl ?_
      refine mn_aload_n 0 dRu_changeRepairs_16 rfl rfl ?_
      refine mn_iload_n 1 dRu_changeRepairs_17 rfl rfl ?_
      refine mn_putf okRu 1 lRu_25 (by decide) rfl ha rfl rfl (Nat.le_of_ble_eq_true rfl) dRu_changeRepairs_18 ?_
      obtain ⟨g3, eg3⟩ : ∃ gg_, gg_ = mn_set g a (.inr (4, [.int (nI sz), .int (nI k), .int (nI st)])) := ⟨_, rfl⟩
      refine mn_R.toG eg3 ?_
      have ha_g3 : mn_at g3 a (.inr (4, [.int (nI sz), .int (nI k), .int (nI st)])) := by rw [eg3]; exact ha.same
      refine mn_iload_n 2 dRu_changeRepairs_21 rfl rfl ?_
      exact mn_iret rfl dRu_changeRepairs_22 ⟨rfl, (mn_fr.rf.set eg3 (by show a = a; omega)), ha_g3⟩
    · have c2 := mt (nI_leI (a := k) (b := 3) (by omega) (by omega)).mpr c2
      refine mn_iconst (v := -1) dRu_changeRepairs_9 (by decide) ?_
      exact mn_iret rfl dRu_changeRepairs_10 (absurd hk2 (by omega))
set_option maxRecDepth 100000 in
theorem c_R_changeRepairs_bad {E : mn_En} {g : mn_H} {a sz rp st : Nat} (ha : mn_at g a (.inr (4, [.int (nI sz), .int (nI rp), .int (nI st)]))) {x : Int32} (hx : x < 0 ∨ 3 < x) : mn_R E MRu_changeRepairs 0 0 0 0 0 [(0, .ref a), (1, .int x)] [] g (mn_is (some (.int (-1))) g) := by
  refine mn_iload_n 1 dRu_changeRepairs_0 rfl rfl ?_
  refine mn_if_lt 9 dRu_changeRepairs_1 (by decide) (fun c1 => ?_) (fun c1 => ?_)
  · refine mn_iconst (v := -1) dRu_changeRepairs_9 (by decide) ?_
    exact mn_iret rfl dRu_changeRepairs_10 ⟨rfl, rfl⟩
  · refine mn_iload_n 1 dRu_changeRepairs_4 rfl rfl ?_
    refine mn_iconst (v := 3) dRu_changeRepairs_5 (by decide) ?_
    refine mn_icmp_le 11 dRu_changeRepairs_6 (by decide) (fun c2 => ?_) (fun c2 => ?_)
    · refine mn_aload_n 0 dRu_changeRepairs_11 rfl rfl ?_
      refine mn_get okRu 1 lRu_25 (by decide) ha rfl dRu_changeRepairs_12 ?_
      refine mn_istore_n (ls' := [(0, .ref a), (1, .int x), (2, .int (nI rp))]) dRu_changeRepairs_15 rfl (by decide) rfl ?_
      refine mn_aload_n 0 dRu_changeRepairs_16 rfl rfl ?_
      refine mn_iload_n 1 dRu_changeRepairs_17 rfl rfl ?_
      refine mn_putf okRu 1 lRu_25 (by decide) rfl ha rfl rfl (Nat.le_of_ble_eq_true rfl) dRu_changeRepairs_18 ?_
      obtain ⟨g3, eg3⟩ : ∃ gg_, gg_ = mn_set g a (.inr (4, [.int (nI sz), .int x, .int (nI st)])) := ⟨_, rfl⟩
      refine mn_R.toG eg3 ?_
      have ha_g3 : mn_at g3 a (.inr (4, [.int (nI sz), .int x, .int (nI st)])) := by rw [eg3]; exact ha.same
      refine mn_iload_n 2 dRu_changeRepairs_21 rfl rfl ?_
      exact mn_iret rfl dRu_changeRepairs_22 (absurd hx (fun h => h.elim c1 (Int32.not_lt.mpr c2)))
    · refine mn_iconst (v := -1) dRu_changeRepairs_9 (by decide) ?_
      exact mn_iret rfl dRu_changeRepairs_10 ⟨rfl, rfl⟩
set_option maxRecDepth 100000 in
theorem c_R_changeSet {E : mn_En} {g : mn_H} {a sz rp st : Nat} (ha : mn_at g a (.inr (4, [.int (nI sz), .int (nI rp), .int (nI st)]))) {k : Nat} (hk : 0 ≤ k) (hk2 : k ≤ 255) : mn_R E MRu_changeSet 0 0 0 0 0 [(0, .ref a), (1, .int (nI k))] [] g (fun v g' => v = some (.int (nI st)) ∧ mn_fr (fun q => q = a) g g' ∧ mn_at g' a (.inr (4, [.int (nI sz), .int (nI rp), .int (nI k)]))) := by
  refine mn_iload_n 1 dRu_changeSet_0 rfl rfl ?_
  refine mn_if_lt 11 dRu_changeSet_1 (by decide) (fun c1 => ?_) (fun c1 => ?_)
  · exact absurd c1 (nI_pos (by omega))
  · refine mn_iload_n 1 dRu_changeSet_4 rfl rfl ?_
    refine mn_sipush (v := 255) dRu_changeSet_5 (by decide) ?_
    refine mn_icmp_le 13 dRu_changeSet_8 (by decide) (fun c2 => ?_) (fun c2 => ?_)
    · have c2 := (nI_leI (a := k) (b := 255) (by omega) (by omega)).mp c2
      refine mn_aload_n 0 dRu_changeSet_13 rfl rfl ?_
      refine mn_get okRu 2 lRu_28 (by decide) ha rfl dRu_changeSet_14 ?_
      refine mn_istore_n (ls' := [(0, .ref a), (1, .int (nI k)), (2, .int (nI st))]) dRu_changeSet_17 rfl (by decide) rfl ?_
      refine mn_aload_n 0 dRu_changeSet_18 rfl rfl ?_
      refine mn_iload_n 1 dRu_changeSet_19 rfl rfl ?_
      refine mn_putf okRu 2 lRu_28 (by decide) rfl ha rfl rfl (Nat.le_of_ble_eq_true rfl) dRu_changeSet_20 ?_
      obtain ⟨g3, eg3⟩ : ∃ gg_, gg_ = mn_set g a (.inr (4, [.int (nI sz), .int (nI rp), .int (nI k)])) := ⟨_, rfl⟩
      refine mn_R.toG eg3 ?_
      have ha_g3 : mn_at g3 a (.inr (4, [.int (nI sz), .int (nI rp), .int (nI k)])) := by rw [eg3]; exact ha.same
      refine mn_iload_n 2 dRu_changeSet_23 rfl rfl ?_
      exact mn_iret rfl dRu_changeSet_24 ⟨rfl, (mn_fr.rf.set eg3 (by show a = a; omega)), ha_g3⟩
    · have c2 := mt (nI_leI (a := k) (b := 255) (by omega) (by omega)).mpr c2
      refine mn_iconst (v := -1) dRu_changeSet_11 (by decide) ?_
      exact mn_iret rfl dRu_changeSet_12 (absurd hk2 (by omega))
set_option maxRecDepth 100000 in
theorem c_R_changeSet_bad {E : mn_En} {g : mn_H} {a sz rp st : Nat} (ha : mn_at g a (.inr (4, [.int (nI sz), .int (nI rp), .int (nI st)]))) {x : Int32} (hx : x < 0 ∨ 255 < x) : mn_R E MRu_changeSet 0 0 0 0 0 [(0, .ref a), (1, .int x)] [] g (mn_is (some (.int (-1))) g) := by
  refine mn_iload_n 1 dRu_changeSet_0 rfl rfl ?_
  refine mn_if_lt 11 dRu_changeSet_1 (by decide) (fun c1 => ?_) (fun c1 => ?_)
  · refine mn_iconst (v := -1) dRu_changeSet_11 (by decide) ?_
    exact mn_iret rfl dRu_changeSet_12 ⟨rfl, rfl⟩
  · refine mn_iload_n 1 dRu_changeSet_4 rfl rfl ?_
    refine mn_sipush (v := 255) dRu_changeSet_5 (by decide) ?_
    refine mn_icmp_le 13 dRu_changeSet_8 (by decide) (fun c2 => ?_) (fun c2 => ?_)
    · refine mn_aload_n 0 dRu_changeSet_13 rfl rfl ?_
      refine mn_get okRu 2 lRu_28 (by decide) ha rfl dRu_changeSet_14 ?_
      refine mn_istore_n (ls' := [(0, .ref a), (1, .int x), (2, .int (nI st))]) dRu_changeSet_17 rfl (by decide) rfl ?_
      refine mn_aload_n 0 dRu_changeSet_18 rfl rfl ?_
      refine mn_iload_n 1 dRu_changeSet_19 rfl rfl ?_
      refine mn_putf okRu 2 lRu_28 (by decide) rfl ha rfl rfl (Nat.le_of_ble_eq_true rfl) dRu_changeSet_20 ?_
      obtain ⟨g3, eg3⟩ : ∃ gg_, gg_ = mn_set g a (.inr (4, [.int (nI sz), .int (nI rp), .int x])) := ⟨_, rfl⟩
      refine mn_R.toG eg3 ?_
      have ha_g3 : mn_at g3 a (.inr (4, [.int (nI sz), .int (nI rp), .int x])) := by rw [eg3]; exact ha.same
      refine mn_iload_n 2 dRu_changeSet_23 rfl rfl ?_
      exact mn_iret rfl dRu_changeSet_24 (absurd hx (fun h => h.elim c1 (Int32.not_lt.mpr c2)))
    · refine mn_iconst (v := -1) dRu_changeSet_11 (by decide) ?_
      exact mn_iret rfl dRu_changeSet_12 ⟨rfl, rfl⟩
set_option maxRecDepth 100000 in
theorem c_R_change0 {E : mn_En} {g : mn_H} {a sz rp st : Nat} (ha : mn_at g a (.inr (4, [.int (nI sz), .int (nI rp), .int (nI st)]))) {k : Nat} (hk : 20 ≤ k) (hk2 : k ≤ 80) : mn_R E MRu_change 1 22 0 0 0 [(0, .ref a), (1, .int 0), (2, .int (nI k))] [] g (fun v g' => v = some (.int (nI sz)) ∧ mn_fr (fun q => q = a) g g' ∧ mn_at g' a (.inr (4, [.int (nI k), .int (nI rp), .int (nI st)]))) := by
  refine mn_iload_n 1 dRu_change_0 rfl rfl ?_
  refine mn_tableIn (off := 27) 28 dRu_change_1 (by decide) (by decide) (by decide) (by decide) ?_
  refine mn_aload_n 0 dRu_change_28 rfl rfl ?_
  refine mn_iload_n 2 dRu_change_29 rfl rfl ?_
  refine mn_callV (As := [.int (nI k)]) (st := []) okRu_changeSize lRu_15 dRu_change_30 ha rfl rfl rfl rfl (Nat.le_of_ble_eq_true rfl) (Nat.le_of_ble_eq_true rfl) (by decide) (c_R_changeSize ha hk hk2) (fun v g1 hq => ?_)
  obtain ⟨rfl, fg1, ha_g1⟩ := hq
  show mn_R E MRu_change 1 22 _ _ 33 [(0, .ref a), (1, .int 0), (2, .int (nI k))] [.int (nI sz)] g1 _
  exact mn_iret rfl dRu_change_33 ⟨rfl, (mn_fr.rf.tr (fg1.mo (fun q h => by have h9 : q = a := h; show q = a; omega))), ha_g1⟩
set_option maxRecDepth 100000 in
theorem c_R_change0_bad {E : mn_En} {g : mn_H} {a sz rp st : Nat} (ha : mn_at g a (.inr (4, [.int (nI sz), .int (nI rp), .int (nI st)]))) {x : Int32} (hx : x < 20 ∨ 80 < x) : mn_R E MRu_change 1 22 0 0 0 [(0, .ref a), (1, .int 0), (2, .int x)] [] g (mn_is (some (.int (-1))) g) := by
  refine mn_iload_n 1 dRu_change_0 rfl rfl ?_
  refine mn_tableIn (off := 27) 28 dRu_change_1 (by decide) (by decide) (by decide) (by decide) ?_
  refine mn_aload_n 0 dRu_change_28 rfl rfl ?_
  refine mn_iload_n 2 dRu_change_29 rfl rfl ?_
  refine mn_cV (As := [.int x]) (stk' := [.int (-1)]) okRu_changeSize lRu_15 dRu_change_30 ha rfl rfl rfl rfl (Nat.le_of_ble_eq_true rfl) (Nat.le_of_ble_eq_true rfl) (by decide) (c_R_changeSize_bad ha hx) rfl ?_
  exact mn_iret rfl dRu_change_33 ⟨rfl, rfl⟩
set_option maxRecDepth 100000 in
theorem c_R_change1 {E : mn_En} {g : mn_H} {a sz rp st : Nat} (ha : mn_at g a (.inr (4, [.int (nI sz), .int (nI rp), .int (nI st)]))) {k : Nat} (hk : 0 ≤ k) (hk2 : k ≤ 3) : mn_R E MRu_change 1 22 0 0 0 [(0, .ref a), (1, .int 1), (2, .int (nI k))] [] g (fun v g' => v = some (.int (nI rp)) ∧ mn_fr (fun q => q = a) g g' ∧ mn_at g' a (.inr (4, [.int (nI sz), .int (nI k), .int (nI st)]))) := by
  refine mn_iload_n 1 dRu_change_0 rfl rfl ?_
  refine mn_tableIn (off := 33) 34 dRu_change_1 (by decide) (by decide) (by decide) (by decide) ?_
  refine mn_aload_n 0 dRu_change_34 rfl rfl ?_
  refine mn_iload_n 2 dRu_change_35 rfl rfl ?_
  refine mn_callV (As := [.int (nI k)]) (st := []) okRu_changeRepairs lRu_19 dRu_change_36 ha rfl rfl rfl rfl (Nat.le_of_ble_eq_true rfl) (Nat.le_of_ble_eq_true rfl) (by decide) (c_R_changeRepairs ha hk hk2) (fun v g1 hq => ?_)
  obtain ⟨rfl, fg1, ha_g1⟩ := hq
  show mn_R E MRu_change 1 22 _ _ 39 [(0, .ref a), (1, .int 1), (2, .int (nI k))] [.int (nI rp)] g1 _
  exact mn_iret rfl dRu_change_39 ⟨rfl, (mn_fr.rf.tr (fg1.mo (fun q h => by have h9 : q = a := h; show q = a; omega))), ha_g1⟩
set_option maxRecDepth 100000 in
theorem c_R_change1_bad {E : mn_En} {g : mn_H} {a sz rp st : Nat} (ha : mn_at g a (.inr (4, [.int (nI sz), .int (nI rp), .int (nI st)]))) {x : Int32} (hx : x < 0 ∨ 3 < x) : mn_R E MRu_change 1 22 0 0 0 [(0, .ref a), (1, .int 1), (2, .int x)] [] g (mn_is (some (.int (-1))) g) := by
  refine mn_iload_n 1 dRu_change_0 rfl rfl ?_
  refine mn_tableIn (off := 33) 34 dRu_change_1 (by decide) (by decide) (by decide) (by decide) ?_
  refine mn_aload_n 0 dRu_change_34 rfl rfl ?_
  refine mn_iload_n 2 dRu_change_35 rfl rfl ?_
  refine mn_cV (As := [.int x]) (stk' := [.int (-1)]) okRu_changeRepairs lRu_19 dRu_change_36 ha rfl rfl rfl rfl (Nat.le_of_ble_eq_true rfl) (Nat.le_of_ble_eq_true rfl) (by decide) (c_R_changeRepairs_bad ha hx) rfl ?_
  exact mn_iret rfl dRu_change_39 ⟨rfl, rfl⟩
set_option maxRecDepth 100000 in
theorem c_R_change2 {E : mn_En} {g : mn_H} {a sz rp st : Nat} (ha : mn_at g a (.inr (4, [.int (nI sz), .int (nI rp), .int (nI st)]))) {k : Nat} (hk : 0 ≤ k) (hk2 : k ≤ 255) : mn_R E MRu_change 1 22 0 0 0 [(0, .ref a), (1, .int 2), (2, .int (nI k))] [] g (fun v g' => v = some (.int (nI st)) ∧ mn_fr (fun q => q = a) g g' ∧ mn_at g' a (.inr (4, [.int (nI sz), .int (nI rp), .int (nI k)]))) := by
  refine mn_iload_n 1 dRu_change_0 rfl rfl ?_
  refine mn_tableIn (off := 39) 40 dRu_change_1 (by decide) (by decide) (by decide) (by decide) ?_
  refine mn_aload_n 0 dRu_change_40 rfl rfl ?_
  refine mn_iload_n 2 dRu_change_41 rfl rfl ?_
  refine mn_callV (As := [.int (nI k)]) (st := []) okRu_changeSet lRu_22 dRu_change_42 ha rfl rfl rfl rfl (Nat.le_of_ble_eq_true rfl) (Nat.le_of_ble_eq_true rfl) (by decide) (c_R_changeSet ha hk hk2) (fun v g1 hq => ?_)
  obtain ⟨rfl, fg1, ha_g1⟩ := hq
  show mn_R E MRu_change 1 22 _ _ 45 [(0, .ref a), (1, .int 2), (2, .int (nI k))] [.int (nI st)] g1 _
  exact mn_iret rfl dRu_change_45 ⟨rfl, (mn_fr.rf.tr (fg1.mo (fun q h => by have h9 : q = a := h; show q = a; omega))), ha_g1⟩
set_option maxRecDepth 100000 in
theorem c_R_change2_bad {E : mn_En} {g : mn_H} {a sz rp st : Nat} (ha : mn_at g a (.inr (4, [.int (nI sz), .int (nI rp), .int (nI st)]))) {x : Int32} (hx : x < 0 ∨ 255 < x) : mn_R E MRu_change 1 22 0 0 0 [(0, .ref a), (1, .int 2), (2, .int x)] [] g (mn_is (some (.int (-1))) g) := by
  refine mn_iload_n 1 dRu_change_0 rfl rfl ?_
  refine mn_tableIn (off := 39) 40 dRu_change_1 (by decide) (by decide) (by decide) (by decide) ?_
  refine mn_aload_n 0 dRu_change_40 rfl rfl ?_
  refine mn_iload_n 2 dRu_change_41 rfl rfl ?_
  refine mn_cV (As := [.int x]) (stk' := [.int (-1)]) okRu_changeSet lRu_22 dRu_change_42 ha rfl rfl rfl rfl (Nat.le_of_ble_eq_true rfl) (Nat.le_of_ble_eq_true rfl) (by decide) (c_R_changeSet_bad ha hx) rfl ?_
  exact mn_iret rfl dRu_change_45 ⟨rfl, rfl⟩
set_option maxRecDepth 100000 in
theorem c_R_change_bad {E : mn_En} {g : mn_H} {a sz rp st : Nat} (ha : mn_at g a (.inr (4, [.int (nI sz), .int (nI rp), .int (nI st)]))) {x y : Int32} (hw : y.toInt < 0 ∨ 2 < y.toInt) : mn_R E MRu_change 1 22 0 0 0 [(0, .ref a), (1, .int y), (2, .int x)] [] g (mn_is (some (.int (-1))) g) := by
  refine mn_iload_n 1 dRu_change_0 rfl rfl ?_
  refine mn_tableOut 46 dRu_change_1 hw (by decide) ?_
  refine mn_iconst (v := -1) dRu_change_46 (by decide) ?_
  exact mn_iret rfl dRu_change_47 ⟨rfl, rfl⟩
end
section
theorem c_raisedN {E : mn_En} {g : mn_H} {x n : Nat} (hx : x < 256) (hn : n < 2 ^ 31) : mn_R E MBy_raised 1 21 0 0 0 [(0, .int (nI x)), (1, .int (nI n))] [] g (mn_is (some (.int (nI (twsN x n)))) g) := by
  rw [← (tws_nI hx n).1]
  exact c_raised hn
theorem c_P_partN {E : mn_En} {g : mn_H} {a nb m w : Nat} {pb ln sn : Nat → Nat} (ha : mn_at g a (.inr (2, [.ref (a + 3), .ref (a + 1), .ref (a + 2), .int (nI m), .int (nI w)]))) (hb : mn_at g (a + 3) (.inl (0, nb, .inl (fun j => nI (pb j))))) (hl : mn_at g (a + 1) (.inl (0, 60, .inl (fun j => nI (ln j))))) (hs : mn_at g (a + 2) (.inl (0, 60, .inl (fun j => nI (sn j))))) (hnb : nb < 5000) {n i : Nat} (hn : n < 60) (hi : i < 80) (hw : n * w + i < nb + 12) (hw0 : n * w < 5000) : mn_R E MPc_part 1 21 0 0 0 [(0, .ref a), (1, .int (nI n)), (2, .int (nI i))] [] g (mn_is (some (.int (nI (ptN pb ln sn w n i)))) g) := by
  rw [← pt_nI]
  exact c_P_part ha hb hl hs hnb hn hi hw hw0
set_option maxRecDepth 100000 in
theorem c_P_mixed_z {E : mn_En} {g : mn_H} {a nb m w : Nat} {pb ln sn : Nat → Nat} (ha : mn_at g a (.inr (2, [.ref (a + 3), .ref (a + 1), .ref (a + 2), .int (nI m), .int (nI w)]))) (hb : mn_at g (a + 3) (.inl (0, nb, .inl (fun j => nI (pb j))))) (hl : mn_at g (a + 1) (.inl (0, 60, .inl (fun j => nI (ln j))))) (hs : mn_at g (a + 2) (.inl (0, 60, .inl (fun j => nI (sn j))))) (hnb : nb < 5000) {j i : Nat} : mn_R E MPc_mixed 2 46 0 0 10 [(0, .ref a), (1, .int (nI j)), (2, .int (nI i)), (3, .int (nI (horN (fun n => ptN pb ln sn w n i) j m m))), (4, .int (-1))] [] g (mn_is (some (.int (nI (horN (fun n => ptN pb ln sn w n i) j m m)))) g) := by
  refine mn_iload 4 dPc_mixed_10 rfl ?_
  refine mn_if_lt 35 dPc_mixed_12 (by decide) (fun c1 => ?_) (fun c1 => ?_)
  · refine mn_iload_n 3 dPc_mixed_35 rfl rfl ?_
    exact mn_iret rfl dPc_mixed_36 ⟨rfl, rfl⟩
  · exact absurd c1 (by decide)
set_option maxRecDepth 100000 in
theorem c_P_mixed_l {E : mn_En} {g : mn_H} {a nb m w : Nat} {pb ln sn : Nat → Nat} (ha : mn_at g a (.inr (2, [.ref (a + 3), .ref (a + 1), .ref (a + 2), .int (nI m), .int (nI w)]))) (hb : mn_at g (a + 3) (.inl (0, nb, .inl (fun j => nI (pb j))))) (hl : mn_at g (a + 1) (.inl (0, 60, .inl (fun j => nI (ln j))))) (hs : mn_at g (a + 2) (.inl (0, 60, .inl (fun j => nI (sn j))))) (hnb : nb < 5000) {j i : Nat} (hj : j < 4) (hi : i < 80) (hm : m ≤ 60) (hw : ∀ n, n < m → n * w + i < nb + 12 ∧ n * w < 5000) (hpb : ∀ j, pb j < 256) (hln : ∀ j, ln j < 256) (hsn : ∀ j, sn j < 256) : ∀ (u : Nat), u ≤ m → mn_R E MPc_mixed 2 46 0 0 10 [(0, .ref a), (1, .int (nI j)), (2, .int (nI i)), (3, .int (nI (horN (fun n => ptN pb ln sn w n i) j m (m - u)))), (4, .int (nI u - 1))] [] g (mn_is (some (.int (nI (horN (fun n => ptN pb ln sn w n i) j m m)))) g) := by
  intro u
  induction u with
  | zero => intro _; exact c_P_mixed_z ha hb hl hs hnb
  | succ u ih =>
    intro hu
    rw [nI_pred]
    have hwu := hw u (by omega)
    have hwu1 := hwu.1
    have hwu2 := hwu.2
    have hlt : horN (fun n => ptN pb ln sn w n i) j m (m - (u + 1)) < 256 := (hor_nI (fun n => ptN_lt hpb hln hsn w n i) j m _).2
    refine mn_iload 4 dPc_mixed_10 rfl ?_
    refine mn_if_lt 35 dPc_mixed_12 (by decide) (fun c1 => ?_) (fun c1 => ?_)
    · exact absurd c1 (nI_pos (by omega))
    · refine mn_iload_n 3 dPc_mixed_15 rfl rfl ?_
      refine mn_iload_n 1 dPc_mixed_16 rfl rfl ?_
      refine mn_cS (d' := 1) (w' := 21) (As := [.int (nI (horN (fun n => ptN pb ln sn w n i) j m (m - (u + 1)))), .int (nI j)]) (stk' := [.int (nI (twsN (horN (fun n => ptN pb ln sn w n i) j m (m - (u + 1))) j))]) okBy_raised lPc_54 dPc_mixed_17 rfl rfl (Nat.le_of_ble_eq_true rfl) (Nat.le_of_ble_eq_true rfl) (by decide) (c_raisedN (x := horN (fun n => ptN pb ln sn w n i) j m (m - (u + 1))) (n := j) hlt (by omega)) rfl ?_
      refine mn_aload_n 0 dPc_mixed_20 rfl rfl ?_
      refine mn_iload 4 dPc_mixed_21 rfl ?_
      refine mn_iload_n 2 dPc_mixed_23 rfl rfl ?_
      refine mn_cV (d' := 1) (w' := 21) (As := [.int (nI u), .int (nI i)]) (stk' := [.int (nI (ptN pb ln sn w u i)), .int (nI (twsN (horN (fun n => ptN pb ln sn w n i) j m (m - (u + 1))) j))]) okPc_part lPc_57 dPc_mixed_24 ha rfl rfl rfl rfl (Nat.le_of_ble_eq_true rfl) (Nat.le_of_ble_eq_true rfl) (by decide) (c_P_partN ha hb hl hs (by omega) (n := u) (i := i) (by omega) (by omega) (by first | assumption | omega) (by first | assumption | omega)) rfl ?_
      refine mn_ixor (z := nI ((twsN (horN (fun n => ptN pb ln sn w n i) j m (m - (u + 1))) j) ^^^ (ptN pb ln sn w u i))) dPc_mixed_27 (nx_xor (twsN (horN (fun n => ptN pb ln sn w n i) j m (m - (u + 1))) j) (ptN pb ln sn w u i)) ?_
      refine mn_istore_n (ls' := [(0, .ref a), (1, .int (nI j)), (2, .int (nI i)), (3, .int (nI ((twsN (horN (fun n => ptN pb ln sn w n i) j m (m - (u + 1))) j) ^^^ (ptN pb ln sn w u i)))), (4, .int (nI u))]) dPc_mixed_28 rfl (by decide) rfl ?_
      refine mn_iinc (v := nI u - 1) (ls' := [(0, .ref a), (1, .int (nI j)), (2, .int (nI i)), (3, .int (nI ((twsN (horN (fun n => ptN pb ln sn w n i) j m (m - (u + 1))) j) ^^^ (ptN pb ln sn w u i)))), (4, .int (nI u - 1))]) 4 dPc_mixed_29 rfl (mn_dec1 _) (by decide) rfl ?_
      refine mn_goto 10 dPc_mixed_32 (by decide) ?_
      rw [show twsN (horN (fun n => ptN pb ln sn w n i) j m (m - (u + 1))) j ^^^ ptN pb ln sn w u i = horN (fun n => ptN pb ln sn w n i) j m (m - u) by rw [show m - u = (m - (u + 1)) + 1 by omega]; show _ = twsN (horN (fun n => ptN pb ln sn w n i) j m (m - (u + 1))) j ^^^ ptN pb ln sn w (m - 1 - (m - (u + 1))) i; rw [show m - 1 - (m - (u + 1)) = u by omega]]
      exact ih (by omega)
set_option maxRecDepth 100000 in
theorem c_P_mixedN {E : mn_En} {g : mn_H} {a nb m w : Nat} {pb ln sn : Nat → Nat} (ha : mn_at g a (.inr (2, [.ref (a + 3), .ref (a + 1), .ref (a + 2), .int (nI m), .int (nI w)]))) (hb : mn_at g (a + 3) (.inl (0, nb, .inl (fun j => nI (pb j))))) (hl : mn_at g (a + 1) (.inl (0, 60, .inl (fun j => nI (ln j))))) (hs : mn_at g (a + 2) (.inl (0, 60, .inl (fun j => nI (sn j))))) (hnb : nb < 5000) {j i : Nat} (hj : j < 4) (hi : i < 80) (hm : m ≤ 60) (hw : ∀ n, n < m → n * w + i < nb + 12 ∧ n * w < 5000) (hpb : ∀ j, pb j < 256) (hln : ∀ j, ln j < 256) (hsn : ∀ j, sn j < 256) (hm1 : 1 ≤ m) : mn_R E MPc_mixed 2 46 0 0 0 [(0, .ref a), (1, .int (nI j)), (2, .int (nI i))] [] g (mn_is (some (.int (nI (horN (fun n => ptN pb ln sn w n i) j m m)))) g) := by
  refine mn_iconst (v := 0) dPc_mixed_0 (by decide) ?_
  refine mn_istore_n (ls' := [(0, .ref a), (1, .int (nI j)), (2, .int (nI i)), (3, .int 0)]) dPc_mixed_1 rfl (by decide) rfl ?_
  refine mn_aload_n 0 dPc_mixed_2 rfl rfl ?_
  refine mn_get okPc 3 lPc_33 (by decide) ha rfl dPc_mixed_3 ?_
  refine mn_iconst (v := 1) dPc_mixed_6 (by decide) ?_
  refine mn_isub (z := nI m - 1) dPc_mixed_7 rfl ?_
  refine mn_istore (ls' := [(0, .ref a), (1, .int (nI j)), (2, .int (nI i)), (3, .int 0), (4, .int (nI m - 1))]) dPc_mixed_8 (by decide) rfl ?_
  have h0 := c_P_mixed_l ha hb hl hs hnb hj hi hm hw hpb hln hsn (E := E) m (Nat.le_refl m)
  rw [Nat.sub_self] at h0
  exact h0
set_option maxRecDepth 100000 in
theorem c_P_isKnown {E : mn_En} {g : mn_H} {a nb m w : Nat} {pb ln sn : Nat → Nat} (ha : mn_at g a (.inr (2, [.ref (a + 3), .ref (a + 1), .ref (a + 2), .int (nI m), .int (nI w)]))) (hb : mn_at g (a + 3) (.inl (0, nb, .inl (fun j => nI (pb j))))) (hl : mn_at g (a + 1) (.inl (0, 60, .inl (fun j => nI (ln j))))) (hs : mn_at g (a + 2) (.inl (0, 60, .inl (fun j => nI (sn j))))) (hnb : nb < 5000) (hw0 : 0 < w) (hmw : m * w ≤ nb) (hm : m ≤ 60) {p : Nat} (hp : p < 100000) (hln : ∀ j, ln j < 256) : mn_R E MPc_isKnown 2 44 0 0 0 [(0, .ref a), (1, .int (nI p))] [] g (mn_is (some (.int (kV ln m w p))) g) := by
  refine mn_iload_n 1 dPc_isKnown_0 rfl rfl ?_
  refine mn_if_lt 12 dPc_isKnown_1 (by decide) (fun c1 => ?_) (fun c1 => ?_)
  · exact absurd c1 (nI_pos (by omega))
  · refine mn_iload_n 1 dPc_isKnown_4 rfl rfl ?_
    refine mn_aload_n 0 dPc_isKnown_5 rfl rfl ?_
    refine mn_cV (d' := 0) (w' := 0) (As := []) (stk' := [.int (nI (m * w)), .int (nI p)]) okPc_room lPc_60 dPc_isKnown_6 ha rfl rfl rfl rfl (Nat.le_of_ble_eq_true rfl) (Nat.le_of_ble_eq_true rfl) (by decide) (c_P_room ha hb hl hs (by omega)) rfl ?_
    refine mn_icmp_lt 14 dPc_isKnown_9 (by decide) (fun c2 => ?_) (fun c2 => ?_)
    · have c2 := (nI_ltI (a := p) (b := (m * w)) (by omega) (by omega)).mp c2
      have hq : p / w < m := by rw [Nat.div_lt_iff_lt_mul hw0]; omega
      have hq2 : p / w * w ≤ p := Nat.div_mul_le_self p w
      have hq3 : p / w * w + 6 < nb + 12 := by omega
      have hq4 : p / w * w < 5000 := by omega
      have hw9 : w ≤ m * w := Nat.le_mul_of_pos_left w (Nat.lt_of_le_of_lt (Nat.zero_le _) hq)
      have hln9 := hln (p / w)
      refine mn_iload_n 1 dPc_isKnown_14 rfl rfl ?_
      refine mn_aload_n 0 dPc_isKnown_15 rfl rfl ?_
      refine mn_get okPc 4 lPc_37 (by decide) ha rfl dPc_isKnown_16 ?_
      refine mn_cS (d' := 0) (w' := 0) (As := [.int (nI p), .int (nI w)]) (stk' := [.int (nI (p / w))]) okBy_quotient lPc_64 dPc_isKnown_19 rfl rfl (Nat.le_of_ble_eq_true rfl) (Nat.le_of_ble_eq_true rfl) (by decide) (c_quotient (x := p) (y := w) (by omega) (by omega)) rfl ?_
      refine mn_istore_n (ls' := [(0, .ref a), (1, .int (nI p)), (2, .int (nI (p / w)))]) dPc_isKnown_22 rfl (by decide) rfl ?_
      refine mn_iload_n 1 dPc_isKnown_23 rfl rfl ?_
      refine mn_iload_n 2 dPc_isKnown_24 rfl rfl ?_
      refine mn_aload_n 0 dPc_isKnown_25 rfl rfl ?_
      refine mn_get okPc 4 lPc_37 (by decide) ha rfl dPc_isKnown_26 ?_
      refine mn_imul (z := nI ((p / w) * w)) dPc_isKnown_29 (pk_mul (p / w) w) ?_
      refine mn_isub (z := nI (p - ((p / w) * w))) dPc_isKnown_30 (pk_sub (a := p) (b := (p / w) * w) (by omega)) ?_
      refine mn_aload_n 0 dPc_isKnown_31 rfl rfl ?_
      refine mn_iload_n 2 dPc_isKnown_32 rfl rfl ?_
      refine mn_bipush (v := 6) dPc_isKnown_33 (by decide) ?_
      refine mn_cV (d' := 1) (w' := 21) (As := [.int (nI (p / w)), .int 6]) (stk' := [.int (nI (ln (p / w))), .int (nI (p - ((p / w) * w)))]) okPc_part lPc_57 dPc_isKnown_35 ha rfl rfl rfl rfl (Nat.le_of_ble_eq_true rfl) (Nat.le_of_ble_eq_true rfl) (by decide) (c_P_partN ha hb hl hs (by omega) (n := p / w) (i := 6) (by omega) (by omega) (by first | assumption | omega) (by first | assumption | omega)) rfl ?_
      refine mn_icmp_ge 45 dPc_isKnown_38 (by decide) (fun c3 => ?_) (fun c3 => ?_)
      · have c3 := (nI_leI (a := (ln (p / w))) (b := (p - ((p / w) * w))) (by omega) (by omega)).mp c3
        refine mn_iconst (v := 0) dPc_isKnown_45 (by decide) ?_
        exact mn_zret rfl rfl dPc_isKnown_46 ⟨by rw [kV_neg (fun h => absurd h.2 (by omega))], rfl⟩
      · have c3 := mt (nI_leI (a := (ln (p / w))) (b := (p - ((p / w) * w))) (by omega) (by omega)).mpr c3
        refine mn_iconst (v := 1) dPc_isKnown_41 (by decide) ?_
        refine mn_goto 46 dPc_isKnown_42 (by decide) ?_
        exact mn_zret rfl rfl dPc_isKnown_46 ⟨by rw [kV_pos ⟨by omega, by omega⟩], rfl⟩
    · have c2 := mt (nI_ltI (a := p) (b := (m * w)) (by omega) (by omega)).mpr c2
      refine mn_iconst (v := 0) dPc_isKnown_12 (by decide) ?_
      exact mn_zret rfl rfl dPc_isKnown_13 ⟨by rw [kV_neg (fun h => absurd h.1 (by omega))], rfl⟩
set_option maxRecDepth 100000 in
theorem c_P_areKnown_l {E : mn_En} {g : mn_H} {a nb m w : Nat} {pb ln sn : Nat → Nat} (ha : mn_at g a (.inr (2, [.ref (a + 3), .ref (a + 1), .ref (a + 2), .int (nI m), .int (nI w)]))) (hb : mn_at g (a + 3) (.inl (0, nb, .inl (fun j => nI (pb j))))) (hl : mn_at g (a + 1) (.inl (0, 60, .inl (fun j => nI (ln j))))) (hs : mn_at g (a + 2) (.inl (0, 60, .inl (fun j => nI (sn j))))) (hnb : nb < 5000) (hw0 : 0 < w) (hmw : m * w ≤ nb) (hm : m ≤ 60) (hln : ∀ j, ln j < 256) {i j : Nat} (hj : j < 100000) : ∀ (fl p : Nat), i ≤ p → j - p < fl → (∀ q, i ≤ q → q < p → q < j → kN ln m w q) → p ≤ 100000 → mn_R E MPc_areKnown 3 66 0 0 2 [(0, .ref a), (1, .int (nI i)), (2, .int (nI j)), (3, .int (nI p))] [] g (mn_is (some (.int (akV ln m w i j))) g) := by
  intro fl
  induction fl with
  | zero => intro p h1 h2 h3 h4; exact absurd h2 (by omega)
  | succ fl ih =>
    intro p h1 h2 h3 h4
    refine mn_iload_n 3 dPc_areKnown_2 rfl rfl ?_
    refine mn_iload_n 2 dPc_areKnown_3 rfl rfl ?_
    refine mn_icmp_ge 23 dPc_areKnown_4 (by decide) (fun c1 => ?_) (fun c1 => ?_)
    · have c1 := (nI_leI (a := j) (b := p) (by omega) (by omega)).mp c1
      refine mn_iconst (v := 1) dPc_areKnown_23 (by decide) ?_
      exact mn_zret rfl rfl dPc_areKnown_24 ⟨by rw [akV_pos (fun q q1 q2 => h3 q q1 (by omega) q2)], rfl⟩
    · have c1 := mt (nI_leI (a := j) (b := p) (by omega) (by omega)).mpr c1
      refine mn_aload_n 0 dPc_areKnown_7 rfl rfl ?_
      refine mn_iload_n 3 dPc_areKnown_8 rfl rfl ?_
      refine mn_cV (d' := 2) (w' := 44) (As := [.int (nI p)]) (stk' := [.int (kV ln m w p)]) okPc_isKnown lPc_67 dPc_areKnown_9 ha rfl rfl rfl rfl (Nat.le_of_ble_eq_true rfl) (Nat.le_of_ble_eq_true rfl) (by decide) (c_P_isKnown ha hb hl hs (by omega) hw0 hmw hm (p := p) (by omega) hln) rfl ?_
      refine mn_if_ne 17 dPc_areKnown_12 (by decide) (fun c2 => ?_) (fun c2 => ?_)
      · refine mn_iinc (v := nI (p + 1)) (ls' := [(0, .ref a), (1, .int (nI i)), (2, .int (nI j)), (3, .int (nI (p + 1)))]) 3 dPc_areKnown_17 rfl (nI_add p 1) (by decide) rfl ?_
        refine mn_goto 2 dPc_areKnown_20 (by decide) ?_
        exact ih (p + 1) (by omega) (by omega) (fun q q1 q2 q3 => by rcases Nat.lt_or_ge q p with h | h; exact h3 q q1 h q3; rw [show q = p by omega]; exact kV_of c2) (by omega)
      · refine mn_iconst (v := 0) dPc_areKnown_15 (by decide) ?_
        exact mn_zret rfl rfl dPc_areKnown_16 ⟨by rw [akV_neg (fun h => kV_no c2 (h p h1 (by omega)))], rfl⟩
set_option maxRecDepth 100000 in
theorem c_P_areKnown {E : mn_En} {g : mn_H} {a nb m w : Nat} {pb ln sn : Nat → Nat} (ha : mn_at g a (.inr (2, [.ref (a + 3), .ref (a + 1), .ref (a + 2), .int (nI m), .int (nI w)]))) (hb : mn_at g (a + 3) (.inl (0, nb, .inl (fun j => nI (pb j))))) (hl : mn_at g (a + 1) (.inl (0, 60, .inl (fun j => nI (ln j))))) (hs : mn_at g (a + 2) (.inl (0, 60, .inl (fun j => nI (sn j))))) (hnb : nb < 5000) (hw0 : 0 < w) (hmw : m * w ≤ nb) (hm : m ≤ 60) (hln : ∀ j, ln j < 256) {i j : Nat} (hj : j < 100000) (hi : i < 100000) : mn_R E MPc_areKnown 3 66 0 0 0 [(0, .ref a), (1, .int (nI i)), (2, .int (nI j))] [] g (mn_is (some (.int (akV ln m w i j))) g) := by
  refine mn_iload_n 1 dPc_areKnown_0 rfl rfl ?_
  refine mn_istore_n (ls' := [(0, .ref a), (1, .int (nI i)), (2, .int (nI j)), (3, .int (nI i))]) dPc_areKnown_1 rfl (by decide) rfl ?_
  exact c_P_areKnown_l ha hb hl hs hnb hw0 hmw hm hln hj (j - i + 1) i (by omega) (by omega) (fun q q1 q2 q3 => absurd q2 (by omega)) (by omega)
set_option maxRecDepth 100000 in
theorem c_P_sb_l {E : mn_En} {g : mn_H} {a nb m w : Nat} {pb ln sn : Nat → Nat} (ha : mn_at g a (.inr (2, [.ref (a + 3), .ref (a + 1), .ref (a + 2), .int (nI m), .int (nI w)]))) (hb : mn_at g (a + 3) (.inl (0, nb, .inl (fun j => nI (pb j))))) (hl : mn_at g (a + 1) (.inl (0, 60, .inl (fun j => nI (ln j))))) (hs : mn_at g (a + 2) (.inl (0, 60, .inl (fun j => nI (sn j))))) (hnb : nb < 5000) (hw0 : 0 < w) (hmw : m * w ≤ nb) (hm : m ≤ 60) (hln : ∀ j, ln j < 256) (hsn : ∀ j, sn j < 256) (hw68 : w ≤ 68) {n0 p0 : Nat} : ∀ (fl n : Nat), n < 200000 → m - n < fl → mn_R E MPc_startBehind 2 44 0 0 11 [(0, .ref a), (1, .int (nI p0)), (2, .int (nI n))] [] g (mn_is (some (.int (onI ((sbK ln sn m (m - n)).map (fun n => n * w + sn n))))) g) := by
  intro fl
  induction fl with
  | zero => intro n h1 h2; exact absurd h2 (by omega)
  | succ fl ih =>
    intro n h1 h2
    refine mn_iload_n 2 dPc_startBehind_11 rfl rfl ?_
    refine mn_aload_n 0 dPc_startBehind_12 rfl rfl ?_
    refine mn_get okPc 3 lPc_33 (by decide) ha rfl dPc_startBehind_13 ?_
    refine mn_icmp_ge 53 dPc_startBehind_16 (by decide) (fun c1 => ?_) (fun c1 => ?_)
    · have c1 := (nI_leI (a := m) (b := n) (by omega) (by omega)).mp c1
      refine mn_bipush (v := (-2)) dPc_startBehind_53 (by decide) ?_
      exact mn_iret rfl dPc_startBehind_55 ⟨by rw [show m - n = 0 by omega]; rfl, rfl⟩
    · have c1 := mt (nI_leI (a := m) (b := n) (by omega) (by omega)).mpr c1
      have hl9 := hln n
      have hs9 := hsn n
      have hnw : n * w + w ≤ m * w := by have := Nat.mul_le_mul_right w (show n + 1 ≤ m by omega); rw [Nat.succ_mul] at this; exact this
      refine mn_aload_n 0 dPc_startBehind_19 rfl rfl ?_
      refine mn_iload_n 2 dPc_startBehind_20 rfl rfl ?_
      refine mn_bipush (v := 7) dPc_startBehind_21 (by decide) ?_
      refine mn_cV (d' := 1) (w' := 21) (As := [.int (nI n), .int 7]) (stk' := [.int (nI (sn n))]) okPc_part lPc_57 dPc_startBehind_23 ha rfl rfl rfl rfl (Nat.le_of_ble_eq_true rfl) (Nat.le_of_ble_eq_true rfl) (by decide) (c_P_partN ha hb hl hs (by omega) (n := n) (i := 7) (by omega) (by omega) (by first | assumption | omega) (by first | assumption | omega)) rfl ?_
      refine mn_istore_n (ls' := [(0, .ref a), (1, .int (nI p0)), (2, .int (nI n)), (3, .int (nI (sn n)))]) dPc_startBehind_26 rfl (by decide) rfl ?_
      refine mn_iload_n 3 dPc_startBehind_27 rfl rfl ?_
      refine mn_aload_n 0 dPc_startBehind_28 rfl rfl ?_
      refine mn_iload_n 2 dPc_startBehind_29 rfl rfl ?_
      refine mn_bipush (v := 6) dPc_startBehind_30 (by decide) ?_
      refine mn_cV (d' := 1) (w' := 21) (As := [.int (nI n), .int 6]) (stk' := [.int (nI (ln n)), .int (nI (sn n))]) okPc_part lPc_57 dPc_startBehind_32 ha rfl rfl rfl rfl (Nat.le_of_ble_eq_true rfl) (Nat.le_of_ble_eq_true rfl) (by decide) (c_P_partN ha hb hl hs (by omega) (n := n) (i := 6) (by omega) (by omega) (by first | assumption | omega) (by first | assumption | omega)) rfl ?_
      refine mn_icmp_ge 47 dPc_startBehind_35 (by decide) (fun c2 => ?_) (fun c2 => ?_)
      · have c2 := (nI_leI (a := (ln n)) (b := (sn n)) (by omega) (by omega)).mp c2
        refine mn_iinc (v := nI (n + 1)) (ls' := [(0, .ref a), (1, .int (nI p0)), (2, .int (nI (n + 1))), (3, .int (nI (sn n)))]) 2 dPc_startBehind_47 rfl (nI_add n 1) (by decide) rfl ?_
        refine mn_goto 11 dPc_startBehind_50 (by decide) ?_
        refine mn_R.sub [0, 1, 2] (ls' := [(0, .ref a), (1, .int (nI p0)), (2, .int (nI (n + 1)))]) rfl ?_
        refine mn_R.post (Q' := mn_is (some (.int (onI ((sbK ln sn m (m - (n + 1))).map (fun n => n * w + sn n))))) g) (ih (n + 1) (by omega) (by omega)) (fun v g' hq => ⟨?_, hq.2⟩)
        rw [hq.1, show m - n = (m - (n + 1)) + 1 by omega, sbK, show m - (m - (n + 1) + 1) = n by omega, if_neg (by omega)]
      · have c2 := mt (nI_leI (a := (ln n)) (b := (sn n)) (by omega) (by omega)).mpr c2
        refine mn_iload_n 2 dPc_startBehind_38 rfl rfl ?_
        refine mn_aload_n 0 dPc_startBehind_39 rfl rfl ?_
        refine mn_get okPc 4 lPc_37 (by decide) ha rfl dPc_startBehind_40 ?_
        refine mn_imul (z := nI (n * w)) dPc_startBehind_43 (pk_mul n w) ?_
        refine mn_iload_n 3 dPc_startBehind_44 rfl rfl ?_
        refine mn_iadd (z := nI (n * w + (sn n))) dPc_startBehind_45 (nI_add (n * w) (sn n)) ?_
        exact mn_iret rfl dPc_startBehind_46 ⟨by rw [show m - n = (m - n - 1) + 1 by omega]; unfold sbK; rw [show m - (m - n - 1 + 1) = n by omega, if_pos (by omega)]; rfl, rfl⟩
set_option maxRecDepth 100000 in
theorem c_P_startBehind {E : mn_En} {g : mn_H} {a nb m w : Nat} {pb ln sn : Nat → Nat} (ha : mn_at g a (.inr (2, [.ref (a + 3), .ref (a + 1), .ref (a + 2), .int (nI m), .int (nI w)]))) (hb : mn_at g (a + 3) (.inl (0, nb, .inl (fun j => nI (pb j))))) (hl : mn_at g (a + 1) (.inl (0, 60, .inl (fun j => nI (ln j))))) (hs : mn_at g (a + 2) (.inl (0, 60, .inl (fun j => nI (sn j))))) (hnb : nb < 5000) (hw0 : 0 < w) (hmw : m * w ≤ nb) (hm : m ≤ 60) (hln : ∀ j, ln j < 256) (hsn : ∀ j, sn j < 256) (hw68 : w ≤ 68) {p : Nat} (hp : p < 100000) : mn_R E MPc_startBehind 2 44 0 0 0 [(0, .ref a), (1, .int (nI p))] [] g (mn_is (some (.int (onI ((sbK ln sn m (m - (p / w + 1))).map (fun n => n * w + sn n))))) g) := by
  have hpw : p / w ≤ p := Nat.div_le_self p w
  have hw9 : w < 2 ^ 31 := by omega
  refine mn_iload_n 1 dPc_startBehind_0 rfl rfl ?_
  refine mn_aload_n 0 dPc_startBehind_1 rfl rfl ?_
  refine mn_get okPc 4 lPc_37 (by decide) ha rfl dPc_startBehind_2 ?_
  refine mn_cS (d' := 0) (w' := 0) (As := [.int (nI p), .int (nI w)]) (stk' := [.int (nI (p / w))]) okBy_quotient lPc_64 dPc_startBehind_5 rfl rfl (Nat.le_of_ble_eq_true rfl) (Nat.le_of_ble_eq_true rfl) (by decide) (c_quotient (x := p) (y := w) (by omega) (by omega)) rfl ?_
  refine mn_iconst (v := 1) dPc_startBehind_8 (by decide) ?_
  refine mn_iadd (z := nI (p / w + 1)) dPc_startBehind_9 (nI_add (p / w) 1) ?_
  refine mn_istore_n (ls' := [(0, .ref a), (1, .int (nI p)), (2, .int (nI (p / w + 1)))]) dPc_startBehind_10 rfl (by decide) rfl ?_
  exact c_P_sb_l (n0 := 0) ha hb hl hs hnb hw0 hmw hm hln hsn hw68 (m + 1) (p / w + 1) (by generalize p / w = z at *; omega) (by generalize p / w = z at *; omega)
set_option maxRecDepth 100000 in
theorem c_P_nk_z {E : mn_En} {g : mn_H} {a nb m w : Nat} {pb ln sn : Nat → Nat} (ha : mn_at g a (.inr (2, [.ref (a + 3), .ref (a + 1), .ref (a + 2), .int (nI m), .int (nI w)]))) (hb : mn_at g (a + 3) (.inl (0, nb, .inl (fun j => nI (pb j))))) (hl : mn_at g (a + 1) (.inl (0, 60, .inl (fun j => nI (ln j))))) (hs : mn_at g (a + 2) (.inl (0, 60, .inl (fun j => nI (sn j))))) (hnb : nb < 5000) (hw0 : 0 < w) (hmw : m * w ≤ nb) (hm : m ≤ 60) (hln : ∀ j, ln j < 256) (hsn : ∀ j, sn j < 256) (hw68 : w ≤ 68) {x y : Int32} : mn_R E MPc_nextKnown 4 90 0 0 4 [(0, .ref a), (1, .int x), (2, .int y), (3, .int 61)] [] g (mn_is (some (.int (-2))) g) := by
  refine mn_iload_n 3 dPc_nextKnown_4 rfl rfl ?_
  refine mn_bipush (v := 60) dPc_nextKnown_5 (by decide) ?_
  refine mn_icmp_gt 36 dPc_nextKnown_7 (by decide) (fun c1 => ?_) (fun c1 => ?_)
  · refine mn_bipush (v := (-2)) dPc_nextKnown_36 (by decide) ?_
    exact mn_iret rfl dPc_nextKnown_38 ⟨rfl, rfl⟩
  · exact absurd c1 (by decide)
set_option maxRecDepth 100000 in
theorem c_P_nk_neg {E : mn_En} {g : mn_H} {a nb m w : Nat} {pb ln sn : Nat → Nat} (ha : mn_at g a (.inr (2, [.ref (a + 3), .ref (a + 1), .ref (a + 2), .int (nI m), .int (nI w)]))) (hb : mn_at g (a + 3) (.inl (0, nb, .inl (fun j => nI (pb j))))) (hl : mn_at g (a + 1) (.inl (0, 60, .inl (fun j => nI (ln j))))) (hs : mn_at g (a + 2) (.inl (0, 60, .inl (fun j => nI (sn j))))) (hnb : nb < 5000) (hw0 : 0 < w) (hmw : m * w ≤ nb) (hm : m ≤ 60) (hln : ∀ j, ln j < 256) (hsn : ∀ j, sn j < 256) (hw68 : w ≤ 68) {x : Int32} {j : Nat} (hj : j < 100) : mn_R E MPc_nextKnown 4 90 0 0 4 [(0, .ref a), (1, .int x), (2, .int (-2)), (3, .int (nI j))] [] g (mn_is (some (.int (-2))) g) := by
  refine mn_iload_n 3 dPc_nextKnown_4 rfl rfl ?_
  refine mn_bipush (v := 60) dPc_nextKnown_5 (by decide) ?_
  refine mn_icmp_gt 36 dPc_nextKnown_7 (by decide) (fun c1 => ?_) (fun c1 => ?_)
  · have c1 := (nI_ltI (a := 60) (b := j) (by omega) (by omega)).mp c1
    refine mn_bipush (v := (-2)) dPc_nextKnown_36 (by decide) ?_
    exact mn_iret rfl dPc_nextKnown_38 ⟨rfl, rfl⟩
  · have c1 := mt (nI_ltI (a := 60) (b := j) (by omega) (by omega)).mpr c1
    refine mn_iload_n 2 dPc_nextKnown_10 rfl rfl ?_
    refine mn_if_lt 36 dPc_nextKnown_11 (by decide) (fun c2 => ?_) (fun c2 => ?_)
    · refine mn_bipush (v := (-2)) dPc_nextKnown_36 (by decide) ?_
      exact mn_iret rfl dPc_nextKnown_38 ⟨rfl, rfl⟩
    · exact absurd c2 (by decide)
set_option maxRecDepth 100000 in
theorem c_P_nk_l {E : mn_En} {g : mn_H} {a nb m w : Nat} {pb ln sn : Nat → Nat} (ha : mn_at g a (.inr (2, [.ref (a + 3), .ref (a + 1), .ref (a + 2), .int (nI m), .int (nI w)]))) (hb : mn_at g (a + 3) (.inl (0, nb, .inl (fun j => nI (pb j))))) (hl : mn_at g (a + 1) (.inl (0, 60, .inl (fun j => nI (ln j))))) (hs : mn_at g (a + 2) (.inl (0, 60, .inl (fun j => nI (sn j))))) (hnb : nb < 5000) (hw0 : 0 < w) (hmw : m * w ≤ nb) (hm : m ≤ 60) (hln : ∀ j, ln j < 256) (hsn : ∀ j, sn j < 256) (hw68 : w ≤ 68) {x : Int32} : ∀ (f j p : Nat), j + f = 61 → p < 100000 → mn_R E MPc_nextKnown 4 90 0 0 4 [(0, .ref a), (1, .int x), (2, .int (nI p)), (3, .int (nI j))] [] g (mn_is (some (.int (onI (nk ln sn m w f p)))) g) := by
  intro f
  induction f with
  | zero => intro j p h1 h2; rw [show j = 61 by omega]; exact c_P_nk_z ha hb hl hs hnb hw0 hmw hm hln hsn hw68
  | succ f ih =>
    intro j p h1 h2
    refine mn_iload_n 3 dPc_nextKnown_4 rfl rfl ?_
    refine mn_bipush (v := 60) dPc_nextKnown_5 (by decide) ?_
    refine mn_icmp_gt 36 dPc_nextKnown_7 (by decide) (fun c1 => ?_) (fun c1 => ?_)
    · have c1 := (nI_ltI (a := 60) (b := j) (by omega) (by omega)).mp c1
      refine mn_bipush (v := (-2)) dPc_nextKnown_36 (by decide) ?_
      exact mn_iret rfl dPc_nextKnown_38 ⟨by first | rw [nk_none (kV_no c3) hsb]; rfl | exact absurd c1 (by omega), rfl⟩
    · have c1 := mt (nI_ltI (a := 60) (b := j) (by omega) (by omega)).mpr c1
      refine mn_iload_n 2 dPc_nextKnown_10 rfl rfl ?_
      refine mn_if_lt 36 dPc_nextKnown_11 (by decide) (fun c2 => ?_) (fun c2 => ?_)
      · exact absurd c2 (nI_pos (by omega))
      · refine mn_aload_n 0 dPc_nextKnown_14 rfl rfl ?_
        refine mn_iload_n 2 dPc_nextKnown_15 rfl rfl ?_
        refine mn_cV (d' := 2) (w' := 44) (As := [.int (nI p)]) (stk' := [.int (kV ln m w p)]) okPc_isKnown lPc_67 dPc_nextKnown_16 ha rfl rfl rfl rfl (Nat.le_of_ble_eq_true rfl) (Nat.le_of_ble_eq_true rfl) (by decide) (c_P_isKnown ha hb hl hs (by omega) hw0 hmw hm (p := p) (by omega) hln) rfl ?_
        refine mn_if_eq 24 dPc_nextKnown_19 (by decide) (fun c3 => ?_) (fun c3 => ?_)
        · rcases hsb : sbK ln sn m (m - (p / w + 1)) with _ | n
          · have hx9 : True := trivial
            refine mn_aload_n 0 dPc_nextKnown_24 rfl rfl ?_
            refine mn_iload_n 2 dPc_nextKnown_25 rfl rfl ?_
            refine mn_cV (d' := 2) (w' := 44) (As := [.int (nI p)]) (stk' := [.int (-2)]) okPc_startBehind lPc_71 dPc_nextKnown_26 ha rfl rfl rfl rfl (Nat.le_of_ble_eq_true rfl) (Nat.le_of_ble_eq_true rfl) (by decide) (by have h0 := c_P_startBehind (E := E) ha hb hl hs (by omega) hw0 hmw hm hln hsn hw68 (p := p) (by omega); rw [hsb] at h0; exact h0) rfl ?_
            refine mn_istore_n (ls' := [(0, .ref a), (1, .int x), (2, .int (-2)), (3, .int (nI j))]) dPc_nextKnown_29 rfl (by decide) rfl ?_
            refine mn_iinc (v := nI (j + 1)) (ls' := [(0, .ref a), (1, .int x), (2, .int (-2)), (3, .int (nI (j + 1)))]) 3 dPc_nextKnown_30 rfl (nI_add j 1) (by decide) rfl ?_
            refine mn_goto 4 dPc_nextKnown_33 (by decide) ?_
            rw [nk_none (kV_no c3) hsb]
            exact c_P_nk_neg ha hb hl hs hnb hw0 hmw hm hln hsn hw68 (by omega)
          · obtain ⟨hn1, hn2, hn3⟩ := sbK_some (Nat.sub_le _ _) hsb
            have hs9 := hsn n
            have hnw : n * w ≤ m * w := Nat.mul_le_mul_right w (by omega)
            refine mn_aload_n 0 dPc_nextKnown_24 rfl rfl ?_
            refine mn_iload_n 2 dPc_nextKnown_25 rfl rfl ?_
            refine mn_cV (d' := 2) (w' := 44) (As := [.int (nI p)]) (stk' := [.int (nI (n * w + sn n))]) okPc_startBehind lPc_71 dPc_nextKnown_26 ha rfl rfl rfl rfl (Nat.le_of_ble_eq_true rfl) (Nat.le_of_ble_eq_true rfl) (by decide) (by have h0 := c_P_startBehind (E := E) ha hb hl hs (by omega) hw0 hmw hm hln hsn hw68 (p := p) (by omega); rw [hsb] at h0; exact h0) rfl ?_
            refine mn_istore_n (ls' := [(0, .ref a), (1, .int x), (2, .int (nI (n * w + sn n))), (3, .int (nI j))]) dPc_nextKnown_29 rfl (by decide) rfl ?_
            refine mn_iinc (v := nI (j + 1)) (ls' := [(0, .ref a), (1, .int x), (2, .int (nI (n * w + sn n))), (3, .int (nI (j + 1)))]) 3 dPc_nextKnown_30 rfl (nI_add j 1) (by decide) rfl ?_
            refine mn_goto 4 dPc_nextKnown_33 (by decide) ?_
            rw [nk_some (kV_no c3) hsb]
            exact ih (j + 1) (n * w + sn n) (by omega) (by omega)
        · refine mn_iload_n 2 dPc_nextKnown_22 rfl rfl ?_
          exact mn_iret rfl dPc_nextKnown_23 ⟨by rw [nk_yes (kV_of c3)]; rfl, rfl⟩
set_option maxRecDepth 100000 in
theorem c_P_nextKnown {E : mn_En} {g : mn_H} {a nb m w : Nat} {pb ln sn : Nat → Nat} (ha : mn_at g a (.inr (2, [.ref (a + 3), .ref (a + 1), .ref (a + 2), .int (nI m), .int (nI w)]))) (hb : mn_at g (a + 3) (.inl (0, nb, .inl (fun j => nI (pb j))))) (hl : mn_at g (a + 1) (.inl (0, 60, .inl (fun j => nI (ln j))))) (hs : mn_at g (a + 2) (.inl (0, 60, .inl (fun j => nI (sn j))))) (hnb : nb < 5000) (hw0 : 0 < w) (hmw : m * w ≤ nb) (hm : m ≤ 60) (hln : ∀ j, ln j < 256) (hsn : ∀ j, sn j < 256) (hw68 : w ≤ 68) {p : Nat} (hp : p < 100000) : mn_R E MPc_nextKnown 4 90 0 0 0 [(0, .ref a), (1, .int (nI p))] [] g (mn_is (some (.int (onI (nk ln sn m w 61 p)))) g) := by
  refine mn_iload_n 1 dPc_nextKnown_0 rfl rfl ?_
  refine mn_istore_n (ls' := [(0, .ref a), (1, .int (nI p)), (2, .int (nI p))]) dPc_nextKnown_1 rfl (by decide) rfl ?_
  refine mn_iconst (v := 0) dPc_nextKnown_2 (by decide) ?_
  refine mn_istore_n (ls' := [(0, .ref a), (1, .int (nI p)), (2, .int (nI p)), (3, .int 0)]) dPc_nextKnown_3 rfl (by decide) rfl ?_
  exact c_P_nk_l ha hb hl hs hnb hw0 hmw hm hln hsn hw68 61 0 p (by omega) hp
end
section
theorem c_P_putPartN {E : mn_En} {g : mn_H} {a nb m w : Nat} {pb ln sn : Nat → Nat} (ha : mn_at g a (.inr (2, [.ref (a + 3), .ref (a + 1), .ref (a + 2), .int (nI m), .int (nI w)]))) (hb : mn_at g (a + 3) (.inl (0, nb, .inl (fun j => nI (pb j))))) (hl : mn_at g (a + 1) (.inl (0, 60, .inl (fun j => nI (ln j))))) (hs : mn_at g (a + 2) (.inl (0, 60, .inl (fun j => nI (sn j))))) (hnb : nb < 5000) {n i v : Nat} (hn : n < 60) (hi : i < 80) (hw : n * w + i < nb + 12) (hw0 : n * w < 5000) : mn_R E MPc_putPart 1 22 0 0 0 [(0, .ref a), (1, .int (nI n)), (2, .int (nI i)), (3, .int (nI v))] [] g (fun x g' => x = none ∧ mn_fr (fun q => q = a + 1 ∨ q = a + 2 ∨ q = a + 3) g g' ∧ mn_at g' (a + 3) (.inl (0, nb, .inl (fun j => nI (ppBN w n i v pb j)))) ∧ mn_at g' (a + 1) (.inl (0, 60, .inl (fun j => nI (ppLN n i v ln j)))) ∧ mn_at g' (a + 2) (.inl (0, 60, .inl (fun j => nI (ppSN n i v sn j))))) := by
  rw [← ppB_nI, ← ppL_nI, ← ppS_nI]
  exact c_P_putPart ha hb hl hs hnb hn hi hw hw0
set_option maxRecDepth 100000 in
theorem c_S_add {E : mn_En} {g : mn_H} {s e len m w : Nat} {pb ln sn bg : Nat → Nat} (hS : mn_at g s (.inr (6, [.ref (s + 1), .ref (s + 5), .int (nI e), .int (nI len)]))) (ha : mn_at g (s + 1) (.inr (2, [.ref (s + 1 + 3), .ref (s + 1 + 1), .ref (s + 1 + 2), .int (nI m), .int (nI w)]))) (hb : mn_at g (s + 1 + 3) (.inl (0, 1340, .inl (fun j => nI (pb j))))) (hl : mn_at g (s + 1 + 1) (.inl (0, 60, .inl (fun j => nI (ln j))))) (hs : mn_at g (s + 1 + 2) (.inl (0, 60, .inl (fun j => nI (sn j))))) (hg : mn_at g (s + 5) (.inl (0, 20, .inl (fun j => nI (bg j))))) (hlen : len < 1340) {v : Nat} : mn_R E MSt_add 1 22 0 0 0 [(0, .ref s), (1, .int (nI v))] [] g (fun x g' => x = none ∧ mn_fr (fun q => q = s ∨ q = s + 1 + 3) g g' ∧ mn_at g' s (.inr (6, [.ref (s + 1), .ref (s + 5), .int (nI e), .int (nI (len + 1))])) ∧ mn_at g' (s + 1 + 3) (.inl (0, 1340, .inl (fun j => nI (va_up pb len v j))))) := by
  refine mn_aload_n 0 dSt_add_0 rfl rfl ?_
  refine mn_get okSt 0 lSt_16 (by decide) hS rfl dSt_add_1 ?_
  refine mn_aload_n 0 dSt_add_4 rfl rfl ?_
  refine mn_get okSt 3 lSt_28 (by decide) hS rfl dSt_add_5 ?_
  refine mn_iload_n 1 dSt_add_8 rfl rfl ?_
  refine mn_cV (d' := 0) (w' := 0) (As := [.int (nI len), .int (nI v)]) (stk' := []) okPc_put lSt_45 dSt_add_9 ha rfl rfl rfl rfl (Nat.le_of_ble_eq_true rfl) (Nat.le_of_ble_eq_true rfl) (by decide) (by have h0 := c_P_put (E := E) ha hb hl hs (by omega) (j := len) (x := nI (v)) (by omega); rw [upd_nI] at h0; exact h0) rfl ?_
  obtain ⟨g1, eg1⟩ : ∃ gg_, gg_ = mn_set g (s + 1 + 3) (.inl (0, 1340, .inl (fun j => nI ((va_up pb len v) j)))) := ⟨_, rfl⟩
  refine mn_R.toG eg1 ?_
  have hS_g1 : mn_at g1 s (.inr (6, [.ref (s + 1), .ref (s + 5), .int (nI e), .int (nI len)])) := by rw [eg1]; exact hS.off (by omega)
  have ha_g1 : mn_at g1 (s + 1) (.inr (2, [.ref (s + 1 + 3), .ref (s + 1 + 1), .ref (s + 1 + 2), .int (nI m), .int (nI w)])) := by rw [eg1]; exact ha.off (by omega)
  have hb_g1 : mn_at g1 (s + 1 + 3) (.inl (0, 1340, .inl (fun j => nI ((va_up pb len v) j)))) := by rw [eg1]; exact hb.same
  have hl_g1 : mn_at g1 (s + 1 + 1) (.inl (0, 60, .inl (fun j => nI (ln j)))) := by rw [eg1]; exact hl.off (by omega)
  have hs_g1 : mn_at g1 (s + 1 + 2) (.inl (0, 60, .inl (fun j => nI (sn j)))) := by rw [eg1]; exact hs.off (by omega)
  have hg_g1 : mn_at g1 (s + 5) (.inl (0, 20, .inl (fun j => nI (bg j)))) := by rw [eg1]; exact hg.off (by omega)
  refine mn_aload_n 0 dSt_add_12 rfl rfl ?_
  refine mn_dup dSt_add_13 rfl ?_
  refine mn_get okSt 3 lSt_28 (by decide) hS_g1 rfl dSt_add_14 ?_
  refine mn_iconst (v := 1) dSt_add_17 (by decide) ?_
  refine mn_iadd (z := nI (len + 1)) dSt_add_18 (nI_add len 1) ?_
  refine mn_putf okSt 3 lSt_28 (by decide) rfl hS_g1 rfl rfl (Nat.le_of_ble_eq_true rfl) dSt_add_19 ?_
  obtain ⟨g2, eg2⟩ : ∃ gg_, gg_ = mn_set g1 s (.inr (6, [.ref (s + 1), .ref (s + 5), .int (nI e), .int (nI (len + 1))])) := ⟨_, rfl⟩
  refine mn_R.toG eg2 ?_
  have hS_g2 : mn_at g2 s (.inr (6, [.ref (s + 1), .ref (s + 5), .int (nI e), .int (nI (len + 1))])) := by rw [eg2]; exact hS_g1.same
  have ha_g2 : mn_at g2 (s + 1) (.inr (2, [.ref (s + 1 + 3), .ref (s + 1 + 1), .ref (s + 1 + 2), .int (nI m), .int (nI w)])) := by rw [eg2]; exact ha_g1.off (by omega)
  have hb_g2 : mn_at g2 (s + 1 + 3) (.inl (0, 1340, .inl (fun j => nI ((va_up pb len v) j)))) := by rw [eg2]; exact hb_g1.off (by omega)
  have hl_g2 : mn_at g2 (s + 1 + 1) (.inl (0, 60, .inl (fun j => nI (ln j)))) := by rw [eg2]; exact hl_g1.off (by omega)
  have hs_g2 : mn_at g2 (s + 1 + 2) (.inl (0, 60, .inl (fun j => nI (sn j)))) := by rw [eg2]; exact hs_g1.off (by omega)
  have hg_g2 : mn_at g2 (s + 5) (.inl (0, 20, .inl (fun j => nI (bg j)))) := by rw [eg2]; exact hg_g1.off (by omega)
  exact mn_vret rfl dSt_add_22 ⟨rfl, ((mn_fr.rf.set eg1 (by show (s + 1 + 3) = s ∨ (s + 1 + 3) = s + 1 + 3; omega)).set eg2 (by show s = s ∨ s = s + 1 + 3; omega)), hS_g2, hb_g2⟩
set_option maxRecDepth 100000 in
theorem c_S_append_l {E : mn_En} {g : mn_H} {s e len m w : Nat} {pb ln sn bg : Nat → Nat} {t tl : Nat} {tb : Nat → Nat} (hst : s + 5 < t ∨ t + 1 < s) (hlen : len + 3 + tl < 1340) (htl : tl ≤ 60) {z : Int32} : ∀ (k i : Nat) (g0 : mn_H), i ≤ tl → tl - i < k → mn_fr (fun q => q = s ∨ q = s + 1 + 3 ∨ q = s + 5) g g0 → mn_at g0 s (.inr (6, [.ref (s + 1), .ref (s + 5), .int (nI (e + 1)), .int (nI (len + 3 + i))])) → mn_at g0 (s + 1) (.inr (2, [.ref (s + 1 + 3), .ref (s + 1 + 1), .ref (s + 1 + 2), .int (nI m), .int (nI w)])) → mn_at g0 (s + 1 + 3) (.inl (0, 1340, .inl (fun j => nI ((apL pb len tl (suN tb 0 tl) tb i) j)))) → mn_at g0 (s + 1 + 1) (.inl (0, 60, .inl (fun j => nI (ln j)))) → mn_at g0 (s + 1 + 2) (.inl (0, 60, .inl (fun j => nI (sn j)))) → mn_at g0 (s + 5) (.inl (0, 20, .inl (fun j => nI ((va_up bg e len) j)))) → mn_at g0 t (.inr (7, [.ref (t + 1), .int (nI tl)])) → mn_at g0 (t + 1) (.inl (0, 60, .inl (fun j => nI (tb j)))) → mn_R E MSt_append 3 65 0 0 72 [(0, .ref s), (1, .ref t), (2, .int z), (3, .int (nI i))] [] g0 (fun x g' => x = none ∧ mn_fr (fun q => q = s ∨ q = s + 1 + 3 ∨ q = s + 5) g g' ∧ mn_at g' s (.inr (6, [.ref (s + 1), .ref (s + 5), .int (nI (e + 1)), .int (nI (len + 3 + tl))])) ∧ mn_at g' (s + 1 + 3) (.inl (0, 1340, .inl (fun j => nI (apL pb len tl (suN tb 0 tl) tb tl j)))) ∧ mn_at g' (s + 5) (.inl (0, 20, .inl (fun j => nI (va_up bg e len j))))) := by
  intro k
  induction k with
  | zero => intro i g0 h1 h2; exact absurd h2 (by omega)
  | succ k ih =>
    intro i g0 h1 h2 hf hS ha hb hl hs hg ht hu
    refine mn_iload_n 3 dSt_append_72 rfl rfl ?_
    refine mn_aload_n 1 dSt_append_73 rfl rfl ?_
    refine mn_get okTa 1 lSt_37 (by decide) ht rfl dSt_append_74 ?_
    refine mn_icmp_ge 95 dSt_append_77 (by decide) (fun c1 => ?_) (fun c1 => ?_)
    · have c1 := (nI_leI (a := tl) (b := i) (by omega) (by omega)).mp c1
      exact mn_vret rfl dSt_append_95 (by obtain rfl : i = tl := (by omega); exact ⟨rfl, hf, hS, hb, hg⟩)
    · have c1 := mt (nI_leI (a := tl) (b := i) (by omega) (by omega)).mpr c1
      refine mn_aload_n 0 dSt_append_80 rfl rfl ?_
      refine mn_aload_n 1 dSt_append_81 rfl rfl ?_
      refine mn_iload_n 3 dSt_append_82 rfl rfl ?_
      refine mn_cV (d' := 0) (w' := 0) (As := [.int (nI i)]) (stk' := [.int (nI (tb i)), .ref s]) okTa_byteAt lSt_41 dSt_append_83 ht rfl rfl rfl rfl (Nat.le_of_ble_eq_true rfl) (Nat.le_of_ble_eq_true rfl) (by decide) (c_T_byteAt ht hu (j := i) (by omega)) rfl ?_
      refine mn_callV (d' := 1) (w' := 22) (nc' := 0) (ns' := 0) (As := [.int (nI (tb i))]) (st := []) okSt_add lSt_38 dSt_append_86 hS rfl rfl rfl rfl (Nat.le_of_ble_eq_true rfl) (Nat.le_of_ble_eq_true rfl) (by decide) (c_S_add hS ha hb hl hs hg (v := tb i) (by omega)) (fun v g2 hq => ?_)
      obtain ⟨rfl, fg2, hS_g2, hb_g2⟩ := hq
      have hS_g2 : mn_at g2 s (.inr (6, [.ref (s + 1), .ref (s + 5), .int (nI (e + 1)), .int (nI (len + 3 + i + 1))])) := hS_g2
      have hb_g2 : mn_at g2 (s + 1 + 3) (.inl (0, 1340, .inl (fun j => nI ((va_up (apL pb len tl (suN tb 0 tl) tb i) (len + 3 + i) (tb i)) j)))) := hb_g2
      show mn_R E MSt_append 3 65 _ _ 89 [(0, .ref s), (1, .ref t), (2, .int z), (3, .int (nI i))] [] g2 _
      have ha_g2 := ha.fr fg2 (fun h => by have h9 : (s + 1) = s ∨ (s + 1) = s + 1 + 3 := h; omega)
      have hl_g2 := hl.fr fg2 (fun h => by have h9 : (s + 1 + 1) = s ∨ (s + 1 + 1) = s + 1 + 3 := h; omega)
      have hs_g2 := hs.fr fg2 (fun h => by have h9 : (s + 1 + 2) = s ∨ (s + 1 + 2) = s + 1 + 3 := h; omega)
      have hg_g2 := hg.fr fg2 (fun h => by have h9 : (s + 5) = s ∨ (s + 5) = s + 1 + 3 := h; omega)
      have ht_g2 := ht.fr fg2 (fun h => by have h9 : t = s ∨ t = s + 1 + 3 := h; omega)
      have hu_g2 := hu.fr fg2 (fun h => by have h9 : (t + 1) = s ∨ (t + 1) = s + 1 + 3 := h; omega)
      refine mn_iinc (v := nI (i + 1)) (ls' := [(0, .ref s), (1, .ref t), (2, .int z), (3, .int (nI (i + 1)))]) 3 dSt_append_89 rfl (nI_add i 1) (by decide) rfl ?_
      refine mn_goto 72 dSt_append_92 (by decide) ?_
      rw [apL_s] at hb_g2
      exact ih (i + 1) g2 (by omega) (by omega) (hf.tr (fg2.mo (fun q h => by have h9 : q = s ∨ q = s + 1 + 3 := h; show q = s ∨ q = s + 1 + 3 ∨ q = s + 5; omega))) hS_g2 ha_g2 hb_g2 hl_g2 hs_g2 hg_g2 ht_g2 hu_g2
set_option maxRecDepth 100000 in
theorem c_S_append {E : mn_En} {g : mn_H} {s e len m w : Nat} {pb ln sn bg : Nat → Nat} (hS : mn_at g s (.inr (6, [.ref (s + 1), .ref (s + 5), .int (nI e), .int (nI len)]))) (ha : mn_at g (s + 1) (.inr (2, [.ref (s + 1 + 3), .ref (s + 1 + 1), .ref (s + 1 + 2), .int (nI m), .int (nI w)]))) (hb : mn_at g (s + 1 + 3) (.inl (0, 1340, .inl (fun j => nI (pb j))))) (hl : mn_at g (s + 1 + 1) (.inl (0, 60, .inl (fun j => nI (ln j))))) (hs : mn_at g (s + 1 + 2) (.inl (0, 60, .inl (fun j => nI (sn j))))) (hg : mn_at g (s + 5) (.inl (0, 20, .inl (fun j => nI (bg j))))) {t tl : Nat} {tb : Nat → Nat} (ht : mn_at g t (.inr (7, [.ref (t + 1), .int (nI tl)]))) (hu : mn_at g (t + 1) (.inl (0, 60, .inl (fun j => nI (tb j))))) (hst : s + 5 < t ∨ t + 1 < s) (he : e < 20) (hlen : len + 3 + tl < 1340) (htl : tl ≤ 60) : mn_R E MSt_append 3 65 0 0 0 [(0, .ref s), (1, .ref t)] [] g (fun x g' => x = none ∧ mn_fr (fun q => q = s ∨ q = s + 1 + 3 ∨ q = s + 5) g g' ∧ mn_at g' s (.inr (6, [.ref (s + 1), .ref (s + 5), .int (nI (e + 1)), .int (nI (len + 3 + tl))])) ∧ mn_at g' (s + 1 + 3) (.inl (0, 1340, .inl (fun j => nI (apL pb len tl (suN tb 0 tl) tb tl j)))) ∧ mn_at g' (s + 5) (.inl (0, 20, .inl (fun j => nI (va_up bg e len j))))) := by
  have hsu := suN_lt tb 0 tl
  refine mn_aload_n 0 dSt_append_0 rfl rfl ?_
  refine mn_get okSt 2 lSt_24 (by decide) hS rfl dSt_append_1 ?_
  refine mn_if_lt 16 dSt_append_4 (by decide) (fun c1 => ?_) (fun c1 => ?_)
  · exact absurd c1 (nI_pos (by omega))
  · refine mn_aload_n 0 dSt_append_7 rfl rfl ?_
    refine mn_get okSt 2 lSt_24 (by decide) hS rfl dSt_append_8 ?_
    refine mn_bipush (v := 20) dSt_append_11 (by decide) ?_
    refine mn_icmp_lt 17 dSt_append_13 (by decide) (fun c2 => ?_) (fun c2 => ?_)
    · have c2 := (nI_ltI (a := e) (b := 20) (by omega) (by omega)).mp c2
      refine mn_aload_n 0 dSt_append_17 rfl rfl ?_
      refine mn_get okSt 1 lSt_20 (by decide) hS rfl dSt_append_18 ?_
      refine mn_aload_n 0 dSt_append_21 rfl rfl ?_
      refine mn_get okSt 2 lSt_24 (by decide) hS rfl dSt_append_22 ?_
      refine mn_aload_n 0 dSt_append_25 rfl rfl ?_
      refine mn_get okSt 3 lSt_28 (by decide) hS rfl dSt_append_26 ?_
      refine mn_iastN (j := e) hg rfl (by omega) (by omega) dSt_append_29 ?_
      obtain ⟨g3, eg3⟩ : ∃ gg_, gg_ = mn_set g (s + 5) (.inl (0, 20, .inl (upd (fun j => nI (bg j)) e (nI len)))) := ⟨_, rfl⟩
      refine mn_R.toG eg3 ?_
      have hS_g3 : mn_at g3 s (.inr (6, [.ref (s + 1), .ref (s + 5), .int (nI e), .int (nI len)])) := by rw [eg3]; exact hS.off (by omega)
      have ha_g3 : mn_at g3 (s + 1) (.inr (2, [.ref (s + 1 + 3), .ref (s + 1 + 1), .ref (s + 1 + 2), .int (nI m), .int (nI w)])) := by rw [eg3]; exact ha.off (by omega)
      have hb_g3 : mn_at g3 (s + 1 + 3) (.inl (0, 1340, .inl (fun j => nI (pb j)))) := by rw [eg3]; exact hb.off (by omega)
      have hl_g3 : mn_at g3 (s + 1 + 1) (.inl (0, 60, .inl (fun j => nI (ln j)))) := by rw [eg3]; exact hl.off (by omega)
      have hs_g3 : mn_at g3 (s + 1 + 2) (.inl (0, 60, .inl (fun j => nI (sn j)))) := by rw [eg3]; exact hs.off (by omega)
      have hg_g3 : mn_at g3 (s + 5) (.inl (0, 20, .inl (upd (fun j => nI (bg j)) e (nI len)))) := by rw [eg3]; exact hg.same
      have ht_g3 : mn_at g3 t (.inr (7, [.ref (t + 1), .int (nI tl)])) := by rw [eg3]; exact ht.off (by omega)
      have hu_g3 : mn_at g3 (t + 1) (.inl (0, 60, .inl (fun j => nI (tb j)))) := by rw [eg3]; exact hu.off (by omega)
      rw [upd_nI] at hg_g3
      refine mn_aload_n 0 dSt_append_30 rfl rfl ?_
      refine mn_dup dSt_append_31 rfl ?_
      refine mn_get okSt 2 lSt_24 (by decide) hS_g3 rfl dSt_append_32 ?_
      refine mn_iconst (v := 1) dSt_append_35 (by decide) ?_
      refine mn_iadd (z := nI (e + 1)) dSt_append_36 (nI_add e 1) ?_
      refine mn_putf okSt 2 lSt_24 (by decide) rfl hS_g3 rfl rfl (Nat.le_of_ble_eq_true rfl) dSt_append_37 ?_
      obtain ⟨g4, eg4⟩ : ∃ gg_, gg_ = mn_set g3 s (.inr (6, [.ref (s + 1), .ref (s + 5), .int (nI (e + 1)), .int (nI len)])) := ⟨_, rfl⟩
      refine mn_R.toG eg4 ?_
      have hS_g4 : mn_at g4 s (.inr (6, [.ref (s + 1), .ref (s + 5), .int (nI (e + 1)), .int (nI len)])) := by rw [eg4]; exact hS_g3.same
      have ha_g4 : mn_at g4 (s + 1) (.inr (2, [.ref (s + 1 + 3), .ref (s + 1 + 1), .ref (s + 1 + 2), .int (nI m), .int (nI w)])) := by rw [eg4]; exact ha_g3.off (by omega)
      have hb_g4 : mn_at g4 (s + 1 + 3) (.inl (0, 1340, .inl (fun j => nI (pb j)))) := by rw [eg4]; exact hb_g3.off (by omega)
      have hl_g4 : mn_at g4 (s + 1 + 1) (.inl (0, 60, .inl (fun j => nI (ln j)))) := by rw [eg4]; exact hl_g3.off (by omega)
      have hs_g4 : mn_at g4 (s + 1 + 2) (.inl (0, 60, .inl (fun j => nI (sn j)))) := by rw [eg4]; exact hs_g3.off (by omega)
      have hg_g4 : mn_at g4 (s + 5) (.inl (0, 20, .inl (fun j => nI ((va_up bg e len) j)))) := by rw [eg4]; exact hg_g3.off (by omega)
      have ht_g4 : mn_at g4 t (.inr (7, [.ref (t + 1), .int (nI tl)])) := by rw [eg4]; exact ht_g3.off (by omega)
      have hu_g4 : mn_at g4 (t + 1) (.inl (0, 60, .inl (fun j => nI (tb j)))) := by rw [eg4]; exact hu_g3.off (by omega)
      refine mn_aload_n 1 dSt_append_40 rfl rfl ?_
      refine mn_cV (d' := 2) (w' := 45) (As := []) (stk' := [.int (nI (suN tb 0 tl))]) okTa_sum lSt_31 dSt_append_41 ht_g4 rfl rfl rfl rfl (Nat.le_of_ble_eq_true rfl) (Nat.le_of_ble_eq_true rfl) (by decide) (by have h0 := c_T_sum (E := E) ht_g4 hu_g4 (by omega); rw [su_nI] at h0; exact h0) rfl ?_
      refine mn_istore_n (ls' := [(0, .ref s), (1, .ref t), (2, .int (nI (suN tb 0 tl)))]) dSt_append_44 rfl (by decide) rfl ?_
      refine mn_aload_n 0 dSt_append_45 rfl rfl ?_
      refine mn_aload_n 1 dSt_append_46 rfl rfl ?_
      refine mn_get okTa 1 lSt_37 (by decide) ht_g4 rfl dSt_append_47 ?_
      refine mn_callV (d' := 1) (w' := 22) (nc' := 0) (ns' := 0) (As := [.int (nI tl)]) (st := []) okSt_add lSt_38 dSt_append_50 hS_g4 rfl rfl rfl rfl (Nat.le_of_ble_eq_true rfl) (Nat.le_of_ble_eq_true rfl) (by decide) (c_S_add hS_g4 ha_g4 hb_g4 hl_g4 hs_g4 hg_g4 (v := tl) (by omega)) (fun v g5 hq => ?_)
      obtain ⟨rfl, fg5, hS_g5, hb_g5⟩ := hq
      have hS_g5 : mn_at g5 s (.inr (6, [.ref (s + 1), .ref (s + 5), .int (nI (e + 1)), .int (nI (len + 1))])) := hS_g5
      have hb_g5 : mn_at g5 (s + 1 + 3) (.inl (0, 1340, .inl (fun j => nI ((va_up pb len tl) j)))) := hb_g5
      show mn_R E MSt_append 3 65 _ _ 53 [(0, .ref s), (1, .ref t), (2, .int (nI (suN tb 0 tl)))] [] g5 _
      have ha_g5 := ha_g4.fr fg5 (fun h => by have h9 : (s + 1) = s ∨ (s + 1) = s + 1 + 3 := h; omega)
      have hl_g5 := hl_g4.fr fg5 (fun h => by have h9 : (s + 1 + 1) = s ∨ (s + 1 + 1) = s + 1 + 3 := h; omega)
      have hs_g5 := hs_g4.fr fg5 (fun h => by have h9 : (s + 1 + 2) = s ∨ (s + 1 + 2) = s + 1 + 3 := h; omega)
      have hg_g5 := hg_g4.fr fg5 (fun h => by have h9 : (s + 5) = s ∨ (s + 5) = s + 1 + 3 := h; omega)
      have ht_g5 := ht_g4.fr fg5 (fun h => by have h9 : t = s ∨ t = s + 1 + 3 := h; omega)
      have hu_g5 := hu_g4.fr fg5 (fun h => by have h9 : (t + 1) = s ∨ (t + 1) = s + 1 + 3 := h; omega)
      refine mn_aload_n 0 dSt_append_53 rfl rfl ?_
      refine mn_iload_n 2 dSt_append_54 rfl rfl ?_
      refine mn_sipush (v := 255) dSt_append_55 (by decide) ?_
      refine mn_iand (z := nI (suN tb 0 tl % 256)) dSt_append_58 (and255 _) ?_
      refine mn_callV (d' := 1) (w' := 22) (nc' := 0) (ns' := 0) (As := [.int (nI (suN tb 0 tl % 256))]) (st := []) okSt_add lSt_38 dSt_append_59 hS_g5 rfl rfl rfl rfl (Nat.le_of_ble_eq_true rfl) (Nat.le_of_ble_eq_true rfl) (by decide) (c_S_add hS_g5 ha_g5 hb_g5 hl_g5 hs_g5 hg_g5 (v := suN tb 0 tl % 256) (by omega)) (fun v g6 hq => ?_)
      obtain ⟨rfl, fg6, hS_g6, hb_g6⟩ := hq
      have hS_g6 : mn_at g6 s (.inr (6, [.ref (s + 1), .ref (s + 5), .int (nI (e + 1)), .int (nI (len + 2))])) := hS_g6
      have hb_g6 : mn_at g6 (s + 1 + 3) (.inl (0, 1340, .inl (fun j => nI ((va_up (va_up pb len tl) (len + 1) (suN tb 0 tl % 256)) j)))) := hb_g6
      show mn_R E MSt_append 3 65 _ _ 62 [(0, .ref s), (1, .ref t), (2, .int (nI (suN tb 0 tl)))] [] g6 _
      have ha_g6 := ha_g5.fr fg6 (fun h => by have h9 : (s + 1) = s ∨ (s + 1) = s + 1 + 3 := h; omega)
      have hl_g6 := hl_g5.fr fg6 (fun h => by have h9 : (s + 1 + 1) = s ∨ (s + 1 + 1) = s + 1 + 3 := h; omega)
      have hs_g6 := hs_g5.fr fg6 (fun h => by have h9 : (s + 1 + 2) = s ∨ (s + 1 + 2) = s + 1 + 3 := h; omega)
      have hg_g6 := hg_g5.fr fg6 (fun h => by have h9 : (s + 5) = s ∨ (s + 5) = s + 1 + 3 := h; omega)
      have ht_g6 := ht_g5.fr fg6 (fun h => by have h9 : t = s ∨ t = s + 1 + 3 := h; omega)
      have hu_g6 := hu_g5.fr fg6 (fun h => by have h9 : (t + 1) = s ∨ (t + 1) = s + 1 + 3 := h; omega)
      refine mn_aload_n 0 dSt_append_62 rfl rfl ?_
      refine mn_iload_n 2 dSt_append_63 rfl rfl ?_
      refine mn_bipush (v := 8) dSt_append_64 (by decide) ?_
      refine mn_iushr (z := nI (suN tb 0 tl / 256)) dSt_append_66 (sr8_nI hsu) ?_
      refine mn_callV (d' := 1) (w' := 22) (nc' := 0) (ns' := 0) (As := [.int (nI (suN tb 0 tl / 256))]) (st := []) okSt_add lSt_38 dSt_append_67 hS_g6 rfl rfl rfl rfl (Nat.le_of_ble_eq_true rfl) (Nat.le_of_ble_eq_true rfl) (by decide) (c_S_add hS_g6 ha_g6 hb_g6 hl_g6 hs_g6 hg_g6 (v := suN tb 0 tl / 256) (by omega)) (fun v g7 hq => ?_)
      obtain ⟨rfl, fg7, hS_g7, hb_g7⟩ := hq
      have hS_g7 : mn_at g7 s (.inr (6, [.ref (s + 1), .ref (s + 5), .int (nI (e + 1)), .int (nI (len + 3))])) := hS_g7
      have hb_g7 : mn_at g7 (s + 1 + 3) (.inl (0, 1340, .inl (fun j => nI ((va_up (va_up (va_up pb len tl) (len + 1) (suN tb 0 tl % 256)) (len + 2) (suN tb 0 tl / 256)) j)))) := hb_g7
      show mn_R E MSt_append 3 65 _ _ 70 [(0, .ref s), (1, .ref t), (2, .int (nI (suN tb 0 tl)))] [] g7 _
      have ha_g7 := ha_g6.fr fg7 (fun h => by have h9 : (s + 1) = s ∨ (s + 1) = s + 1 + 3 := h; omega)
      have hl_g7 := hl_g6.fr fg7 (fun h => by have h9 : (s + 1 + 1) = s ∨ (s + 1 + 1) = s + 1 + 3 := h; omega)
      have hs_g7 := hs_g6.fr fg7 (fun h => by have h9 : (s + 1 + 2) = s ∨ (s + 1 + 2) = s + 1 + 3 := h; omega)
      have hg_g7 := hg_g6.fr fg7 (fun h => by have h9 : (s + 5) = s ∨ (s + 5) = s + 1 + 3 := h; omega)
      have ht_g7 := ht_g6.fr fg7 (fun h => by have h9 : t = s ∨ t = s + 1 + 3 := h; omega)
      have hu_g7 := hu_g6.fr fg7 (fun h => by have h9 : (t + 1) = s ∨ (t + 1) = s + 1 + 3 := h; omega)
      refine mn_iconst (v := 0) dSt_append_70 (by decide) ?_
      refine mn_istore_n (ls' := [(0, .ref s), (1, .ref t), (2, .int (nI (suN tb 0 tl))), (3, .int 0)]) dSt_append_71 rfl (by decide) rfl ?_
      rw [apL_0 (tb := tb)] at hb_g7
      exact c_S_append_l hst hlen htl (tl + 1) 0 g7 (by omega) (by omega) (((((mn_fr.rf.set eg3 (by show (s + 5) = s ∨ (s + 5) = s + 1 + 3 ∨ (s + 5) = s + 5; omega)).set eg4 (by show s = s ∨ s = s + 1 + 3 ∨ s = s + 5; omega)).tr (fg5.mo (fun q h => by have h9 : q = s ∨ q = s + 1 + 3 := h; show q = s ∨ q = s + 1 + 3 ∨ q = s + 5; omega))).tr (fg6.mo (fun q h => by have h9 : q = s ∨ q = s + 1 + 3 := h; show q = s ∨ q = s + 1 + 3 ∨ q = s + 5; omega))).tr (fg7.mo (fun q h => by have h9 : q = s ∨ q = s + 1 + 3 := h; show q = s ∨ q = s + 1 + 3 ∨ q = s + 5; omega))) hS_g7 ha_g7 hb_g7 hl_g7 hs_g7 hg_g7 ht_g7 hu_g7
    · have c2 := mt (nI_ltI (a := e) (b := 20) (by omega) (by omega)).mpr c2
      exact mn_vret rfl dSt_append_16 (absurd he (by omega))
set_option maxRecDepth 100000 in
theorem c_S_forget {E : mn_En} {g : mn_H} {s e len m w : Nat} {pb ln sn bg : Nat → Nat} (hS : mn_at g s (.inr (6, [.ref (s + 1), .ref (s + 5), .int (nI e), .int (nI len)]))) (ha : mn_at g (s + 1) (.inr (2, [.ref (s + 1 + 3), .ref (s + 1 + 1), .ref (s + 1 + 2), .int (nI m), .int (nI w)]))) (hb : mn_at g (s + 1 + 3) (.inl (0, 1340, .inl (fun j => nI (pb j))))) (hl : mn_at g (s + 1 + 1) (.inl (0, 60, .inl (fun j => nI (ln j))))) (hs : mn_at g (s + 1 + 2) (.inl (0, 60, .inl (fun j => nI (sn j))))) (hg : mn_at g (s + 5) (.inl (0, 20, .inl (fun j => nI (bg j))))) : mn_R E MSt_forgetAll 2 43 0 0 0 [(0, .ref s)] [] g (fun x g' => x = none ∧ mn_fr (fun q => q = s ∨ q = s + 1 + 1 ∨ q = s + 1 + 2 ∨ q = s + 1 + 3) g g' ∧ mn_at g' s (.inr (6, [.ref (s + 1), .ref (s + 5), .int 0, .int 0])) ∧ mn_at g' (s + 1 + 3) (.inl (0, 1340, .inl (fun j => nI (blN pb 1340 j)))) ∧ mn_at g' (s + 1 + 1) (.inl (0, 60, .inl (fun j => nI (blN ln 60 j)))) ∧ mn_at g' (s + 1 + 2) (.inl (0, 60, .inl (fun j => nI (blN sn 60 j))))) := by
  refine mn_aload_n 0 dSt_forgetAll_0 rfl rfl ?_
  refine mn_get okSt 0 lSt_16 (by decide) hS rfl dSt_forgetAll_1 ?_
  refine mn_callV (d' := 1) (w' := 23) (nc' := 0) (ns' := 0) (As := []) (st := []) okPc_blank lSt_49 dSt_forgetAll_4 ha rfl rfl rfl rfl (Nat.le_of_ble_eq_true rfl) (Nat.le_of_ble_eq_true rfl) (by decide) (by have h0 := c_P_blank (E := E) ha hb hl hs (by omega); rw [flN_nI, flN_nI, flN_nI] at h0; exact h0) (fun v g1 hq => ?_)
  obtain ⟨rfl, fg1, hb_g1, hl_g1, hs_g1⟩ := hq
  have hb_g1 : mn_at g1 (s + 1 + 3) (.inl (0, 1340, .inl (fun j => nI ((blN pb 1340) j)))) := hb_g1
  have hl_g1 : mn_at g1 (s + 1 + 1) (.inl (0, 60, .inl (fun j => nI ((blN ln 60) j)))) := hl_g1
  have hs_g1 : mn_at g1 (s + 1 + 2) (.inl (0, 60, .inl (fun j => nI ((blN sn 60) j)))) := hs_g1
  show mn_R E MSt_forgetAll 2 43 _ _ 7 [(0, .ref s)] [] g1 _
  have hS_g1 := hS.fr fg1 (fun h => by have h9 : s = s + 1 + 1 ∨ s = s + 1 + 2 ∨ s = s + 1 + 3 := h; omega)
  have ha_g1 := ha.fr fg1 (fun h => by have h9 : (s + 1) = s + 1 + 1 ∨ (s + 1) = s + 1 + 2 ∨ (s + 1) = s + 1 + 3 := h; omega)
  have hg_g1 := hg.fr fg1 (fun h => by have h9 : (s + 5) = s + 1 + 1 ∨ (s + 5) = s + 1 + 2 ∨ (s + 5) = s + 1 + 3 := h; omega)
  refine mn_aload_n 0 dSt_forgetAll_7 rfl rfl ?_
  refine mn_iconst (v := 0) dSt_forgetAll_8 (by decide) ?_
  refine mn_putf okSt 2 lSt_24 (by decide) rfl hS_g1 rfl rfl (Nat.le_of_ble_eq_true rfl) dSt_forgetAll_9 ?_
  obtain ⟨g2, eg2⟩ : ∃ gg_, gg_ = mn_set g1 s (.inr (6, [.ref (s + 1), .ref (s + 5), .int 0, .int (nI len)])) := ⟨_, rfl⟩
  refine mn_R.toG eg2 ?_
  have hS_g2 : mn_at g2 s (.inr (6, [.ref (s + 1), .ref (s + 5), .int 0, .int (nI len)])) := by rw [eg2]; exact hS_g1.same
  have ha_g2 : mn_at g2 (s + 1) (.inr (2, [.ref (s + 1 + 3), .ref (s + 1 + 1), .ref (s + 1 + 2), .int (nI m), .int (nI w)])) := by rw [eg2]; exact ha_g1.off (by omega)
  have hb_g2 : mn_at g2 (s + 1 + 3) (.inl (0, 1340, .inl (fun j => nI ((blN pb 1340) j)))) := by rw [eg2]; exact hb_g1.off (by omega)
  have hl_g2 : mn_at g2 (s + 1 + 1) (.inl (0, 60, .inl (fun j => nI ((blN ln 60) j)))) := by rw [eg2]; exact hl_g1.off (by omega)
  have hs_g2 : mn_at g2 (s + 1 + 2) (.inl (0, 60, .inl (fun j => nI ((blN sn 60) j)))) := by rw [eg2]; exact hs_g1.off (by omega)
  have hg_g2 : mn_at g2 (s + 5) (.inl (0, 20, .inl (fun j => nI (bg j)))) := by rw [eg2]; exact hg_g1.off (by omega)
  refine mn_aload_n 0 dSt_forgetAll_12 rfl rfl ?_
  refine mn_iconst (v := 0) dSt_forgetAll_13 (by decide) ?_
  refine mn_putf okSt 3 lSt_28 (by decide) rfl hS_g2 rfl rfl (Nat.le_of_ble_eq_true rfl) dSt_forgetAll_14 ?_
  obtain ⟨g3, eg3⟩ : ∃ gg_, gg_ = mn_set g2 s (.inr (6, [.ref (s + 1), .ref (s + 5), .int 0, .int 0])) := ⟨_, rfl⟩
  refine mn_R.toG eg3 ?_
  have hS_g3 : mn_at g3 s (.inr (6, [.ref (s + 1), .ref (s + 5), .int 0, .int 0])) := by rw [eg3]; exact hS_g2.same
  have ha_g3 : mn_at g3 (s + 1) (.inr (2, [.ref (s + 1 + 3), .ref (s + 1 + 1), .ref (s + 1 + 2), .int (nI m), .int (nI w)])) := by rw [eg3]; exact ha_g2.off (by omega)
  have hb_g3 : mn_at g3 (s + 1 + 3) (.inl (0, 1340, .inl (fun j => nI ((blN pb 1340) j)))) := by rw [eg3]; exact hb_g2.off (by omega)
  have hl_g3 : mn_at g3 (s + 1 + 1) (.inl (0, 60, .inl (fun j => nI ((blN ln 60) j)))) := by rw [eg3]; exact hl_g2.off (by omega)
  have hs_g3 : mn_at g3 (s + 1 + 2) (.inl (0, 60, .inl (fun j => nI ((blN sn 60) j)))) := by rw [eg3]; exact hs_g2.off (by omega)
  have hg_g3 : mn_at g3 (s + 5) (.inl (0, 20, .inl (fun j => nI (bg j)))) := by rw [eg3]; exact hg_g2.off (by omega)
  exact mn_vret rfl dSt_forgetAll_17 ⟨rfl, (((mn_fr.rf.tr (fg1.mo (fun q h => by have h9 : q = s + 1 + 1 ∨ q = s + 1 + 2 ∨ q = s + 1 + 3 := h; show q = s ∨ q = s + 1 + 1 ∨ q = s + 1 + 2 ∨ q = s + 1 + 3; omega))).set eg2 (by show s = s ∨ s = s + 1 + 1 ∨ s = s + 1 + 2 ∨ s = s + 1 + 3; omega)).set eg3 (by show s = s ∨ s = s + 1 + 1 ∨ s = s + 1 + 2 ∨ s = s + 1 + 3; omega)), hS_g3, hb_g3, hl_g3, hs_g3⟩
set_option maxRecDepth 100000 in
theorem c_S_pieceCount {E : mn_En} {g : mn_H} {s e len m w : Nat} {pb ln sn bg : Nat → Nat} (hS : mn_at g s (.inr (6, [.ref (s + 1), .ref (s + 5), .int (nI e), .int (nI len)]))) (ha : mn_at g (s + 1) (.inr (2, [.ref (s + 1 + 3), .ref (s + 1 + 1), .ref (s + 1 + 2), .int (nI m), .int (nI w)]))) (hb : mn_at g (s + 1 + 3) (.inl (0, 1340, .inl (fun j => nI (pb j))))) (hl : mn_at g (s + 1 + 1) (.inl (0, 60, .inl (fun j => nI (ln j))))) (hs : mn_at g (s + 1 + 2) (.inl (0, 60, .inl (fun j => nI (sn j))))) (hg : mn_at g (s + 5) (.inl (0, 20, .inl (fun j => nI (bg j))))) {u : Nat} (hu0 : 8 ≤ u) (hu : u ≤ 68) (hlen : len < 1340) : mn_R E MSt_pieceCount 1 21 0 0 0 [(0, .ref s), (1, .int (nI u))] [] g (mn_is (some (.int (nI (pcN len u)))) g) := by
  have hq := Nat.div_le_self (len + u - 1) u
  refine mn_iconst (v := 1) dSt_pieceCount_0 (by decide) ?_
  refine mn_aload_n 0 dSt_pieceCount_1 rfl rfl ?_
  refine mn_get okSt 3 lSt_28 (by decide) hS rfl dSt_pieceCount_2 ?_
  refine mn_iload_n 1 dSt_pieceCount_5 rfl rfl ?_
  refine mn_iadd (z := nI (len + u)) dSt_pieceCount_6 (nI_add len u) ?_
  refine mn_iconst (v := 1) dSt_pieceCount_7 (by decide) ?_
  refine mn_isub (z := nI ((len + u) - 1)) dSt_pieceCount_8 (pk_sub (a := len + u) (b := 1) (by omega)) ?_
  refine mn_iload_n 1 dSt_pieceCount_9 rfl rfl ?_
  refine mn_cS (d' := 0) (w' := 0) (As := [.int (nI ((len + u) - 1)), .int (nI u)]) (stk' := [.int (nI (((len + u) - 1) / u)), .int 1]) okBy_quotient lSt_52 dSt_pieceCount_10 rfl rfl (Nat.le_of_ble_eq_true rfl) (Nat.le_of_ble_eq_true rfl) (by decide) (c_quotient (x := (len + u) - 1) (y := u) (by omega) (by omega)) rfl ?_
  refine mn_max (z := nI (pcN len u)) (mn_maxN (a := 1) (b := (len + u - 1) / u) (by omega) (by generalize (len + u - 1) / u = z at *; omega)) lSt_58 max_st math_ini max_code (Nat.le_of_ble_eq_true rfl) (by decide) (by decide) dSt_pieceCount_13 ?_
  exact mn_iret rfl dSt_pieceCount_16 ⟨rfl, rfl⟩
set_option maxRecDepth 100000 in
theorem c_S_startIn_l {E : mn_En} {g : mn_H} {s e len m w : Nat} {pb ln sn bg : Nat → Nat} (hS : mn_at g s (.inr (6, [.ref (s + 1), .ref (s + 5), .int (nI e), .int (nI len)]))) (ha : mn_at g (s + 1) (.inr (2, [.ref (s + 1 + 3), .ref (s + 1 + 1), .ref (s + 1 + 2), .int (nI m), .int (nI w)]))) (hb : mn_at g (s + 1 + 3) (.inl (0, 1340, .inl (fun j => nI (pb j))))) (hl : mn_at g (s + 1 + 1) (.inl (0, 60, .inl (fun j => nI (ln j))))) (hs : mn_at g (s + 1 + 2) (.inl (0, 60, .inl (fun j => nI (sn j))))) (hg : mn_at g (s + 5) (.inl (0, 20, .inl (fun j => nI (bg j))))) {fr u : Nat} (he : e ≤ 20) (hfr : fr < 100000) (hu : u ≤ 68) (hbg : ∀ k, bg k < 100000) : ∀ (f k : Nat), k ≤ e → e - k < f → mn_R E MSt_startIn 0 0 0 0 2 [(0, .ref s), (1, .int (nI fr)), (2, .int (nI u)), (3, .int (nI k))] [] g (mn_is (some (.int (nI (siK bg e fr u (e - k))))) g) := by
  intro f
  induction f with
  | zero => intro k h1 h2; exact absurd h2 (by omega)
  | succ f ih =>
    intro k h1 h2
    have hbk := hbg k
    refine mn_iload_n 3 dSt_startIn_2 rfl rfl ?_
    refine mn_aload_n 0 dSt_startIn_3 rfl rfl ?_
    refine mn_get okSt 2 lSt_24 (by decide) hS rfl dSt_startIn_4 ?_
    refine mn_icmp_ge 46 dSt_startIn_7 (by decide) (fun c1 => ?_) (fun c1 => ?_)
    · have c1 := (nI_leI (a := e) (b := k) (by omega) (by omega)).mp c1
      refine mn_sipush (v := 255) dSt_startIn_46 (by decide) ?_
      exact mn_iret rfl dSt_startIn_49 ⟨by rw [show e - k = 0 by omega]; rfl, rfl⟩
    · have c1 := mt (nI_leI (a := e) (b := k) (by omega) (by omega)).mpr c1
      refine mn_iload_n 3 dSt_startIn_10 rfl rfl ?_
      refine mn_bipush (v := 20) dSt_startIn_11 (by decide) ?_
      refine mn_icmp_ge 46 dSt_startIn_13 (by decide) (fun c2 => ?_) (fun c2 => ?_)
      · have c2 := (nI_leI (a := 20) (b := k) (by omega) (by omega)).mp c2
        refine mn_sipush (v := 255) dSt_startIn_46 (by decide) ?_
        exact mn_iret rfl dSt_startIn_49 ⟨by rw [show e - k = 0 by omega]; rfl, rfl⟩
      · have c2 := mt (nI_leI (a := 20) (b := k) (by omega) (by omega)).mpr c2
        refine mn_aload_n 0 dSt_startIn_16 rfl rfl ?_
        refine mn_get okSt 1 lSt_20 (by decide) hS rfl dSt_startIn_17 ?_
        refine mn_iload_n 3 dSt_startIn_20 rfl rfl ?_
        refine mn_ialdN (j := k) hg rfl (by omega) (by omega) dSt_startIn_21 ?_
        refine mn_iload_n 1 dSt_startIn_22 rfl rfl ?_
        rcases Nat.lt_or_ge (bg k) fr with hc | hc
        · refine mn_isub (z := nI (bg k) - nI fr) dSt_startIn_23 rfl ?_
          refine mn_istore (ls' := [(0, .ref s), (1, .int (nI fr)), (2, .int (nI u)), (3, .int (nI k)), (4, .int (nI (bg k) - nI fr))]) dSt_startIn_24 (by decide) rfl ?_
          refine mn_iload 4 dSt_startIn_26 rfl ?_
          refine mn_if_lt 40 dSt_startIn_28 (by decide) (fun c3 => ?_) (fun c3 => ?_)
          · refine mn_iinc (v := nI (k + 1)) (ls' := [(0, .ref s), (1, .int (nI fr)), (2, .int (nI u)), (3, .int (nI (k + 1))), (4, .int (nI (bg k) - nI fr))]) 3 dSt_startIn_40 rfl (nI_add k 1) (by decide) rfl ?_
            refine mn_goto 2 dSt_startIn_43 (by decide) ?_
            refine mn_R.sub [0, 1, 2, 3] (ls' := [(0, .ref s), (1, .int (nI fr)), (2, .int (nI u)), (3, .int (nI (k + 1)))]) rfl ?_
            refine mn_R.post (Q' := mn_is (some (.int (nI (siK bg e fr u (e - (k + 1)))))) g) (ih (k + 1) (by omega) (by omega)) (fun v g' hq => ⟨?_, hq.2⟩)
            rw [hq.1, show e - k = (e - (k + 1)) + 1 by omega, siK, show e - (e - (k + 1) + 1) = k by omega, if_neg (by omega)]
          · exact absurd (pk_sneg (by omega) hc) c3
        · refine mn_isub (z := nI (bg k - fr)) dSt_startIn_23 (pk_sub (a := bg k) (b := fr) hc) ?_
          refine mn_istore (ls' := [(0, .ref s), (1, .int (nI fr)), (2, .int (nI u)), (3, .int (nI k)), (4, .int (nI (bg k - fr)))]) dSt_startIn_24 (by decide) rfl ?_
          refine mn_iload 4 dSt_startIn_26 rfl ?_
          refine mn_if_lt 40 dSt_startIn_28 (by decide) (fun c4 => ?_) (fun c4 => ?_)
          · exact absurd c4 (nI_pos (by omega))
          · refine mn_iload 4 dSt_startIn_31 rfl ?_
            refine mn_iload_n 2 dSt_startIn_33 rfl rfl ?_
            refine mn_icmp_ge 40 dSt_startIn_34 (by decide) (fun c5 => ?_) (fun c5 => ?_)
            · have c5 := (nI_leI (a := u) (b := (bg k - fr)) (by omega) (by omega)).mp c5
              refine mn_iinc (v := nI (k + 1)) (ls' := [(0, .ref s), (1, .int (nI fr)), (2, .int (nI u)), (3, .int (nI (k + 1))), (4, .int (nI (bg k - fr)))]) 3 dSt_startIn_40 rfl (nI_add k 1) (by decide) rfl ?_
              refine mn_goto 2 dSt_startIn_43 (by decide) ?_
              refine mn_R.sub [0, 1, 2, 3] (ls' := [(0, .ref s), (1, .int (nI fr)), (2, .int (nI u)), (3, .int (nI (k + 1)))]) rfl ?_
              refine mn_R.post (Q' := mn_is (some (.int (nI (siK bg e fr u (e - (k + 1)))))) g) (ih (k + 1) (by omega) (by omega)) (fun v g' hq => ⟨?_, hq.2⟩)
              rw [hq.1, show e - k = (e - (k + 1)) + 1 by omega, siK, show e - (e - (k + 1) + 1) = k by omega, if_neg (by omega)]
            · have c5 := mt (nI_leI (a := u) (b := (bg k - fr)) (by omega) (by omega)).mpr c5
              refine mn_iload 4 dSt_startIn_37 rfl ?_
              exact mn_iret rfl dSt_startIn_39 ⟨by rw [show e - k = (e - k - 1) + 1 by omega]; unfold siK; rw [show e - (e - k - 1 + 1) = k by omega, if_pos ⟨hc, by omega⟩], rfl⟩
set_option maxRecDepth 100000 in
theorem c_S_startIn {E : mn_En} {g : mn_H} {s e len m w : Nat} {pb ln sn bg : Nat → Nat} (hS : mn_at g s (.inr (6, [.ref (s + 1), .ref (s + 5), .int (nI e), .int (nI len)]))) (ha : mn_at g (s + 1) (.inr (2, [.ref (s + 1 + 3), .ref (s + 1 + 1), .ref (s + 1 + 2), .int (nI m), .int (nI w)]))) (hb : mn_at g (s + 1 + 3) (.inl (0, 1340, .inl (fun j => nI (pb j))))) (hl : mn_at g (s + 1 + 1) (.inl (0, 60, .inl (fun j => nI (ln j))))) (hs : mn_at g (s + 1 + 2) (.inl (0, 60, .inl (fun j => nI (sn j))))) (hg : mn_at g (s + 5) (.inl (0, 20, .inl (fun j => nI (bg j))))) {fr u : Nat} (he : e ≤ 20) (hfr : fr < 100000) (hu : u ≤ 68) (hbg : ∀ k, bg k < 100000) : mn_R E MSt_startIn 0 0 0 0 0 [(0, .ref s), (1, .int (nI fr)), (2, .int (nI u))] [] g (mn_is (some (.int (nI (siK bg e fr u e)))) g) := by
  refine mn_iconst (v := 0) dSt_startIn_0 (by decide) ?_
  refine mn_istore_n (ls' := [(0, .ref s), (1, .int (nI fr)), (2, .int (nI u)), (3, .int 0)]) dSt_startIn_1 rfl (by decide) rfl ?_
  exact c_S_startIn_l hS ha hb hl hs hg he hfr hu hbg (e + 1) 0 (by omega) (by omega)
set_option maxRecDepth 100000 in
theorem c_S_divide_l {E : mn_En} {g : mn_H} {s e len m w : Nat} {pb ln sn bg : Nat → Nat} {u : Nat} (he : e ≤ 20) (hbg : ∀ k, bg k < 100000) (hu0 : 8 ≤ u) (hu : u ≤ 68) (hlen : len < 1340) (hmm : pcN len u ≤ 60) : ∀ (k n : Nat) (g0 : mn_H), n ≤ pcN len u → pcN len u - n < k → mn_fr (fun q => q = s + 1 ∨ q = s + 1 + 1 ∨ q = s + 1 + 2 ∨ q = s + 1 + 3) g g0 → mn_at g0 s (.inr (6, [.ref (s + 1), .ref (s + 5), .int (nI e), .int (nI len)])) → mn_at g0 (s + 1) (.inr (2, [.ref (s + 1 + 3), .ref (s + 1 + 1), .ref (s + 1 + 2), .int (nI (pcN len u)), .int (nI u)])) → mn_at g0 (s + 1 + 3) (.inl (0, 1340, .inl (fun j => nI (pb j)))) → mn_at g0 (s + 1 + 1) (.inl (0, 60, .inl (fun j => nI ((dvL ln len u n) j)))) → mn_at g0 (s + 1 + 2) (.inl (0, 60, .inl (fun j => nI ((dvS sn bg e u n) j)))) → mn_at g0 (s + 5) (.inl (0, 20, .inl (fun j => nI (bg j)))) → mn_R E MSt_divide 2 45 0 0 27 [(0, .ref s), (1, .int (nI u)), (2, .int (nI n))] [] g0 (fun x g' => x = none ∧ mn_fr (fun q => q = s + 1 ∨ q = s + 1 + 1 ∨ q = s + 1 + 2 ∨ q = s + 1 + 3) g g' ∧ mn_at g' (s + 1) (.inr (2, [.ref (s + 1 + 3), .ref (s + 1 + 1), .ref (s + 1 + 2), .int (nI (pcN len u)), .int (nI u)])) ∧ mn_at g' (s + 1 + 3) (.inl (0, 1340, .inl (fun j => nI (pb j)))) ∧ mn_at g' (s + 1 + 1) (.inl (0, 60, .inl (fun j => nI (dvL ln len u (pcN len u) j)))) ∧ mn_at g' (s + 1 + 2) (.inl (0, 60, .inl (fun j => nI (dvS sn bg e u (pcN len u) j))))) := by
  intro k
  induction k with
  | zero => intro n g0 h1 h2; exact absurd h2 (by omega)
  | succ k ih =>
    intro n g0 h1 h2 hf hS ha hb hl hs hg
    refine mn_iload_n 2 dSt_divide_27 rfl rfl ?_
    refine mn_aload_n 0 dSt_divide_28 rfl rfl ?_
    refine mn_get okSt 0 lSt_16 (by decide) hS rfl dSt_divide_29 ?_
    refine mn_get okPc 3 lSt_69 (by decide) ha rfl dSt_divide_32 ?_
    refine mn_icmp_ge 84 dSt_divide_35 (by decide) (fun c1 => ?_) (fun c1 => ?_)
    · have c1 := (nI_leI (a := (pcN len u)) (b := n) (by omega) (by omega)).mp c1
      exact mn_vret rfl dSt_divide_84 (by obtain rfl : n = pcN len u := (by omega); exact ⟨rfl, hf, ha, hb, hl, hs⟩)
    · have c1 := mt (nI_leI (a := (pcN len u)) (b := n) (by omega) (by omega)).mpr c1
      have hnu := pcN_le (u := u) (by omega) (show n < pcN len u by omega)
      refine mn_aload_n 0 dSt_divide_38 rfl rfl ?_
      refine mn_get okSt 0 lSt_16 (by decide) hS rfl dSt_divide_39 ?_
      refine mn_iload_n 2 dSt_divide_42 rfl rfl ?_
      refine mn_bipush (v := 6) dSt_divide_43 (by decide) ?_
      refine mn_iload_n 1 dSt_divide_45 rfl rfl ?_
      refine mn_aload_n 0 dSt_divide_46 rfl rfl ?_
      refine mn_get okSt 3 lSt_28 (by decide) hS rfl dSt_divide_47 ?_
      refine mn_iload_n 2 dSt_divide_50 rfl rfl ?_
      refine mn_iload_n 1 dSt_divide_51 rfl rfl ?_
      refine mn_imul (z := nI (n * u)) dSt_divide_52 (pk_mul n u) ?_
      refine mn_isub (z := nI (len - (n * u))) dSt_divide_53 (pk_sub (a := len) (b := n * u) (by omega)) ?_
      refine mn_min (z := nI (min u (len - (n * u)))) (mn_minN (by omega) (by omega)) lSt_66 min_st math_ini min_code (Nat.le_of_ble_eq_true rfl) (by decide) (by decide) dSt_divide_54 ?_
      refine mn_callV (d' := 1) (w' := 22) (nc' := 0) (ns' := 0) (As := [.int (nI n), .int 6, .int (nI (min u (len - (n * u))))]) (st := []) okPc_putPart lSt_75 dSt_divide_57 ha rfl rfl rfl rfl (Nat.le_of_ble_eq_true rfl) (Nat.le_of_ble_eq_true rfl) (by decide) (c_P_putPartN ha hb hl hs (by omega) (n := n) (i := 6) (v := min u (len - (n * u))) (by omega) (by omega) (by first | assumption | omega) (by first | assumption | omega)) (fun v g2 hq => ?_)
      obtain ⟨rfl, fg2, hb_g2, hl_g2, hs_g2⟩ := hq
      have hb_g2 : mn_at g2 (s + 1 + 3) (.inl (0, 1340, .inl (fun j => nI (pb j)))) := hb_g2
      have hl_g2 : mn_at g2 (s + 1 + 1) (.inl (0, 60, .inl (fun j => nI ((va_up (dvL ln len u n) n (min u (len - (n * u)))) j)))) := hl_g2
      have hs_g2 : mn_at g2 (s + 1 + 2) (.inl (0, 60, .inl (fun j => nI ((dvS sn bg e u n) j)))) := hs_g2
      show mn_R E MSt_divide 2 45 _ _ 60 [(0, .ref s), (1, .int (nI u)), (2, .int (nI n))] [] g2 _
      have hS_g2 := hS.fr fg2 (fun h => by have h9 : s = s + 1 + 1 ∨ s = s + 1 + 2 ∨ s = s + 1 + 3 := h; omega)
      have ha_g2 := ha.fr fg2 (fun h => by have h9 : (s + 1) = s + 1 + 1 ∨ (s + 1) = s + 1 + 2 ∨ (s + 1) = s + 1 + 3 := h; omega)
      have hg_g2 := hg.fr fg2 (fun h => by have h9 : (s + 5) = s + 1 + 1 ∨ (s + 5) = s + 1 + 2 ∨ (s + 5) = s + 1 + 3 := h; omega)
      refine mn_aload_n 0 dSt_divide_60 rfl rfl ?_
      refine mn_get okSt 0 lSt_16 (by decide) hS_g2 rfl dSt_divide_61 ?_
      refine mn_iload_n 2 dSt_divide_64 rfl rfl ?_
      refine mn_bipush (v := 7) dSt_divide_65 (by decide) ?_
      refine mn_aload_n 0 dSt_divide_67 rfl rfl ?_
      refine mn_iload_n 2 dSt_divide_68 rfl rfl ?_
      refine mn_iload_n 1 dSt_divide_69 rfl rfl ?_
      refine mn_imul (z := nI (n * u)) dSt_divide_70 (pk_mul n u) ?_
      refine mn_iload_n 1 dSt_divide_71 rfl rfl ?_
      refine mn_cV (d' := 0) (w' := 0) (As := [.int (nI (n * u)), .int (nI u)]) (stk' := [.int (nI (siK bg e (n * u) u e)), .int 7, .int (nI n), .ref (s + 1)]) okSt_startIn lSt_79 dSt_divide_72 hS_g2 rfl rfl rfl rfl (Nat.le_of_ble_eq_true rfl) (Nat.le_of_ble_eq_true rfl) (by decide) (c_S_startIn hS_g2 ha_g2 hb_g2 hl_g2 hs_g2 hg_g2 (fr := n * u) (u := u) he (by omega) hu hbg) rfl ?_
      refine mn_callV (d' := 1) (w' := 22) (nc' := 0) (ns' := 0) (As := [.int (nI n), .int 7, .int (nI (siK bg e (n * u) u e))]) (st := []) okPc_putPart lSt_75 dSt_divide_75 ha_g2 rfl rfl rfl rfl (Nat.le_of_ble_eq_true rfl) (Nat.le_of_ble_eq_true rfl) (by decide) (c_P_putPartN ha_g2 hb_g2 hl_g2 hs_g2 (by omega) (n := n) (i := 7) (v := siK bg e (n * u) u e) (by omega) (by omega) (by first | assumption | omega) (by first | assumption | omega)) (fun v g3 hq => ?_)
      obtain ⟨rfl, fg3, hb_g3, hl_g3, hs_g3⟩ := hq
      have hb_g3 : mn_at g3 (s + 1 + 3) (.inl (0, 1340, .inl (fun j => nI (pb j)))) := hb_g3
      have hl_g3 : mn_at g3 (s + 1 + 1) (.inl (0, 60, .inl (fun j => nI ((va_up (dvL ln len u n) n (min u (len - (n * u)))) j)))) := hl_g3
      have hs_g3 : mn_at g3 (s + 1 + 2) (.inl (0, 60, .inl (fun j => nI ((va_up (dvS sn bg e u n) n (siK bg e (n * u) u e)) j)))) := hs_g3
      show mn_R E MSt_divide 2 45 _ _ 78 [(0, .ref s), (1, .int (nI u)), (2, .int (nI n))] [] g3 _
      have hS_g3 := hS_g2.fr fg3 (fun h => by have h9 : s = s + 1 + 1 ∨ s = s + 1 + 2 ∨ s = s + 1 + 3 := h; omega)
      have ha_g3 := ha_g2.fr fg3 (fun h => by have h9 : (s + 1) = s + 1 + 1 ∨ (s + 1) = s + 1 + 2 ∨ (s + 1) = s + 1 + 3 := h; omega)
      have hg_g3 := hg_g2.fr fg3 (fun h => by have h9 : (s + 5) = s + 1 + 1 ∨ (s + 5) = s + 1 + 2 ∨ (s + 5) = s + 1 + 3 := h; omega)
      refine mn_iinc (v := nI (n + 1)) (ls' := [(0, .ref s), (1, .int (nI u)), (2, .int (nI (n + 1)))]) 2 dSt_divide_78 rfl (nI_add n 1) (by decide) rfl ?_
      refine mn_goto 27 dSt_divide_81 (by decide) ?_
      rw [dvL_s] at hl_g3
      rw [dvS_s] at hs_g3
      exact ih (n + 1) g3 (by omega) (by omega) ((hf.tr (fg2.mo (fun q h => by have h9 : q = s + 1 + 1 ∨ q = s + 1 + 2 ∨ q = s + 1 + 3 := h; show q = s + 1 ∨ q = s + 1 + 1 ∨ q = s + 1 + 2 ∨ q = s + 1 + 3; omega))).tr (fg3.mo (fun q h => by have h9 : q = s + 1 + 1 ∨ q = s + 1 + 2 ∨ q = s + 1 + 3 := h; show q = s + 1 ∨ q = s + 1 + 1 ∨ q = s + 1 + 2 ∨ q = s + 1 + 3; omega))) hS_g3 ha_g3 hb_g3 hl_g3 hs_g3 hg_g3
set_option maxRecDepth 100000 in
theorem c_S_divide {E : mn_En} {g : mn_H} {s e len m w : Nat} {pb ln sn bg : Nat → Nat} (hS : mn_at g s (.inr (6, [.ref (s + 1), .ref (s + 5), .int (nI e), .int (nI len)]))) (ha : mn_at g (s + 1) (.inr (2, [.ref (s + 1 + 3), .ref (s + 1 + 1), .ref (s + 1 + 2), .int (nI m), .int (nI w)]))) (hb : mn_at g (s + 1 + 3) (.inl (0, 1340, .inl (fun j => nI (pb j))))) (hl : mn_at g (s + 1 + 1) (.inl (0, 60, .inl (fun j => nI (ln j))))) (hs : mn_at g (s + 1 + 2) (.inl (0, 60, .inl (fun j => nI (sn j))))) (hg : mn_at g (s + 5) (.inl (0, 20, .inl (fun j => nI (bg j))))) {u : Nat} (he : e ≤ 20) (hbg : ∀ k, bg k < 100000) (hu0 : 8 ≤ u) (hu : u ≤ 68) (hlen : len < 1340) (hmm : pcN len u ≤ 60) : mn_R E MSt_divide 2 45 0 0 0 [(0, .ref s), (1, .int (nI u))] [] g (fun x g' => x = none ∧ mn_fr (fun q => q = s + 1 ∨ q = s + 1 + 1 ∨ q = s + 1 + 2 ∨ q = s + 1 + 3) g g' ∧ mn_at g' (s + 1) (.inr (2, [.ref (s + 1 + 3), .ref (s + 1 + 1), .ref (s + 1 + 2), .int (nI (pcN len u)), .int (nI u)])) ∧ mn_at g' (s + 1 + 3) (.inl (0, 1340, .inl (fun j => nI (pb j)))) ∧ mn_at g' (s + 1 + 1) (.inl (0, 60, .inl (fun j => nI (dvL ln len u (pcN len u) j)))) ∧ mn_at g' (s + 1 + 2) (.inl (0, 60, .inl (fun j => nI (dvS sn bg e u (pcN len u) j))))) := by
  refine mn_aload_n 0 dSt_divide_0 rfl rfl ?_
  refine mn_get okSt 0 lSt_16 (by decide) hS rfl dSt_divide_1 ?_
  refine mn_bipush (v := 60) dSt_divide_4 (by decide) ?_
  refine mn_aload_n 0 dSt_divide_6 rfl rfl ?_
  refine mn_iload_n 1 dSt_divide_7 rfl rfl ?_
  refine mn_cV (d' := 1) (w' := 21) (As := [.int (nI u)]) (stk' := [.int (nI (pcN len u)), .int 60, .ref (s + 1)]) okSt_pieceCount lSt_63 dSt_divide_8 hS rfl rfl rfl rfl (Nat.le_of_ble_eq_true rfl) (Nat.le_of_ble_eq_true rfl) (by decide) (c_S_pieceCount hS ha hb hl hs hg (u := u) hu0 hu hlen) rfl ?_
  refine mn_min (z := nI (pcN len u)) ((mn_minN (a := 60) (b := pcN len u) (by omega) (by omega)).trans (by rw [Nat.min_eq_right hmm])) lSt_66 min_st math_ini min_code (Nat.le_of_ble_eq_true rfl) (by decide) (by decide) dSt_divide_11 ?_
  refine mn_putf okPc 3 lSt_69 (by decide) rfl ha rfl rfl (Nat.le_of_ble_eq_true rfl) dSt_divide_14 ?_
  obtain ⟨g1, eg1⟩ : ∃ gg_, gg_ = mn_set g (s + 1) (.inr (2, [.ref (s + 1 + 3), .ref (s + 1 + 1), .ref (s + 1 + 2), .int (nI (pcN len u)), .int (nI w)])) := ⟨_, rfl⟩
  refine mn_R.toG eg1 ?_
  have hS_g1 : mn_at g1 s (.inr (6, [.ref (s + 1), .ref (s + 5), .int (nI e), .int (nI len)])) := by rw [eg1]; exact hS.off (by omega)
  have ha_g1 : mn_at g1 (s + 1) (.inr (2, [.ref (s + 1 + 3), .ref (s + 1 + 1), .ref (s + 1 + 2), .int (nI (pcN len u)), .int (nI w)])) := by rw [eg1]; exact ha.same
  have hb_g1 : mn_at g1 (s + 1 + 3) (.inl (0, 1340, .inl (fun j => nI (pb j)))) := by rw [eg1]; exact hb.off (by omega)
  have hl_g1 : mn_at g1 (s + 1 + 1) (.inl (0, 60, .inl (fun j => nI (ln j)))) := by rw [eg1]; exact hl.off (by omega)
  have hs_g1 : mn_at g1 (s + 1 + 2) (.inl (0, 60, .inl (fun j => nI (sn j)))) := by rw [eg1]; exact hs.off (by omega)
  have hg_g1 : mn_at g1 (s + 5) (.inl (0, 20, .inl (fun j => nI (bg j)))) := by rw [eg1]; exact hg.off (by omega)
  refine mn_aload_n 0 dSt_divide_17 rfl rfl ?_
  refine mn_get okSt 0 lSt_16 (by decide) hS_g1 rfl dSt_divide_18 ?_
  refine mn_iload_n 1 dSt_divide_21 rfl rfl ?_
  refine mn_putf okPc 4 lSt_72 (by decide) rfl ha_g1 rfl rfl (Nat.le_of_ble_eq_true rfl) dSt_divide_22 ?_
  obtain ⟨g2, eg2⟩ : ∃ gg_, gg_ = mn_set g1 (s + 1) (.inr (2, [.ref (s + 1 + 3), .ref (s + 1 + 1), .ref (s + 1 + 2), .int (nI (pcN len u)), .int (nI u)])) := ⟨_, rfl⟩
  refine mn_R.toG eg2 ?_
  have hS_g2 : mn_at g2 s (.inr (6, [.ref (s + 1), .ref (s + 5), .int (nI e), .int (nI len)])) := by rw [eg2]; exact hS_g1.off (by omega)
  have ha_g2 : mn_at g2 (s + 1) (.inr (2, [.ref (s + 1 + 3), .ref (s + 1 + 1), .ref (s + 1 + 2), .int (nI (pcN len u)), .int (nI u)])) := by rw [eg2]; exact ha_g1.same
  have hb_g2 : mn_at g2 (s + 1 + 3) (.inl (0, 1340, .inl (fun j => nI (pb j)))) := by rw [eg2]; exact hb_g1.off (by omega)
  have hl_g2 : mn_at g2 (s + 1 + 1) (.inl (0, 60, .inl (fun j => nI (ln j)))) := by rw [eg2]; exact hl_g1.off (by omega)
  have hs_g2 : mn_at g2 (s + 1 + 2) (.inl (0, 60, .inl (fun j => nI (sn j)))) := by rw [eg2]; exact hs_g1.off (by omega)
  have hg_g2 : mn_at g2 (s + 5) (.inl (0, 20, .inl (fun j => nI (bg j)))) := by rw [eg2]; exact hg_g1.off (by omega)
  refine mn_iconst (v := 0) dSt_divide_25 (by decide) ?_
  refine mn_istore_n (ls' := [(0, .ref s), (1, .int (nI u)), (2, .int 0)]) dSt_divide_26 rfl (by decide) rfl ?_
  have h1 : mn_at g2 (s + 1 + 1) (.inl (0, 60, .inl (fun j => nI (dvL ln len u 0 j)))) := by rw [dvL_0]; exact hl_g2
  have h2 : mn_at g2 (s + 1 + 2) (.inl (0, 60, .inl (fun j => nI (dvS sn bg e u 0 j)))) := by rw [dvS_0]; exact hs_g2
  exact c_S_divide_l (m := 0) (w := 0) he hbg hu0 hu hlen hmm (pcN len u + 1) 0 g2 (by omega) (by omega) ((mn_fr.rf.set eg1 (by show (s + 1) = s + 1 ∨ (s + 1) = s + 1 + 1 ∨ (s + 1) = s + 1 + 2 ∨ (s + 1) = s + 1 + 3; omega)).set eg2 (by show (s + 1) = s + 1 ∨ (s + 1) = s + 1 + 1 ∨ (s + 1) = s + 1 + 2 ∨ (s + 1) = s + 1 + 3; omega)) hS_g2 ha_g2 hb_g2 h1 h2 hg_g2
end
section
set_option maxRecDepth 100000 in
theorem c_Sl_at {E : mn_En} {g : mn_H} {z : Nat} {pi ss : Nat → Nat} {sb : Nat → Nat → Nat} (hSl : SlP g z pi ss sb) {i : Nat} (hi : i < 60) : mn_R E MSl_at 0 0 0 0 0 [(0, .ref z), (1, .int (nI i))] [] g (mn_is (some (.ref (z + 2 + 2 * pi i))) g) := by
  obtain ⟨hz, hzr, hv, hpi, hpj, hss, hsb⟩ := hSl
  refine mn_iload_n 1 dSl_at_0 rfl rfl ?_
  refine mn_if_lt 10 dSl_at_1 (by decide) (fun c1 => ?_) (fun c1 => ?_)
  · exact absurd c1 (nI_pos (by omega))
  · refine mn_iload_n 1 dSl_at_4 rfl rfl ?_
    refine mn_bipush (v := 60) dSl_at_5 (by decide) ?_
    refine mn_icmp_lt 14 dSl_at_7 (by decide) (fun c2 => ?_) (fun c2 => ?_)
    · have c2 := (nI_ltI (a := i) (b := 60) (by omega) (by omega)).mp c2
      refine mn_aload_n 0 dSl_at_14 rfl rfl ?_
      refine mn_get okSl 0 lSl_11 (by decide) hz rfl dSl_at_15 ?_
      refine mn_iload_n 1 dSl_at_18 rfl rfl ?_
      refine mn_aaldN (j := i) hzr rfl rfl (by omega) (by omega) (show sl_q z pi i = some (z + 2 + 2 * pi i) from if_pos (by omega)) dSl_at_19 ?_
      exact mn_aret rfl (Or.inl ⟨_, rfl⟩) dSl_at_20 ⟨rfl, rfl⟩
    · have c2 := mt (nI_ltI (a := i) (b := 60) (by omega) (by omega)).mpr c2
      refine mn_null dSl_at_10 ?_
      refine mn_goto 20 dSl_at_11 (by decide) ?_
      exact mn_nret rfl (Or.inl ⟨_, rfl⟩) dSl_at_20 (absurd hi (by omega))
set_option maxRecDepth 100000 in
theorem c_Sl_at_bad {E : mn_En} {g : mn_H} {z : Nat} {pi ss : Nat → Nat} {sb : Nat → Nat → Nat} (hSl : SlP g z pi ss sb) {x : Int32} (hx : x < 0 ∨ 60 ≤ x) : mn_R E MSl_at 0 0 0 0 0 [(0, .ref z), (1, .int x)] [] g (mn_is (some .null) g) := by
  obtain ⟨hz, hzr, hv, hpi, hpj, hss, hsb⟩ := hSl
  refine mn_iload_n 1 dSl_at_0 rfl rfl ?_
  refine mn_if_lt 10 dSl_at_1 (by decide) (fun c1 => ?_) (fun c1 => ?_)
  · refine mn_null dSl_at_10 ?_
    refine mn_goto 20 dSl_at_11 (by decide) ?_
    exact mn_nret rfl (Or.inl ⟨_, rfl⟩) dSl_at_20 ⟨rfl, rfl⟩
  · refine mn_iload_n 1 dSl_at_4 rfl rfl ?_
    refine mn_bipush (v := 60) dSl_at_5 (by decide) ?_
    refine mn_icmp_lt 14 dSl_at_7 (by decide) (fun c2 => ?_) (fun c2 => ?_)
    · exact absurd hx (fun q => q.elim c1 (Int32.not_le.mpr c2))
    · refine mn_null dSl_at_10 ?_
      refine mn_goto 20 dSl_at_11 (by decide) ?_
      exact mn_nret rfl (Or.inl ⟨_, rfl⟩) dSl_at_20 ⟨rfl, rfl⟩
set_option maxRecDepth 100000 in
theorem c_Sl_filled_l {E : mn_En} {g : mn_H} {z : Nat} {pi ss : Nat → Nat} {sb : Nat → Nat → Nat} (hSl : SlP g z pi ss sb) : ∀ (f i : Nat), i ≤ 60 → 60 - i < f → mn_R E MSl_filled 0 0 0 0 4 [(0, .ref z), (1, .int (nI (cnt (fun k => ss k ≠ 0) i))), (2, .int (nI i))] [] g (mn_is (some (.int (nI (cnt (fun k => ss k ≠ 0) 60)))) g) := by
  obtain ⟨hz, hzr, hv, hpi, hpj, hss, hsb⟩ := hSl
  intro f
  induction f with
  | zero => intro i h1 h2; exact absurd h2 (by omega)
  | succ f ih =>
    intro i h1 h2
    have hcn := cnt_le (fun k => ss k ≠ 0) i
    refine mn_iload_n 2 dSl_filled_4 rfl rfl ?_
    refine mn_bipush (v := 60) dSl_filled_5 (by decide) ?_
    refine mn_icmp_ge 31 dSl_filled_7 (by decide) (fun c1 => ?_) (fun c1 => ?_)
    · have c1 := (nI_leI (a := 60) (b := i) (by omega) (by omega)).mp c1
      refine mn_iload_n 1 dSl_filled_31 rfl rfl ?_
      exact mn_iret rfl dSl_filled_32 ⟨by rw [show i = 60 by omega], rfl⟩
    · have c1 := mt (nI_leI (a := 60) (b := i) (by omega) (by omega)).mpr c1
      have ho := (hv i (by omega)).1
      have hr := (hv i (by omega)).2
      have hssi := hss i
      have hpii := hpi i (by omega)
      refine mn_aload_n 0 dSl_filled_10 rfl rfl ?_
      refine mn_get okSl 0 lSl_11 (by decide) hz rfl dSl_filled_11 ?_
      refine mn_iload_n 2 dSl_filled_14 rfl rfl ?_
      refine mn_aaldN (j := i) hzr rfl rfl (by omega) (by omega) (show sl_q z pi i = some (z + 2 + 2 * pi i) from if_pos (by omega)) dSl_filled_15 ?_
      refine mn_get okVo 1 lSl_22 (by decide) ho rfl dSl_filled_16 ?_
      refine mn_if_eq 25 dSl_filled_19 (by decide) (fun c2 => ?_) (fun c2 => ?_)
      · have c2 := (nI_eq (a := (ss i)) (b := 0) (by omega) (by omega)).mp c2
        refine mn_iinc (v := nI (i + 1)) (ls' := [(0, .ref z), (1, .int (nI (cnt (fun k => ss k ≠ 0) i))), (2, .int (nI (i + 1)))]) 2 dSl_filled_25 rfl (nI_add i 1) (by decide) rfl ?_
        refine mn_goto 4 dSl_filled_28 (by decide) ?_
        rw [← cnt_n (P := fun k => ss k ≠ 0) (k := i) (fun q => q c2)]
        exact ih (i + 1) (by omega) (by omega)
      · have c2 := mt (nI_eq (a := (ss i)) (b := 0) (by omega) (by omega)).mpr c2
        refine mn_iinc (v := nI (cnt (fun k => ss k ≠ 0) i + 1)) (ls' := [(0, .ref z), (1, .int (nI (cnt (fun k => ss k ≠ 0) i + 1))), (2, .int (nI i))]) 1 dSl_filled_22 rfl (nI_add (cnt (fun k => ss k ≠ 0) i) 1) (by decide) rfl ?_
        refine mn_iinc (v := nI (i + 1)) (ls' := [(0, .ref z), (1, .int (nI (cnt (fun k => ss k ≠ 0) i + 1))), (2, .int (nI (i + 1)))]) 2 dSl_filled_25 rfl (nI_add i 1) (by decide) rfl ?_
        refine mn_goto 4 dSl_filled_28 (by decide) ?_
        rw [← cnt_y (P := fun k => ss k ≠ 0) (k := i) c2]
        exact ih (i + 1) (by omega) (by omega)
set_option maxRecDepth 100000 in
theorem c_Sl_filled {E : mn_En} {g : mn_H} {z : Nat} {pi ss : Nat → Nat} {sb : Nat → Nat → Nat} (hSl : SlP g z pi ss sb) : mn_R E MSl_filled 0 0 0 0 0 [(0, .ref z)] [] g (mn_is (some (.int (nI (cnt (fun k => ss k ≠ 0) 60)))) g) := by
  refine mn_iconst (v := 0) dSl_filled_0 (by decide) ?_
  refine mn_istore_n (ls' := [(0, .ref z), (1, .int 0)]) dSl_filled_1 rfl (by decide) rfl ?_
  refine mn_iconst (v := 0) dSl_filled_2 (by decide) ?_
  refine mn_istore_n (ls' := [(0, .ref z), (1, .int 0), (2, .int 0)]) dSl_filled_3 rfl (by decide) rfl ?_
  exact c_Sl_filled_l hSl 61 0 (by omega) (by omega)
set_option maxRecDepth 100000 in
theorem c_Sl_inState_l {E : mn_En} {g : mn_H} {z : Nat} {pi ss : Nat → Nat} {sb : Nat → Nat → Nat} (hSl : SlP g z pi ss sb) {x : Nat} (hx : x < 10) : ∀ (f i : Nat), i ≤ 60 → 60 - i < f → mn_R E MSl_inState 4 88 0 0 4 [(0, .ref z), (1, .int (nI x)), (2, .int (nI (cnt (fun k => stN (sb k) (ss k) = x) i))), (3, .int (nI i))] [] g (mn_is (some (.int (nI (cnt (fun k => stN (sb k) (ss k) = x) 60)))) g) := by
  obtain ⟨hz, hzr, hv, hpi, hpj, hss, hsb⟩ := hSl
  intro f
  induction f with
  | zero => intro i h1 h2; exact absurd h2 (by omega)
  | succ f ih =>
    intro i h1 h2
    have hcn := cnt_le (fun k => stN (sb k) (ss k) = x) i
    have hst := stN_lt (sb i) (ss i)
    refine mn_iload_n 3 dSl_inState_4 rfl rfl ?_
    refine mn_bipush (v := 60) dSl_inState_5 (by decide) ?_
    refine mn_icmp_ge 32 dSl_inState_7 (by decide) (fun c1 => ?_) (fun c1 => ?_)
    · have c1 := (nI_leI (a := 60) (b := i) (by omega) (by omega)).mp c1
      refine mn_iload_n 2 dSl_inState_32 rfl rfl ?_
      exact mn_iret rfl dSl_inState_33 ⟨by rw [show i = 60 by omega], rfl⟩
    · have c1 := mt (nI_leI (a := 60) (b := i) (by omega) (by omega)).mpr c1
      have ho := (hv i (by omega)).1
      have hr := (hv i (by omega)).2
      have hssi := hss i
      have hpii := hpi i (by omega)
      refine mn_aload_n 0 dSl_inState_10 rfl rfl ?_
      refine mn_get okSl 0 lSl_11 (by decide) hz rfl dSl_inState_11 ?_
      refine mn_iload_n 3 dSl_inState_14 rfl rfl ?_
      refine mn_aaldN (j := i) hzr rfl rfl (by omega) (by omega) (show sl_q z pi i = some (z + 2 + 2 * pi i) from if_pos (by omega)) dSl_inState_15 ?_
      refine mn_cV (d' := 3) (w' := 68) (As := []) (stk' := [.int (nI (stN (sb i) (ss i)))]) okVo_state lSl_26 dSl_inState_16 ho rfl rfl rfl rfl (Nat.le_of_ble_eq_true rfl) (Nat.le_of_ble_eq_true rfl) (by decide) (by have h0 := c_V_state (E := E) ho hr (by omega); rw [stV_nI (hsb i)] at h0; exact h0) rfl ?_
      refine mn_iload_n 1 dSl_inState_19 rfl rfl ?_
      refine mn_icmp_ne 26 dSl_inState_20 (by decide) (fun c2 => ?_) (fun c2 => ?_)
      · have c2 := mt (nI_eq (a := (stN (sb i) (ss i))) (b := x) (by omega) (by omega)).mpr c2
        refine mn_iinc (v := nI (i + 1)) (ls' := [(0, .ref z), (1, .int (nI x)), (2, .int (nI (cnt (fun k => stN (sb k) (ss k) = x) i))), (3, .int (nI (i + 1)))]) 3 dSl_inState_26 rfl (nI_add i 1) (by decide) rfl ?_
        refine mn_goto 4 dSl_inState_29 (by decide) ?_
        rw [← cnt_n (P := (fun k => stN (sb k) (ss k) = x)) (k := i) c2]
        exact ih (i + 1) (by omega) (by omega)
      · have c2 := (nI_eq (a := (stN (sb i) (ss i))) (b := x) (by omega) (by omega)).mp c2
        refine mn_iinc (v := nI (cnt (fun k => stN (sb k) (ss k) = x) i + 1)) (ls' := [(0, .ref z), (1, .int (nI x)), (2, .int (nI (cnt (fun k => stN (sb k) (ss k) = x) i + 1))), (3, .int (nI i))]) 2 dSl_inState_23 rfl (nI_add (cnt (fun k => stN (sb k) (ss k) = x) i) 1) (by decide) rfl ?_
        refine mn_iinc (v := nI (i + 1)) (ls' := [(0, .ref z), (1, .int (nI x)), (2, .int (nI (cnt (fun k => stN (sb k) (ss k) = x) i + 1))), (3, .int (nI (i + 1)))]) 3 dSl_inState_26 rfl (nI_add i 1) (by decide) rfl ?_
        refine mn_goto 4 dSl_inState_29 (by decide) ?_
        rw [← cnt_y (P := (fun k => stN (sb k) (ss k) = x)) (k := i) c2]
        exact ih (i + 1) (by omega) (by omega)
set_option maxRecDepth 100000 in
theorem c_Sl_inState {E : mn_En} {g : mn_H} {z : Nat} {pi ss : Nat → Nat} {sb : Nat → Nat → Nat} (hSl : SlP g z pi ss sb) {x : Nat} (hx : x < 10) : mn_R E MSl_inState 4 88 0 0 0 [(0, .ref z), (1, .int (nI x))] [] g (mn_is (some (.int (nI (cnt (fun k => stN (sb k) (ss k) = x) 60)))) g) := by
  refine mn_iconst (v := 0) dSl_inState_0 (by decide) ?_
  refine mn_istore_n (ls' := [(0, .ref z), (1, .int (nI x)), (2, .int 0)]) dSl_inState_1 rfl (by decide) rfl ?_
  refine mn_iconst (v := 0) dSl_inState_2 (by decide) ?_
  refine mn_istore_n (ls' := [(0, .ref z), (1, .int (nI x)), (2, .int 0), (3, .int 0)]) dSl_inState_3 rfl (by decide) rfl ?_
  exact c_Sl_inState_l hSl hx 61 0 (by omega) (by omega)
set_option maxRecDepth 100000 in
theorem c_Sl_fg_l {E : mn_En} {g : mn_H} {z : Nat} {pi ss : Nat → Nat} {sb : Nat → Nat → Nat} (hSl : SlP g z pi ss sb) {x : Nat} (hx : x < 256) : ∀ (f i : Nat), i ≤ 60 → 60 - i < f → mn_R E MSl_firstGood 5 112 0 0 2 [(0, .ref z), (1, .int (nI x)), (2, .int (nI i))] [] g (mn_is (match fst' (fun k => sb k 2 = x ∧ stN (sb k) (ss k) = 1) 60 (60 - i) with | none => some Value.null | some k => some (Value.ref (z + 2 + 2 * pi k))) g) := by
  obtain ⟨hz, hzr, hv, hpi, hpj, hss, hsb⟩ := hSl
  intro f
  induction f with
  | zero => intro i h1 h2; exact absurd h2 (by omega)
  | succ f ih =>
    intro i h1 h2
    refine mn_iload_n 2 dSl_firstGood_2 rfl rfl ?_
    refine mn_bipush (v := 60) dSl_firstGood_3 (by decide) ?_
    refine mn_icmp_ge 34 dSl_firstGood_5 (by decide) (fun c1 => ?_) (fun c1 => ?_)
    · have c1 := (nI_leI (a := 60) (b := i) (by omega) (by omega)).mp c1
      refine mn_null dSl_firstGood_34 ?_
      exact mn_nret rfl (Or.inl ⟨_, rfl⟩) dSl_firstGood_35 ⟨by rw [show 60 - i = 0 by omega]; rfl, rfl⟩
    · have c1 := mt (nI_leI (a := 60) (b := i) (by omega) (by omega)).mpr c1
      have ho := (hv i (by omega)).1
      have hr := (hv i (by omega)).2
      have hssi := hss i
      have hpii := hpi i (by omega)
      refine mn_aload_n 0 dSl_firstGood_8 rfl rfl ?_
      refine mn_get okSl 0 lSl_11 (by decide) hz rfl dSl_firstGood_9 ?_
      refine mn_iload_n 2 dSl_firstGood_12 rfl rfl ?_
      refine mn_aaldN (j := i) hzr rfl rfl (by omega) (by omega) (show sl_q z pi i = some (z + 2 + 2 * pi i) from if_pos (by omega)) dSl_firstGood_13 ?_
      refine mn_iload_n 1 dSl_firstGood_14 rfl rfl ?_
      refine mn_cV (d' := 4) (w' := 91) (As := [.int (nI x)]) (stk' := [.int (gdV (fun j => nI (sb i j)) (ss i) (nI x))]) okVo_isGoodOf lSl_30 dSl_firstGood_15 ho rfl rfl rfl rfl (Nat.le_of_ble_eq_true rfl) (Nat.le_of_ble_eq_true rfl) (by decide) (c_V_isGoodOf ho hr (by omega)) rfl ?_
      refine mn_if_eq 28 dSl_firstGood_18 (by decide) (fun c2 => ?_) (fun c2 => ?_)
      · refine mn_iinc (v := nI (i + 1)) (ls' := [(0, .ref z), (1, .int (nI x)), (2, .int (nI (i + 1)))]) 2 dSl_firstGood_28 rfl (nI_add i 1) (by decide) rfl ?_
        refine mn_goto 2 dSl_firstGood_31 (by decide) ?_
        rw [fst_n (by omega) ((gd_nI (hsb i) (ss i) hx).mp c2)]
        exact ih (i + 1) (by omega) (by omega)
      · refine mn_aload_n 0 dSl_firstGood_21 rfl rfl ?_
        refine mn_get okSl 0 lSl_11 (by decide) hz rfl dSl_firstGood_22 ?_
        refine mn_iload_n 2 dSl_firstGood_25 rfl rfl ?_
        refine mn_aaldN (j := i) hzr rfl rfl (by omega) (by omega) (show sl_q z pi i = some (z + 2 + 2 * pi i) from if_pos (by omega)) dSl_firstGood_26 ?_
        exact mn_aret rfl (Or.inl ⟨_, rfl⟩) dSl_firstGood_27 ⟨by rw [fst_y (by omega) (Classical.byContradiction fun q => c2 ((gd_nI (hsb i) (ss i) hx).mpr q))], rfl⟩
set_option maxRecDepth 100000 in
theorem c_Sl_firstGood {E : mn_En} {g : mn_H} {z : Nat} {pi ss : Nat → Nat} {sb : Nat → Nat → Nat} (hSl : SlP g z pi ss sb) {x : Nat} (hx : x < 256) : mn_R E MSl_firstGood 5 112 0 0 0 [(0, .ref z), (1, .int (nI x))] [] g (mn_is (match fst' (fun k => sb k 2 = x ∧ stN (sb k) (ss k) = 1) 60 60 with | none => some Value.null | some k => some (Value.ref (z + 2 + 2 * pi k))) g) := by
  refine mn_iconst (v := 0) dSl_firstGood_0 (by decide) ?_
  refine mn_istore_n (ls' := [(0, .ref z), (1, .int (nI x)), (2, .int 0)]) dSl_firstGood_1 rfl (by decide) rfl ?_
  exact c_Sl_fg_l hSl hx 61 0 (by omega) (by omega)
set_option maxRecDepth 100000 in
theorem c_Sl_hold_l {E : mn_En} {g : mn_H} {z : Nat} {pi ss : Nat → Nat} {sb : Nat → Nat → Nat} (hSl : SlP g z pi ss sb) {v t : Nat} {c : Nat → Nat} (hv0 : mn_at g v (.inr (8, [.ref (v + 1), .int (nI t)]))) (hv1 : mn_at g (v + 1) (.inl (0, 80, .inl (fun j => nI (c j))))) (ht : t ≤ 80) (hc : ∀ j, c j < 256) : ∀ (f i : Nat), i ≤ 60 → 60 - i < f → (∀ k, k < i → ¬ smN (ss k) t (sb k) c) → mn_R E MSl_hold 2 43 0 0 2 [(0, .ref z), (1, .ref v), (2, .int (nI i))] [] g (mn_is (some (.int (@ite _ (∃ k, k < 60 ∧ smN (ss k) t (sb k) c) (Classical.propDecidable _) 1 0))) g) := by
  obtain ⟨hz, hzr, hv, hpi, hpj, hss, hsb⟩ := hSl
  intro f
  induction f with
  | zero => intro i h1 h2; exact absurd h2 (by omega)
  | succ f ih =>
    intro i h1 h2 h3
    refine mn_iload_n 2 dSl_hold_2 rfl rfl ?_
    refine mn_bipush (v := 60) dSl_hold_3 (by decide) ?_
    refine mn_icmp_ge 29 dSl_hold_5 (by decide) (fun c1 => ?_) (fun c1 => ?_)
    · have c1 := (nI_leI (a := 60) (b := i) (by omega) (by omega)).mp c1
      refine mn_iconst (v := 0) dSl_hold_29 (by decide) ?_
      exact mn_zret rfl rfl dSl_hold_30 ⟨by rw [if_neg (fun q => by obtain ⟨k, k1, k2⟩ := q; exact h3 k (by omega) k2)], rfl⟩
    · have c1 := mt (nI_leI (a := 60) (b := i) (by omega) (by omega)).mpr c1
      have ho := (hv i (by omega)).1
      have hr := (hv i (by omega)).2
      have hssi := hss i
      have hpii := hpi i (by omega)
      refine mn_aload_n 0 dSl_hold_8 rfl rfl ?_
      refine mn_get okSl 0 lSl_11 (by decide) hz rfl dSl_hold_9 ?_
      refine mn_iload_n 2 dSl_hold_12 rfl rfl ?_
      refine mn_aaldN (j := i) hzr rfl rfl (by omega) (by omega) (show sl_q z pi i = some (z + 2 + 2 * pi i) from if_pos (by omega)) dSl_hold_13 ?_
      refine mn_aload_n 1 dSl_hold_14 rfl rfl ?_
      refine mn_cV (d' := 1) (w' := 21) (As := [.ref v]) (stk' := [.int (sameB (ss i) t (fun j => nI (sb i j)) (fun j => nI (c j)))]) okVo_hasJustTheBytesOf lSl_34 dSl_hold_15 ho rfl rfl rfl rfl (Nat.le_of_ble_eq_true rfl) (Nat.le_of_ble_eq_true rfl) (by decide) (c_V_same ho hr hv0 hv1 (by omega) ht) rfl ?_
      refine mn_if_eq 23 dSl_hold_18 (by decide) (fun c2 => ?_) (fun c2 => ?_)
      · refine mn_iinc (v := nI (i + 1)) (ls' := [(0, .ref z), (1, .ref v), (2, .int (nI (i + 1)))]) 2 dSl_hold_23 rfl (nI_add i 1) (by decide) rfl ?_
        refine mn_goto 2 dSl_hold_26 (by decide) ?_
        exact ih (i + 1) (by omega) (by omega) (fun k hk => by rcases Nat.lt_or_ge k i with h | h; exact h3 k h; rw [show k = i by omega]; exact (same_nI (hsb i) hc).mp c2)
      · refine mn_iconst (v := 1) dSl_hold_21 (by decide) ?_
        exact mn_zret rfl rfl dSl_hold_22 ⟨by rw [if_pos ⟨i, by omega, Classical.byContradiction fun q => c2 ((same_nI (hsb i) hc).mpr q)⟩], rfl⟩
set_option maxRecDepth 100000 in
theorem c_Sl_hold {E : mn_En} {g : mn_H} {z : Nat} {pi ss : Nat → Nat} {sb : Nat → Nat → Nat} (hSl : SlP g z pi ss sb) {v t : Nat} {c : Nat → Nat} (hv0 : mn_at g v (.inr (8, [.ref (v + 1), .int (nI t)]))) (hv1 : mn_at g (v + 1) (.inl (0, 80, .inl (fun j => nI (c j))))) (ht : t ≤ 80) (hc : ∀ j, c j < 256) : mn_R E MSl_hold 2 43 0 0 0 [(0, .ref z), (1, .ref v)] [] g (mn_is (some (.int (@ite _ (∃ k, k < 60 ∧ smN (ss k) t (sb k) c) (Classical.propDecidable _) 1 0))) g) := by
  refine mn_iconst (v := 0) dSl_hold_0 (by decide) ?_
  refine mn_istore_n (ls' := [(0, .ref z), (1, .ref v), (2, .int 0)]) dSl_hold_1 rfl (by decide) rfl ?_
  exact c_Sl_hold_l hSl hv0 hv1 ht hc 61 0 (by omega) (by omega) (fun k hk => absurd hk (by omega))
set_option maxRecDepth 100000 in
theorem c_Sl_exchange {E : mn_En} {g : mn_H} {z : Nat} {pi ss : Nat → Nat} {sb : Nat → Nat → Nat} (hSl : SlP g z pi ss sb) {a b : Nat} (hha : a < 60) (hhb : b < 60) : mn_R E MSl_exchange 1 21 0 0 0 [(0, .ref z), (1, .int (nI a)), (2, .int (nI b))] [] g (fun v g' => v = none ∧ mn_fr (fun q => q = z + 1) g g' ∧ SlP g' z (swp pi a b) (swp ss a b) (swp sb a b)) := by
  have hSl0 := hSl
  obtain ⟨hz, hzr, hv, hpi, hpj, hss, hsb⟩ := hSl
  refine mn_aload_n 0 dSl_exchange_0 rfl rfl ?_
  refine mn_iload_n 1 dSl_exchange_1 rfl rfl ?_
  refine mn_cV (d' := 0) (w' := 0) (As := [.int (nI a)]) (stk' := [.ref (z + 2 + 2 * pi a)]) okSl_at lSl_18 dSl_exchange_2 hz rfl rfl rfl rfl (Nat.le_of_ble_eq_true rfl) (Nat.le_of_ble_eq_true rfl) (by decide) (c_Sl_at hSl0 (i := a) (by omega)) rfl ?_
  refine mn_astore_n (ls' := [(0, .ref z), (1, .int (nI a)), (2, .int (nI b)), (3, .ref (z + 2 + 2 * pi a))]) dSl_exchange_5 rfl (by decide) rfl ?_
  refine mn_aload_n 0 dSl_exchange_6 rfl rfl ?_
  refine mn_iload_n 2 dSl_exchange_7 rfl rfl ?_
  refine mn_cV (d' := 0) (w' := 0) (As := [.int (nI b)]) (stk' := [.ref (z + 2 + 2 * pi b)]) okSl_at lSl_18 dSl_exchange_8 hz rfl rfl rfl rfl (Nat.le_of_ble_eq_true rfl) (Nat.le_of_ble_eq_true rfl) (by decide) (c_Sl_at hSl0 (i := b) (by omega)) rfl ?_
  refine mn_astore (ls' := [(0, .ref z), (1, .int (nI a)), (2, .int (nI b)), (3, .ref (z + 2 + 2 * pi a)), (4, .ref (z + 2 + 2 * pi b))]) dSl_exchange_11 (by decide) rfl ?_
  have hoA := (hv a (by omega)).1
  have hrA := (hv a (by omega)).2
  have hssAi := hss a
  have hpiAi := hpi a (by omega)
  have hoB := (hv b (by omega)).1
  have hrB := (hv b (by omega)).2
  have hssBi := hss b
  have hpiBi := hpi b (by omega)
  refine mn_aload_n 3 dSl_exchange_13 rfl rfl ?_
  refine mn_ifnull dSl_exchange_14 ?_
  refine mn_aload 4 dSl_exchange_17 rfl ?_
  refine mn_ifnull dSl_exchange_19 ?_
  refine mn_aload_n 0 dSl_exchange_22 rfl rfl ?_
  refine mn_get okSl 0 lSl_11 (by decide) hz rfl dSl_exchange_23 ?_
  refine mn_iload_n 1 dSl_exchange_26 rfl rfl ?_
  refine mn_aload 4 dSl_exchange_27 rfl ?_
  refine mn_aastN (j := a) (ci := 8) hzr rfl rfl hoB (by omega) (by omega) dSl_exchange_29 ?_
  obtain ⟨g1, eg1⟩ : ∃ gg_, gg_ = mn_set g (z + 1) (.inl (1, 60, .inr (.inr (.inr (.inr (va_up (sl_q z pi) a (some (z + 2 + 2 * pi b)))))))) := ⟨_, rfl⟩
  refine mn_R.toG eg1 ?_
  have hz_g1 : mn_at g1 z (.inr (5, [.ref (z + 1)])) := by rw [eg1]; exact hz.off (by omega)
  have hzr_g1 : mn_at g1 (z + 1) (.inl (1, 60, .inr (.inr (.inr (.inr (va_up (sl_q z pi) a (some (z + 2 + 2 * pi b)))))))) := by rw [eg1]; exact hzr.same
  have hoA_g1 : mn_at g1 (z + 2 + 2 * pi a) (.inr (8, [.ref (z + 2 + 2 * pi a + 1), .int (nI (ss a))])) := by rw [eg1]; exact hoA.off (by omega)
  have hrA_g1 : mn_at g1 (z + 2 + 2 * pi a + 1) (.inl (0, 80, .inl (fun j => nI (sb a j)))) := by rw [eg1]; exact hrA.off (by omega)
  have hoB_g1 : mn_at g1 (z + 2 + 2 * pi b) (.inr (8, [.ref (z + 2 + 2 * pi b + 1), .int (nI (ss b))])) := by rw [eg1]; exact hoB.off (by omega)
  have hrB_g1 : mn_at g1 (z + 2 + 2 * pi b + 1) (.inl (0, 80, .inl (fun j => nI (sb b j)))) := by rw [eg1]; exact hrB.off (by omega)
  refine mn_aload_n 0 dSl_exchange_30 rfl rfl ?_
  refine mn_get okSl 0 lSl_11 (by decide) hz_g1 rfl dSl_exchange_31 ?_
  refine mn_iload_n 2 dSl_exchange_34 rfl rfl ?_
  refine mn_aload_n 3 dSl_exchange_35 rfl rfl ?_
  refine mn_aastN (j := b) (ci := 8) hzr_g1 rfl rfl hoA_g1 (by omega) (by omega) dSl_exchange_36 ?_
  obtain ⟨g2, eg2⟩ : ∃ gg_, gg_ = mn_set g1 (z + 1) (.inl (1, 60, .inr (.inr (.inr (.inr (va_up (va_up (sl_q z pi) a (some (z + 2 + 2 * pi b))) b (some (z + 2 + 2 * pi a)))))))) := ⟨_, rfl⟩
  refine mn_R.toG eg2 ?_
  have hz_g2 : mn_at g2 z (.inr (5, [.ref (z + 1)])) := by rw [eg2]; exact hz_g1.off (by omega)
  have hzr_g2 : mn_at g2 (z + 1) (.inl (1, 60, .inr (.inr (.inr (.inr (va_up (va_up (sl_q z pi) a (some (z + 2 + 2 * pi b))) b (some (z + 2 + 2 * pi a)))))))) := by rw [eg2]; exact hzr_g1.same
  have hoA_g2 : mn_at g2 (z + 2 + 2 * pi a) (.inr (8, [.ref (z + 2 + 2 * pi a + 1), .int (nI (ss a))])) := by rw [eg2]; exact hoA_g1.off (by omega)
  have hrA_g2 : mn_at g2 (z + 2 + 2 * pi a + 1) (.inl (0, 80, .inl (fun j => nI (sb a j)))) := by rw [eg2]; exact hrA_g1.off (by omega)
  have hoB_g2 : mn_at g2 (z + 2 + 2 * pi b) (.inr (8, [.ref (z + 2 + 2 * pi b + 1), .int (nI (ss b))])) := by rw [eg2]; exact hoB_g1.off (by omega)
  have hrB_g2 : mn_at g2 (z + 2 + 2 * pi b + 1) (.inl (0, 80, .inl (fun j => nI (sb b j)))) := by rw [eg2]; exact hrB_g1.off (by omega)
  exact mn_vret rfl dSl_exchange_37 ⟨rfl, ((mn_fr.rf.set eg1 (by show (z + 1) = z + 1; omega)).set eg2 (by show (z + 1) = z + 1; omega)), SlP_swp hSl0 hha hhb ((mn_fr.rf.set eg1 (by show (z + 1) = z + 1; omega)).set eg2 (by show (z + 1) = z + 1; omega)) hzr_g2⟩
set_option maxRecDepth 100000 in
theorem c_Sl_put_l {E : mn_En} {g : mn_H} {z : Nat} {pi ss : Nat → Nat} {sb : Nat → Nat → Nat} (hSl : SlP g z pi ss sb) {v t : Nat} {c : Nat → Nat} (hv0 : mn_at g v (.inr (8, [.ref (v + 1), .int (nI t)]))) (hv1 : mn_at g (v + 1) (.inl (0, 80, .inl (fun j => nI (c j))))) (ht : t ≤ 80) (hc : ∀ j, c j < 256) (hvz : v + 1 < z ∨ z + 121 < v) {k : Nat} (hk : k < 60) (hk0 : ss k = 0) (hkm : ∀ i, i < k → ss i ≠ 0) : ∀ (f i : Nat), i ≤ k → k - i < f → mn_R E MSl_putIntoLeastEmpty 2 47 0 0 2 [(0, .ref z), (1, .ref v), (2, .int (nI i))] [] g (fun x g' => x = none ∧ mn_fr (fun q => q = z + 2 + 2 * pi k ∨ q = z + 2 + 2 * pi k + 1) g g' ∧ SlP g' z pi (va_up ss k t) (va_up sb k (cpN c (sb k)))) := by
  have hSl0 := hSl
  obtain ⟨hz, hzr, hv, hpi, hpj, hss, hsb⟩ := hSl
  intro f
  induction f with
  | zero => intro i h1 h2; exact absurd h2 (by omega)
  | succ f ih =>
    intro i h1 h2
    refine mn_iload_n 2 dSl_putIntoLeastEmpty_2 rfl rfl ?_
    refine mn_bipush (v := 60) dSl_putIntoLeastEmpty_3 (by decide) ?_
    refine mn_icmp_ge 37 dSl_putIntoLeastEmpty_5 (by decide) (fun c1 => ?_) (fun c1 => ?_)
    · have c1 := (nI_leI (a := 60) (b := i) (by omega) (by omega)).mp c1
      exact mn_vret rfl dSl_putIntoLeastEmpty_37 (absurd hk (by omega))
    · have c1 := mt (nI_leI (a := 60) (b := i) (by omega) (by omega)).mpr c1
      have ho := (hv i (by omega)).1
      have hr := (hv i (by omega)).2
      have hssi := hss i
      have hpii := hpi i (by omega)
      refine mn_aload_n 0 dSl_putIntoLeastEmpty_8 rfl rfl ?_
      refine mn_get okSl 0 lSl_11 (by decide) hz rfl dSl_putIntoLeastEmpty_9 ?_
      refine mn_iload_n 2 dSl_putIntoLeastEmpty_12 rfl rfl ?_
      refine mn_aaldN (j := i) hzr rfl rfl (by omega) (by omega) (show sl_q z pi i = some (z + 2 + 2 * pi i) from if_pos (by omega)) dSl_putIntoLeastEmpty_13 ?_
      refine mn_get okVo 1 lSl_22 (by decide) ho rfl dSl_putIntoLeastEmpty_14 ?_
      refine mn_if_ne 31 dSl_putIntoLeastEmpty_17 (by decide) (fun c2 => ?_) (fun c2 => ?_)
      · have c2 := mt (nI_eq (a := (ss i)) (b := 0) (by omega) (by omega)).mpr c2
        refine mn_iinc (v := nI (i + 1)) (ls' := [(0, .ref z), (1, .ref v), (2, .int (nI (i + 1)))]) 2 dSl_putIntoLeastEmpty_31 rfl (nI_add i 1) (by decide) rfl ?_
        refine mn_goto 2 dSl_putIntoLeastEmpty_34 (by decide) ?_
        have hik : i < k := by rcases Nat.lt_or_ge i k with h | h; exact h; exact absurd hk0 (by rw [show k = i by omega]; exact c2)
        exact ih (i + 1) (by omega) (by omega)
      · have c2 := (nI_eq (a := (ss i)) (b := 0) (by omega) (by omega)).mp c2
        refine mn_aload_n 0 dSl_putIntoLeastEmpty_20 rfl rfl ?_
        refine mn_get okSl 0 lSl_11 (by decide) hz rfl dSl_putIntoLeastEmpty_21 ?_
        refine mn_iload_n 2 dSl_putIntoLeastEmpty_24 rfl rfl ?_
        refine mn_aaldN (j := i) hzr rfl rfl (by omega) (by omega) (show sl_q z pi i = some (z + 2 + 2 * pi i) from if_pos (by omega)) dSl_putIntoLeastEmpty_25 ?_
        refine mn_aload_n 1 dSl_putIntoLeastEmpty_26 rfl rfl ?_
        refine mn_cV (d' := 1) (w' := 26) (As := [.ref v]) (stk' := []) okVo_become lSl_38 dSl_putIntoLeastEmpty_27 ho rfl rfl rfl rfl (Nat.le_of_ble_eq_true rfl) (Nat.le_of_ble_eq_true rfl) (by decide) (c_V_become ho hr hv0 hv1 (by omega) (by omega)) rfl ?_
        obtain ⟨g3, eg3⟩ : ∃ gg_, gg_ = mn_set g (z + 2 + 2 * pi i + 1) (.inl (0, 80, .inl (va_cpy (fun j => nI (c j)) (fun j => nI (sb i j)) 0 0 80))) := ⟨_, rfl⟩
        have hz_g3 : mn_at g3 z (.inr (5, [.ref (z + 1)])) := by rw [eg3]; exact hz.off (by omega)
        have hzr_g3 : mn_at g3 (z + 1) (.inl (1, 60, .inr (.inr (.inr (.inr (sl_q z pi)))))) := by rw [eg3]; exact hzr.off (by omega)
        have hv0_g3 : mn_at g3 v (.inr (8, [.ref (v + 1), .int (nI t)])) := by rw [eg3]; exact hv0.off (by omega)
        have hv1_g3 : mn_at g3 (v + 1) (.inl (0, 80, .inl (fun j => nI (c j)))) := by rw [eg3]; exact hv1.off (by omega)
        have ho_g3 : mn_at g3 (z + 2 + 2 * pi i) (.inr (8, [.ref (z + 2 + 2 * pi i + 1), .int (nI (ss i))])) := by rw [eg3]; exact ho.off (by omega)
        have hr_g3 : mn_at g3 (z + 2 + 2 * pi i + 1) (.inl (0, 80, .inl (va_cpy (fun j => nI (c j)) (fun j => nI (sb i j)) 0 0 80))) := by rw [eg3]; exact hr.same
        obtain ⟨g4, eg4⟩ : ∃ gg_, gg_ = mn_set g3 (z + 2 + 2 * pi i) (.inr (8, [.ref (z + 2 + 2 * pi i + 1), .int (nI t)])) := ⟨_, rfl⟩
        refine mn_R.toG (eg4.trans (by rw [eg3])) ?_
        have hz_g4 : mn_at g4 z (.inr (5, [.ref (z + 1)])) := by rw [eg4]; exact hz_g3.off (by omega)
        have hzr_g4 : mn_at g4 (z + 1) (.inl (1, 60, .inr (.inr (.inr (.inr (sl_q z pi)))))) := by rw [eg4]; exact hzr_g3.off (by omega)
        have hv0_g4 : mn_at g4 v (.inr (8, [.ref (v + 1), .int (nI t)])) := by rw [eg4]; exact hv0_g3.off (by omega)
        have hv1_g4 : mn_at g4 (v + 1) (.inl (0, 80, .inl (fun j => nI (c j)))) := by rw [eg4]; exact hv1_g3.off (by omega)
        have ho_g4 : mn_at g4 (z + 2 + 2 * pi i) (.inr (8, [.ref (z + 2 + 2 * pi i + 1), .int (nI t)])) := by rw [eg4]; exact ho_g3.same
        have hr_g4 : mn_at g4 (z + 2 + 2 * pi i + 1) (.inl (0, 80, .inl (va_cpy (fun j => nI (c j)) (fun j => nI (sb i j)) 0 0 80))) := by rw [eg4]; exact hr_g3.off (by omega)
        rw [cpy_nI] at hr_g4
        exact mn_vret rfl dSl_putIntoLeastEmpty_30 (by obtain rfl : i = k := (Classical.byContradiction fun q => hkm i (by omega) c2); exact ⟨rfl, ((mn_fr.rf.set eg3 (by show (z + 2 + 2 * pi i + 1) = z + 2 + 2 * pi i ∨ (z + 2 + 2 * pi i + 1) = z + 2 + 2 * pi i + 1; omega)).set eg4 (by show (z + 2 + 2 * pi i) = z + 2 + 2 * pi i ∨ (z + 2 + 2 * pi i) = z + 2 + 2 * pi i + 1; omega)), SlP_put hSl0 hk ht (cpN_lt hc (hsb i)) ((mn_fr.rf.set eg3 (by show (z + 2 + 2 * pi i + 1) = z + 2 + 2 * pi i ∨ (z + 2 + 2 * pi i + 1) = z + 2 + 2 * pi i + 1; omega)).set eg4 (by show (z + 2 + 2 * pi i) = z + 2 + 2 * pi i ∨ (z + 2 + 2 * pi i) = z + 2 + 2 * pi i + 1; omega)) ho_g4 hr_g4⟩)
set_option maxRecDepth 100000 in
theorem c_Sl_put {E : mn_En} {g : mn_H} {z : Nat} {pi ss : Nat → Nat} {sb : Nat → Nat → Nat} (hSl : SlP g z pi ss sb) {v t : Nat} {c : Nat → Nat} (hv0 : mn_at g v (.inr (8, [.ref (v + 1), .int (nI t)]))) (hv1 : mn_at g (v + 1) (.inl (0, 80, .inl (fun j => nI (c j))))) (ht : t ≤ 80) (hc : ∀ j, c j < 256) (hvz : v + 1 < z ∨ z + 121 < v) {k : Nat} (hk : k < 60) (hk0 : ss k = 0) (hkm : ∀ i, i < k → ss i ≠ 0) : mn_R E MSl_putIntoLeastEmpty 2 47 0 0 0 [(0, .ref z), (1, .ref v)] [] g (fun x g' => x = none ∧ mn_fr (fun q => q = z + 2 + 2 * pi k ∨ q = z + 2 + 2 * pi k + 1) g g' ∧ SlP g' z pi (va_up ss k t) (va_up sb k (cpN c (sb k)))) := by
  refine mn_iconst (v := 0) dSl_putIntoLeastEmpty_0 (by decide) ?_
  refine mn_istore_n (ls' := [(0, .ref z), (1, .ref v), (2, .int 0)]) dSl_putIntoLeastEmpty_1 rfl (by decide) rfl ?_
  exact c_Sl_put_l hSl hv0 hv1 ht hc hvz hk hk0 hkm (k + 1) 0 (by omega) (by omega)
end
section
theorem c_V_putN {E : mn_En} {g : mn_H} {a r s : Nat} {b : Nat → Nat} (ha : mn_at g a (.inr (8, [.ref r, .int (nI s)]))) (hr : mn_at g r (.inl (0, 80, .inl (fun j => nI (b j))))) {j v : Nat} (hj : j < 80) : mn_R E MVo_put 0 0 0 0 0 [(0, .ref a), (1, .int (nI j)), (2, .int (nI v))] [] g (mn_is none (mn_set g r (.inl (0, 80, .inl (fun i => nI (va_up b j v i)))))) := by
  rw [← upd_nI]
  exact c_V_put ha hr hj
set_option maxRecDepth 100000 in
theorem c_W_make_l {E : mn_En} {g : mn_H} {y a u nb m w sz rp st : Nat} {pb ln sn c : Nat → Nat} (hnb : nb < 5000) (hya : y + 2 < a ∨ a + 3 < y) (hyu : y + 2 < u ∨ u < y) (hsz : 20 ≤ sz) (hsz2 : sz ≤ 80) (hw : w = sz - 12) (hm1 : 1 ≤ m) (hm : m ≤ 60) (hmw : m * w ≤ nb) (hrp : rp ≤ 3) (hst : st < 256) {n : Nat} (hn : n < m + rp) (hpb : ∀ j, pb j < 256) (hln : ∀ j, ln j < 256) (hsn : ∀ j, sn j < 256) (hc : ∀ j, c j < 256) : ∀ (f i : Nat) (g0 : mn_H), 6 ≤ i → i ≤ sz → sz - i < f → mn_fr (fun q => q = y + 1 ∨ q = y + 2) g g0 → mn_at g0 y (.inr (9, [.ref (y + 1)])) → mn_at g0 (y + 1) (.inr (8, [.ref (y + 2), .int (nI sz)])) → mn_at g0 (y + 2) (.inl (0, 80, .inl (fun j => nI ((mkL (hd6 c st n m rp) (mkV pb ln sn w m n) i) j)))) → mn_at g0 a (.inr (2, [.ref (a + 3), .ref (a + 1), .ref (a + 2), .int (nI m), .int (nI w)])) → mn_at g0 (a + 3) (.inl (0, nb, .inl (fun j => nI (pb j)))) → mn_at g0 (a + 1) (.inl (0, 60, .inl (fun j => nI (ln j)))) → mn_at g0 (a + 2) (.inl (0, 60, .inl (fun j => nI (sn j)))) → mn_at g0 u (.inr (4, [.int (nI sz), .int (nI rp), .int (nI st)])) → mn_R E MWr_make 3 70 0 0 80 [(0, .ref y), (1, .int (nI n)), (2, .ref a), (3, .ref u), (4, .int (nI i))] [] g0 (fun x g' => x = none ∧ mn_fr (fun q => q = y + 1 ∨ q = y + 2) g g' ∧ mn_at g' (y + 1) (.inr (8, [.ref (y + 2), .int (nI sz)])) ∧ mn_at g' (y + 2) (.inl (0, 80, .inl (fun j => nI (vlN c pb ln sn w m n st rp sz j))))) := by
  intro f
  induction f with
  | zero => intro i g0 h0 h1 h2; exact absurd h2 (by omega)
  | succ f ih =>
    intro i g0 h0 h1 h2 hf hy hy1 hy2 ha hb hl hs hu
    refine mn_iload 4 dWr_make_80 rfl ?_
    refine mn_aload_n 3 dWr_make_82 rfl rfl ?_
    refine mn_get okRu 0 lWr_18 (by decide) hu rfl dWr_make_83 ?_
    refine mn_icmp_ge 134 dWr_make_86 (by decide) (fun c1 => ?_) (fun c1 => ?_)
    · have c1 := (nI_leI (a := sz) (b := i) (by omega) (by omega)).mp c1
      refine mn_aload_n 0 dWr_make_134 rfl rfl ?_
      refine mn_get okWr 0 lWr_12 (by decide) hy rfl dWr_make_135 ?_
      refine mn_cV (d' := 2) (w' := 45) (As := []) (stk' := []) okVo_seal lWr_47 dWr_make_138 hy1 rfl rfl rfl rfl (Nat.le_of_ble_eq_true rfl) (Nat.le_of_ble_eq_true rfl) (by decide) (by have h0 := c_V_seal (E := E) hy1 hy2 (by omega) (by omega); rw [seal_nI] at h0; exact h0) rfl ?_
      obtain ⟨g2, eg2⟩ : ∃ gg_, gg_ = mn_set g0 (y + 2) (.inl (0, 80, .inl (fun j => nI ((sealN (mkL (hd6 c st n m rp) (mkV pb ln sn w m n) i) sz) j)))) := ⟨_, rfl⟩
      refine mn_R.toG eg2 ?_
      have hy_g2 : mn_at g2 y (.inr (9, [.ref (y + 1)])) := by rw [eg2]; exact hy.off (by omega)
      have hy1_g2 : mn_at g2 (y + 1) (.inr (8, [.ref (y + 2), .int (nI sz)])) := by rw [eg2]; exact hy1.off (by omega)
      have hy2_g2 : mn_at g2 (y + 2) (.inl (0, 80, .inl (fun j => nI ((sealN (mkL (hd6 c st n m rp) (mkV pb ln sn w m n) i) sz) j)))) := by rw [eg2]; exact hy2.same
      have ha_g2 : mn_at g2 a (.inr (2, [.ref (a + 3), .ref (a + 1), .ref (a + 2), .int (nI m), .int (nI w)])) := by rw [eg2]; exact ha.off (by omega)
      have hb_g2 : mn_at g2 (a + 3) (.inl (0, nb, .inl (fun j => nI (pb j)))) := by rw [eg2]; exact hb.off (by omega)
      have hl_g2 : mn_at g2 (a + 1) (.inl (0, 60, .inl (fun j => nI (ln j)))) := by rw [eg2]; exact hl.off (by omega)
      have hs_g2 : mn_at g2 (a + 2) (.inl (0, 60, .inl (fun j => nI (sn j)))) := by rw [eg2]; exact hs.off (by omega)
      have hu_g2 : mn_at g2 u (.inr (4, [.int (nI sz), .int (nI rp), .int (nI st)])) := by rw [eg2]; exact hu.off (by omega)
      exact mn_vret rfl dWr_make_141 (by obtain rfl : i = sz := (by omega); exact ⟨rfl, (hf.set eg2 (by show (y + 2) = y + 1 ∨ (y + 2) = y + 2; omega)), hy1_g2, hy2_g2⟩)
    · have c1 := mt (nI_leI (a := sz) (b := i) (by omega) (by omega)).mpr c1
      have hwi : ∀ k, k < m → k * w + i < nb + 12 ∧ k * w < 5000 := fun k hk => by have := Nat.mul_le_mul_right w (show k + 1 ≤ m by omega); rw [Nat.succ_mul] at this; omega
      refine mn_aload_n 0 dWr_make_89 rfl rfl ?_
      refine mn_get okWr 0 lWr_12 (by decide) hy rfl dWr_make_90 ?_
      refine mn_iload 4 dWr_make_93 rfl ?_
      refine mn_iload_n 1 dWr_make_95 rfl rfl ?_
      refine mn_aload_n 2 dWr_make_96 rfl rfl ?_
      refine mn_get okPc 3 lWr_32 (by decide) ha rfl dWr_make_97 ?_
      refine mn_icmp_ge 113 dWr_make_100 (by decide) (fun c3 => ?_) (fun c3 => ?_)
      · have c3 := (nI_leI (a := m) (b := n) (by omega) (by omega)).mp c3
        refine mn_aload_n 2 dWr_make_113 rfl rfl ?_
        refine mn_iload_n 1 dWr_make_114 rfl rfl ?_
        refine mn_aload_n 2 dWr_make_115 rfl rfl ?_
        refine mn_get okPc 3 lWr_32 (by decide) ha rfl dWr_make_116 ?_
        refine mn_isub (z := nI (n - m)) dWr_make_119 (pk_sub (a := n) (b := m) (by omega)) ?_
        refine mn_iload 4 dWr_make_120 rfl ?_
        refine mn_cV (d' := 2) (w' := 46) (As := [.int (nI (n - m)), .int (nI i)]) (stk' := [.int (nI (horN (fun k => ptN pb ln sn w k i) (n - m) m m)), .int (nI i), .ref (y + 1)]) okPc_mixed lWr_44 dWr_make_122 ha rfl rfl rfl rfl (Nat.le_of_ble_eq_true rfl) (Nat.le_of_ble_eq_true rfl) (by decide) (c_P_mixedN ha hb hl hs (by omega) (j := n - m) (i := i) (by omega) (by omega) hm hwi hpb hln hsn hm1) rfl ?_
        refine mn_cV (d' := 0) (w' := 0) (As := [.int (nI i), .int (nI (horN (fun k => ptN pb ln sn w k i) (n - m) m m))]) (stk' := []) okVo_put lWr_25 dWr_make_125 hy1 rfl rfl rfl rfl (Nat.le_of_ble_eq_true rfl) (Nat.le_of_ble_eq_true rfl) (by decide) (c_V_putN hy1 hy2 (j := i) (v := horN (fun k => ptN pb ln sn w k i) (n - m) m m) (by omega)) rfl ?_
        obtain ⟨g4, eg4⟩ : ∃ gg_, gg_ = mn_set g0 (y + 2) (.inl (0, 80, .inl (fun j => nI ((va_up (mkL (hd6 c st n m rp) (mkV pb ln sn w m n) i) i (horN (fun k => ptN pb ln sn w k i) (n - m) m m)) j)))) := ⟨_, rfl⟩
        refine mn_R.toG eg4 ?_
        have hy_g4 : mn_at g4 y (.inr (9, [.ref (y + 1)])) := by rw [eg4]; exact hy.off (by omega)
        have hy1_g4 : mn_at g4 (y + 1) (.inr (8, [.ref (y + 2), .int (nI sz)])) := by rw [eg4]; exact hy1.off (by omega)
        have hy2_g4 : mn_at g4 (y + 2) (.inl (0, 80, .inl (fun j => nI ((va_up (mkL (hd6 c st n m rp) (mkV pb ln sn w m n) i) i (horN (fun k => ptN pb ln sn w k i) (n - m) m m)) j)))) := by rw [eg4]; exact hy2.same
        have ha_g4 : mn_at g4 a (.inr (2, [.ref (a + 3), .ref (a + 1), .ref (a + 2), .int (nI m), .int (nI w)])) := by rw [eg4]; exact ha.off (by omega)
        have hb_g4 : mn_at g4 (a + 3) (.inl (0, nb, .inl (fun j => nI (pb j)))) := by rw [eg4]; exact hb.off (by omega)
        have hl_g4 : mn_at g4 (a + 1) (.inl (0, 60, .inl (fun j => nI (ln j)))) := by rw [eg4]; exact hl.off (by omega)
        have hs_g4 : mn_at g4 (a + 2) (.inl (0, 60, .inl (fun j => nI (sn j)))) := by rw [eg4]; exact hs.off (by omega)
        have hu_g4 : mn_at g4 u (.inr (4, [.int (nI sz), .int (nI rp), .int (nI st)])) := by rw [eg4]; exact hu.off (by omega)
        refine mn_iinc (v := nI (i + 1)) (ls' := [(0, .ref y), (1, .int (nI n)), (2, .ref a), (3, .ref u), (4, .int (nI (i + 1)))]) 4 dWr_make_128 rfl (nI_add i 1) (by decide) rfl ?_
        refine mn_goto 80 dWr_make_131 (by decide) ?_
        rw [show horN (fun k => ptN pb ln sn w k i) (n - m) m m = mkV pb ln sn w m n i by unfold mkV; rw [if_neg (by omega)], mkL_s _ _ h0] at hy2_g4
        exact ih (i + 1) g4 (by omega) (by omega) (by omega) (hf.set eg4 (by show (y + 2) = y + 1 ∨ (y + 2) = y + 2; omega)) hy_g4 hy1_g4 hy2_g4 ha_g4 hb_g4 hl_g4 hs_g4 hu_g4
      · have c3 := mt (nI_leI (a := m) (b := n) (by omega) (by omega)).mpr c3
        have hwn := hwi n (by omega)
        have hwn1 := hwn.1
        have hwn2 := hwn.2
        refine mn_aload_n 2 dWr_make_103 rfl rfl ?_
        refine mn_iload_n 1 dWr_make_104 rfl rfl ?_
        refine mn_iload 4 dWr_make_105 rfl ?_
        refine mn_cV (d' := 1) (w' := 21) (As := [.int (nI n), .int (nI i)]) (stk' := [.int (nI (ptN pb ln sn w n i)), .int (nI i), .ref (y + 1)]) okPc_part lWr_40 dWr_make_107 ha rfl rfl rfl rfl (Nat.le_of_ble_eq_true rfl) (Nat.le_of_ble_eq_true rfl) (by decide) (c_P_partN ha hb hl hs (by omega) (n := n) (i := i) (by omega) (by omega) (by first | assumption | omega) (by first | assumption | omega)) rfl ?_
        refine mn_goto 125 dWr_make_110 (by decide) ?_
        refine mn_cV (d' := 0) (w' := 0) (As := [.int (nI i), .int (nI (ptN pb ln sn w n i))]) (stk' := []) okVo_put lWr_25 dWr_make_125 hy1 rfl rfl rfl rfl (Nat.le_of_ble_eq_true rfl) (Nat.le_of_ble_eq_true rfl) (by decide) (c_V_putN hy1 hy2 (j := i) (v := ptN pb ln sn w n i) (by omega)) rfl ?_
        obtain ⟨g5, eg5⟩ : ∃ gg_, gg_ = mn_set g0 (y + 2) (.inl (0, 80, .inl (fun j => nI ((va_up (mkL (hd6 c st n m rp) (mkV pb ln sn w m n) i) i (ptN pb ln sn w n i)) j)))) := ⟨_, rfl⟩
        refine mn_R.toG eg5 ?_
        have hy_g5 : mn_at g5 y (.inr (9, [.ref (y + 1)])) := by rw [eg5]; exact hy.off (by omega)
        have hy1_g5 : mn_at g5 (y + 1) (.inr (8, [.ref (y + 2), .int (nI sz)])) := by rw [eg5]; exact hy1.off (by omega)
        have hy2_g5 : mn_at g5 (y + 2) (.inl (0, 80, .inl (fun j => nI ((va_up (mkL (hd6 c st n m rp) (mkV pb ln sn w m n) i) i (ptN pb ln sn w n i)) j)))) := by rw [eg5]; exact hy2.same
        have ha_g5 : mn_at g5 a (.inr (2, [.ref (a + 3), .ref (a + 1), .ref (a + 2), .int (nI m), .int (nI w)])) := by rw [eg5]; exact ha.off (by omega)
        have hb_g5 : mn_at g5 (a + 3) (.inl (0, nb, .inl (fun j => nI (pb j)))) := by rw [eg5]; exact hb.off (by omega)
        have hl_g5 : mn_at g5 (a + 1) (.inl (0, 60, .inl (fun j => nI (ln j)))) := by rw [eg5]; exact hl.off (by omega)
        have hs_g5 : mn_at g5 (a + 2) (.inl (0, 60, .inl (fun j => nI (sn j)))) := by rw [eg5]; exact hs.off (by omega)
        have hu_g5 : mn_at g5 u (.inr (4, [.int (nI sz), .int (nI rp), .int (nI st)])) := by rw [eg5]; exact hu.off (by omega)
        refine mn_iinc (v := nI (i + 1)) (ls' := [(0, .ref y), (1, .int (nI n)), (2, .ref a), (3, .ref u), (4, .int (nI (i + 1)))]) 4 dWr_make_128 rfl (nI_add i 1) (by decide) rfl ?_
        refine mn_goto 80 dWr_make_131 (by decide) ?_
        rw [show ptN pb ln sn w n i = mkV pb ln sn w m n i by unfold mkV; rw [if_pos (by omega)], mkL_s _ _ h0] at hy2_g5
        exact ih (i + 1) g5 (by omega) (by omega) (by omega) (hf.set eg5 (by show (y + 2) = y + 1 ∨ (y + 2) = y + 2; omega)) hy_g5 hy1_g5 hy2_g5 ha_g5 hb_g5 hl_g5 hs_g5 hu_g5
set_option maxRecDepth 100000 in
theorem c_W_make {E : mn_En} {g : mn_H} {y a u nb m w sz rp st s0 : Nat} {pb ln sn c : Nat → Nat} (hy : mn_at g y (.inr (9, [.ref (y + 1)]))) (hy1 : mn_at g (y + 1) (.inr (8, [.ref (y + 2), .int (nI s0)]))) (hy2 : mn_at g (y + 2) (.inl (0, 80, .inl (fun j => nI (c j))))) (ha : mn_at g a (.inr (2, [.ref (a + 3), .ref (a + 1), .ref (a + 2), .int (nI m), .int (nI w)]))) (hb : mn_at g (a + 3) (.inl (0, nb, .inl (fun j => nI (pb j))))) (hl : mn_at g (a + 1) (.inl (0, 60, .inl (fun j => nI (ln j))))) (hs : mn_at g (a + 2) (.inl (0, 60, .inl (fun j => nI (sn j))))) (hu : mn_at g u (.inr (4, [.int (nI sz), .int (nI rp), .int (nI st)]))) (hnb : nb < 5000) (hya : y + 2 < a ∨ a + 3 < y) (hyu : y + 2 < u ∨ u < y) (hsz : 20 ≤ sz) (hsz2 : sz ≤ 80) (hw : w = sz - 12) (hm1 : 1 ≤ m) (hm : m ≤ 60) (hmw : m * w ≤ nb) (hrp : rp ≤ 3) (hst : st < 256) {n : Nat} (hn : n < m + rp) (hpb : ∀ j, pb j < 256) (hln : ∀ j, ln j < 256) (hsn : ∀ j, sn j < 256) (hc : ∀ j, c j < 256) : mn_R E MWr_make 3 70 0 0 0 [(0, .ref y), (1, .int (nI n)), (2, .ref a), (3, .ref u)] [] g (fun x g' => x = none ∧ mn_fr (fun q => q = y + 1 ∨ q = y + 2) g g' ∧ mn_at g' (y + 1) (.inr (8, [.ref (y + 2), .int (nI sz)])) ∧ mn_at g' (y + 2) (.inl (0, 80, .inl (fun j => nI (vlN c pb ln sn w m n st rp sz j))))) := by
  refine mn_aload_n 0 dWr_make_0 rfl rfl ?_
  refine mn_get okWr 0 lWr_12 (by decide) hy rfl dWr_make_1 ?_
  refine mn_aload_n 3 dWr_make_4 rfl rfl ?_
  refine mn_get okRu 0 lWr_18 (by decide) hu rfl dWr_make_5 ?_
  refine mn_putf okVo 1 lWr_24 (by decide) rfl hy1 rfl rfl (Nat.le_of_ble_eq_true rfl) dWr_make_8 ?_
  obtain ⟨g1, eg1⟩ : ∃ gg_, gg_ = mn_set g (y + 1) (.inr (8, [.ref (y + 2), .int (nI sz)])) := ⟨_, rfl⟩
  refine mn_R.toG eg1 ?_
  have hy_g1 : mn_at g1 y (.inr (9, [.ref (y + 1)])) := by rw [eg1]; exact hy.off (by omega)
  have hy1_g1 : mn_at g1 (y + 1) (.inr (8, [.ref (y + 2), .int (nI sz)])) := by rw [eg1]; exact hy1.same
  have hy2_g1 : mn_at g1 (y + 2) (.inl (0, 80, .inl (fun j => nI (c j)))) := by rw [eg1]; exact hy2.off (by omega)
  have ha_g1 : mn_at g1 a (.inr (2, [.ref (a + 3), .ref (a + 1), .ref (a + 2), .int (nI m), .int (nI w)])) := by rw [eg1]; exact ha.off (by omega)
  have hb_g1 : mn_at g1 (a + 3) (.inl (0, nb, .inl (fun j => nI (pb j)))) := by rw [eg1]; exact hb.off (by omega)
  have hl_g1 : mn_at g1 (a + 1) (.inl (0, 60, .inl (fun j => nI (ln j)))) := by rw [eg1]; exact hl.off (by omega)
  have hs_g1 : mn_at g1 (a + 2) (.inl (0, 60, .inl (fun j => nI (sn j)))) := by rw [eg1]; exact hs.off (by omega)
  have hu_g1 : mn_at g1 u (.inr (4, [.int (nI sz), .int (nI rp), .int (nI st)])) := by rw [eg1]; exact hu.off (by omega)
  refine mn_aload_n 0 dWr_make_11 rfl rfl ?_
  refine mn_get okWr 0 lWr_12 (by decide) hy_g1 rfl dWr_make_12 ?_
  refine mn_iconst (v := 0) dWr_make_15 (by decide) ?_
  refine mn_bipush (v := 86) dWr_make_16 (by decide) ?_
  refine mn_cV (d' := 0) (w' := 0) (As := [.int 0, .int 86]) (stk' := []) okVo_put lWr_25 dWr_make_18 hy1_g1 rfl rfl rfl rfl (Nat.le_of_ble_eq_true rfl) (Nat.le_of_ble_eq_true rfl) (by decide) (c_V_putN hy1_g1 hy2_g1 (j := 0) (v := 86) (by omega)) rfl ?_
  obtain ⟨g2, eg2⟩ : ∃ gg_, gg_ = mn_set g1 (y + 2) (.inl (0, 80, .inl (fun j => nI ((va_up c 0 86) j)))) := ⟨_, rfl⟩
  refine mn_R.toG eg2 ?_
  have hy_g2 : mn_at g2 y (.inr (9, [.ref (y + 1)])) := by rw [eg2]; exact hy_g1.off (by omega)
  have hy1_g2 : mn_at g2 (y + 1) (.inr (8, [.ref (y + 2), .int (nI sz)])) := by rw [eg2]; exact hy1_g1.off (by omega)
  have hy2_g2 : mn_at g2 (y + 2) (.inl (0, 80, .inl (fun j => nI ((va_up c 0 86) j)))) := by rw [eg2]; exact hy2_g1.same
  have ha_g2 : mn_at g2 a (.inr (2, [.ref (a + 3), .ref (a + 1), .ref (a + 2), .int (nI m), .int (nI w)])) := by rw [eg2]; exact ha_g1.off (by omega)
  have hb_g2 : mn_at g2 (a + 3) (.inl (0, nb, .inl (fun j => nI (pb j)))) := by rw [eg2]; exact hb_g1.off (by omega)
  have hl_g2 : mn_at g2 (a + 1) (.inl (0, 60, .inl (fun j => nI (ln j)))) := by rw [eg2]; exact hl_g1.off (by omega)
  have hs_g2 : mn_at g2 (a + 2) (.inl (0, 60, .inl (fun j => nI (sn j)))) := by rw [eg2]; exact hs_g1.off (by omega)
  have hu_g2 : mn_at g2 u (.inr (4, [.int (nI sz), .int (nI rp), .int (nI st)])) := by rw [eg2]; exact hu_g1.off (by omega)
  refine mn_aload_n 0 dWr_make_21 rfl rfl ?_
  refine mn_get okWr 0 lWr_12 (by decide) hy_g2 rfl dWr_make_22 ?_
  refine mn_iconst (v := 1) dWr_make_25 (by decide) ?_
  refine mn_bipush (v := 83) dWr_make_26 (by decide) ?_
  refine mn_cV (d' := 0) (w' := 0) (As := [.int 1, .int 83]) (stk' := []) okVo_put lWr_25 dWr_make_28 hy1_g2 rfl rfl rfl rfl (Nat.le_of_ble_eq_true rfl) (Nat.le_of_ble_eq_true rfl) (by decide) (c_V_putN hy1_g2 hy2_g2 (j := 1) (v := 83) (by omega)) rfl ?_
  obtain ⟨g3, eg3⟩ : ∃ gg_, gg_ = mn_set g2 (y + 2) (.inl (0, 80, .inl (fun j => nI ((va_up (va_up c 0 86) 1 83) j)))) := ⟨_, rfl⟩
  refine mn_R.toG eg3 ?_
  have hy_g3 : mn_at g3 y (.inr (9, [.ref (y + 1)])) := by rw [eg3]; exact hy_g2.off (by omega)
  have hy1_g3 : mn_at g3 (y + 1) (.inr (8, [.ref (y + 2), .int (nI sz)])) := by rw [eg3]; exact hy1_g2.off (by omega)
  have hy2_g3 : mn_at g3 (y + 2) (.inl (0, 80, .inl (fun j => nI ((va_up (va_up c 0 86) 1 83) j)))) := by rw [eg3]; exact hy2_g2.same
  have ha_g3 : mn_at g3 a (.inr (2, [.ref (a + 3), .ref (a + 1), .ref (a + 2), .int (nI m), .int (nI w)])) := by rw [eg3]; exact ha_g2.off (by omega)
  have hb_g3 : mn_at g3 (a + 3) (.inl (0, nb, .inl (fun j => nI (pb j)))) := by rw [eg3]; exact hb_g2.off (by omega)
  have hl_g3 : mn_at g3 (a + 1) (.inl (0, 60, .inl (fun j => nI (ln j)))) := by rw [eg3]; exact hl_g2.off (by omega)
  have hs_g3 : mn_at g3 (a + 2) (.inl (0, 60, .inl (fun j => nI (sn j)))) := by rw [eg3]; exact hs_g2.off (by omega)
  have hu_g3 : mn_at g3 u (.inr (4, [.int (nI sz), .int (nI rp), .int (nI st)])) := by rw [eg3]; exact hu_g2.off (by omega)
  refine mn_aload_n 0 dWr_make_31 rfl rfl ?_
  refine mn_get okWr 0 lWr_12 (by decide) hy_g3 rfl dWr_make_32 ?_
  refine mn_iconst (v := 2) dWr_make_35 (by decide) ?_
  refine mn_aload_n 3 dWr_make_36 rfl rfl ?_
  refine mn_get okRu 2 lWr_29 (by decide) hu_g3 rfl dWr_make_37 ?_
  refine mn_cV (d' := 0) (w' := 0) (As := [.int 2, .int (nI st)]) (stk' := []) okVo_put lWr_25 dWr_make_40 hy1_g3 rfl rfl rfl rfl (Nat.le_of_ble_eq_true rfl) (Nat.le_of_ble_eq_true rfl) (by decide) (c_V_putN hy1_g3 hy2_g3 (j := 2) (v := st) (by omega)) rfl ?_
  obtain ⟨g4, eg4⟩ : ∃ gg_, gg_ = mn_set g3 (y + 2) (.inl (0, 80, .inl (fun j => nI ((va_up (va_up (va_up c 0 86) 1 83) 2 st) j)))) := ⟨_, rfl⟩
  refine mn_R.toG eg4 ?_
  have hy_g4 : mn_at g4 y (.inr (9, [.ref (y + 1)])) := by rw [eg4]; exact hy_g3.off (by omega)
  have hy1_g4 : mn_at g4 (y + 1) (.inr (8, [.ref (y + 2), .int (nI sz)])) := by rw [eg4]; exact hy1_g3.off (by omega)
  have hy2_g4 : mn_at g4 (y + 2) (.inl (0, 80, .inl (fun j => nI ((va_up (va_up (va_up c 0 86) 1 83) 2 st) j)))) := by rw [eg4]; exact hy2_g3.same
  have ha_g4 : mn_at g4 a (.inr (2, [.ref (a + 3), .ref (a + 1), .ref (a + 2), .int (nI m), .int (nI w)])) := by rw [eg4]; exact ha_g3.off (by omega)
  have hb_g4 : mn_at g4 (a + 3) (.inl (0, nb, .inl (fun j => nI (pb j)))) := by rw [eg4]; exact hb_g3.off (by omega)
  have hl_g4 : mn_at g4 (a + 1) (.inl (0, 60, .inl (fun j => nI (ln j)))) := by rw [eg4]; exact hl_g3.off (by omega)
  have hs_g4 : mn_at g4 (a + 2) (.inl (0, 60, .inl (fun j => nI (sn j)))) := by rw [eg4]; exact hs_g3.off (by omega)
  have hu_g4 : mn_at g4 u (.inr (4, [.int (nI sz), .int (nI rp), .int (nI st)])) := by rw [eg4]; exact hu_g3.off (by omega)
  refine mn_aload_n 0 dWr_make_43 rfl rfl ?_
  refine mn_get okWr 0 lWr_12 (by decide) hy_g4 rfl dWr_make_44 ?_
  refine mn_iconst (v := 3) dWr_make_47 (by decide) ?_
  refine mn_iload_n 1 dWr_make_48 rfl rfl ?_
  refine mn_cV (d' := 0) (w' := 0) (As := [.int 3, .int (nI n)]) (stk' := []) okVo_put lWr_25 dWr_make_49 hy1_g4 rfl rfl rfl rfl (Nat.le_of_ble_eq_true rfl) (Nat.le_of_ble_eq_true rfl) (by decide) (c_V_putN hy1_g4 hy2_g4 (j := 3) (v := n) (by omega)) rfl ?_
  obtain ⟨g5, eg5⟩ : ∃ gg_, gg_ = mn_set g4 (y + 2) (.inl (0, 80, .inl (fun j => nI ((va_up (va_up (va_up (va_up c 0 86) 1 83) 2 st) 3 n) j)))) := ⟨_, rfl⟩
  refine mn_R.toG eg5 ?_
  have hy_g5 : mn_at g5 y (.inr (9, [.ref (y + 1)])) := by rw [eg5]; exact hy_g4.off (by omega)
  have hy1_g5 : mn_at g5 (y + 1) (.inr (8, [.ref (y + 2), .int (nI sz)])) := by rw [eg5]; exact hy1_g4.off (by omega)
  have hy2_g5 : mn_at g5 (y + 2) (.inl (0, 80, .inl (fun j => nI ((va_up (va_up (va_up (va_up c 0 86) 1 83) 2 st) 3 n) j)))) := by rw [eg5]; exact hy2_g4.same
  have ha_g5 : mn_at g5 a (.inr (2, [.ref (a + 3), .ref (a + 1), .ref (a + 2), .int (nI m), .int (nI w)])) := by rw [eg5]; exact ha_g4.off (by omega)
  have hb_g5 : mn_at g5 (a + 3) (.inl (0, nb, .inl (fun j => nI (pb j)))) := by rw [eg5]; exact hb_g4.off (by omega)
  have hl_g5 : mn_at g5 (a + 1) (.inl (0, 60, .inl (fun j => nI (ln j)))) := by rw [eg5]; exact hl_g4.off (by omega)
  have hs_g5 : mn_at g5 (a + 2) (.inl (0, 60, .inl (fun j => nI (sn j)))) := by rw [eg5]; exact hs_g4.off (by omega)
  have hu_g5 : mn_at g5 u (.inr (4, [.int (nI sz), .int (nI rp), .int (nI st)])) := by rw [eg5]; exact hu_g4.off (by omega)
  refine mn_aload_n 0 dWr_make_52 rfl rfl ?_
  refine mn_get okWr 0 lWr_12 (by decide) hy_g5 rfl dWr_make_53 ?_
  refine mn_iconst (v := 4) dWr_make_56 (by decide) ?_
  refine mn_aload_n 2 dWr_make_57 rfl rfl ?_
  refine mn_get okPc 3 lWr_32 (by decide) ha_g5 rfl dWr_make_58 ?_
  refine mn_cV (d' := 0) (w' := 0) (As := [.int 4, .int (nI m)]) (stk' := []) okVo_put lWr_25 dWr_make_61 hy1_g5 rfl rfl rfl rfl (Nat.le_of_ble_eq_true rfl) (Nat.le_of_ble_eq_true rfl) (by decide) (c_V_putN hy1_g5 hy2_g5 (j := 4) (v := m) (by omega)) rfl ?_
  obtain ⟨g6, eg6⟩ : ∃ gg_, gg_ = mn_set g5 (y + 2) (.inl (0, 80, .inl (fun j => nI ((va_up (va_up (va_up (va_up (va_up c 0 86) 1 83) 2 st) 3 n) 4 m) j)))) := ⟨_, rfl⟩
  refine mn_R.toG eg6 ?_
  have hy_g6 : mn_at g6 y (.inr (9, [.ref (y + 1)])) := by rw [eg6]; exact hy_g5.off (by omega)
  have hy1_g6 : mn_at g6 (y + 1) (.inr (8, [.ref (y + 2), .int (nI sz)])) := by rw [eg6]; exact hy1_g5.off (by omega)
  have hy2_g6 : mn_at g6 (y + 2) (.inl (0, 80, .inl (fun j => nI ((va_up (va_up (va_up (va_up (va_up c 0 86) 1 83) 2 st) 3 n) 4 m) j)))) := by rw [eg6]; exact hy2_g5.same
  have ha_g6 : mn_at g6 a (.inr (2, [.ref (a + 3), .ref (a + 1), .ref (a + 2), .int (nI m), .int (nI w)])) := by rw [eg6]; exact ha_g5.off (by omega)
  have hb_g6 : mn_at g6 (a + 3) (.inl (0, nb, .inl (fun j => nI (pb j)))) := by rw [eg6]; exact hb_g5.off (by omega)
  have hl_g6 : mn_at g6 (a + 1) (.inl (0, 60, .inl (fun j => nI (ln j)))) := by rw [eg6]; exact hl_g5.off (by omega)
  have hs_g6 : mn_at g6 (a + 2) (.inl (0, 60, .inl (fun j => nI (sn j)))) := by rw [eg6]; exact hs_g5.off (by omega)
  have hu_g6 : mn_at g6 u (.inr (4, [.int (nI sz), .int (nI rp), .int (nI st)])) := by rw [eg6]; exact hu_g5.off (by omega)
  refine mn_aload_n 0 dWr_make_64 rfl rfl ?_
  refine mn_get okWr 0 lWr_12 (by decide) hy_g6 rfl dWr_make_65 ?_
  refine mn_iconst (v := 5) dWr_make_68 (by decide) ?_
  refine mn_aload_n 3 dWr_make_69 rfl rfl ?_
  refine mn_get okRu 1 lWr_37 (by decide) hu_g6 rfl dWr_make_70 ?_
  refine mn_cV (d' := 0) (w' := 0) (As := [.int 5, .int (nI rp)]) (stk' := []) okVo_put lWr_25 dWr_make_73 hy1_g6 rfl rfl rfl rfl (Nat.le_of_ble_eq_true rfl) (Nat.le_of_ble_eq_true rfl) (by decide) (c_V_putN hy1_g6 hy2_g6 (j := 5) (v := rp) (by omega)) rfl ?_
  obtain ⟨g7, eg7⟩ : ∃ gg_, gg_ = mn_set g6 (y + 2) (.inl (0, 80, .inl (fun j => nI ((va_up (va_up (va_up (va_up (va_up (va_up c 0 86) 1 83) 2 st) 3 n) 4 m) 5 rp) j)))) := ⟨_, rfl⟩
  refine mn_R.toG eg7 ?_
  have hy_g7 : mn_at g7 y (.inr (9, [.ref (y + 1)])) := by rw [eg7]; exact hy_g6.off (by omega)
  have hy1_g7 : mn_at g7 (y + 1) (.inr (8, [.ref (y + 2), .int (nI sz)])) := by rw [eg7]; exact hy1_g6.off (by omega)
  have hy2_g7 : mn_at g7 (y + 2) (.inl (0, 80, .inl (fun j => nI ((va_up (va_up (va_up (va_up (va_up (va_up c 0 86) 1 83) 2 st) 3 n) 4 m) 5 rp) j)))) := by rw [eg7]; exact hy2_g6.same
  have ha_g7 : mn_at g7 a (.inr (2, [.ref (a + 3), .ref (a + 1), .ref (a + 2), .int (nI m), .int (nI w)])) := by rw [eg7]; exact ha_g6.off (by omega)
  have hb_g7 : mn_at g7 (a + 3) (.inl (0, nb, .inl (fun j => nI (pb j)))) := by rw [eg7]; exact hb_g6.off (by omega)
  have hl_g7 : mn_at g7 (a + 1) (.inl (0, 60, .inl (fun j => nI (ln j)))) := by rw [eg7]; exact hl_g6.off (by omega)
  have hs_g7 : mn_at g7 (a + 2) (.inl (0, 60, .inl (fun j => nI (sn j)))) := by rw [eg7]; exact hs_g6.off (by omega)
  have hu_g7 : mn_at g7 u (.inr (4, [.int (nI sz), .int (nI rp), .int (nI st)])) := by rw [eg7]; exact hu_g6.off (by omega)
  refine mn_bipush (v := 6) dWr_make_76 (by decide) ?_
  refine mn_istore (ls' := [(0, .ref y), (1, .int (nI n)), (2, .ref a), (3, .ref u), (4, .int 6)]) dWr_make_78 (by decide) rfl ?_
  have h6 : mn_at g7 (y + 2) (.inl (0, 80, .inl (fun j => nI (mkL (hd6 c st n m rp) (mkV pb ln sn w m n) 6 j)))) := by rw [mkL_6]; exact hy2_g7
  exact c_W_make_l hnb hya hyu hsz hsz2 hw hm1 hm hmw hrp hst hn hpb hln hsn hc (sz + 1) 6 g7 (by omega) (by omega) (by omega) (((((((mn_fr.rf.set eg1 (by show (y + 1) = y + 1 ∨ (y + 1) = y + 2; omega)).set eg2 (by show (y + 2) = y + 1 ∨ (y + 2) = y + 2; omega)).set eg3 (by show (y + 2) = y + 1 ∨ (y + 2) = y + 2; omega)).set eg4 (by show (y + 2) = y + 1 ∨ (y + 2) = y + 2; omega)).set eg5 (by show (y + 2) = y + 1 ∨ (y + 2) = y + 2; omega)).set eg6 (by show (y + 2) = y + 1 ∨ (y + 2) = y + 2; omega)).set eg7 (by show (y + 2) = y + 1 ∨ (y + 2) = y + 2; omega)) hy_g7 hy1_g7 h6 ha_g7 hb_g7 hl_g7 hs_g7 hu_g7
end
