section
def lw_okq (q : MethodName × Nat) : Prop := (q.1.cls ≠ "java/lang/invoke/MethodHandle" ∧ q.1.cls ≠ "java/lang/invoke/VarHandle") ∧ Cond.instantiable q.1.cls q.2 ∈ tables_1 ∧ Cond.privateMethod q.1 ∈ tables_1 ∧ Cond.instanceMethod q.1 ∈ tables_1
theorem lw_p0 : lw_okq (⟨"VolumeSets$Tape", "add", "(I)V"⟩, 2) := ⟨⟨by decide +kernel, by decide +kernel⟩, List.mem_of_getElem? (i := 26) (by decide +kernel), List.mem_of_getElem? (i := 270) (by decide +kernel), List.mem_of_getElem? (i := 271) (by decide +kernel)⟩
theorem lw_p1 : lw_okq (⟨"VolumeSets$Stream", "add", "(I)V"⟩, 4) := ⟨⟨by decide +kernel, by decide +kernel⟩, List.mem_of_getElem? (i := 42) (by decide +kernel), List.mem_of_getElem? (i := 295) (by decide +kernel), List.mem_of_getElem? (i := 296) (by decide +kernel)⟩
theorem lw_p2 : lw_okq (⟨"VolumeSets$Rules", "changeSize", "(I)I"⟩, 3) := ⟨⟨by decide +kernel, by decide +kernel⟩, List.mem_of_getElem? (i := 95) (by decide +kernel), List.mem_of_getElem? (i := 330) (by decide +kernel), List.mem_of_getElem? (i := 331) (by decide +kernel)⟩
theorem lw_p3 : lw_okq (⟨"VolumeSets$Rules", "changeRepairs", "(I)I"⟩, 3) := ⟨⟨by decide +kernel, by decide +kernel⟩, List.mem_of_getElem? (i := 95) (by decide +kernel), List.mem_of_getElem? (i := 334) (by decide +kernel), List.mem_of_getElem? (i := 335) (by decide +kernel)⟩
theorem lw_p4 : lw_okq (⟨"VolumeSets$Rules", "changeSet", "(I)I"⟩, 3) := ⟨⟨by decide +kernel, by decide +kernel⟩, List.mem_of_getElem? (i := 95) (by decide +kernel), List.mem_of_getElem? (i := 338) (by decide +kernel), List.mem_of_getElem? (i := 339) (by decide +kernel)⟩
theorem lw_p5 : lw_okq (⟨"VolumeSets$Stream", "startIn", "(II)I"⟩, 4) := ⟨⟨by decide +kernel, by decide +kernel⟩, List.mem_of_getElem? (i := 42) (by decide +kernel), List.mem_of_getElem? (i := 376) (by decide +kernel), List.mem_of_getElem? (i := 377) (by decide +kernel)⟩
theorem lw_p6 : lw_okq (⟨"VolumeSets$Volume", "putSum", "(II)V"⟩, 2) := ⟨⟨by decide +kernel, by decide +kernel⟩, List.mem_of_getElem? (i := 123) (by decide +kernel), List.mem_of_getElem? (i := 412) (by decide +kernel), List.mem_of_getElem? (i := 413) (by decide +kernel)⟩
theorem lw_p7 : lw_okq (⟨"VolumeSets$Volume", "sumAt", "(I)I"⟩, 2) := ⟨⟨by decide +kernel, by decide +kernel⟩, List.mem_of_getElem? (i := 123) (by decide +kernel), List.mem_of_getElem? (i := 502) (by decide +kernel), List.mem_of_getElem? (i := 503) (by decide +kernel)⟩
theorem lw_p8 : lw_okq (⟨"VolumeSets$Reading", "begin", "(LVolumeSets$Volume;)V"⟩, 8) := ⟨⟨by decide +kernel, by decide +kernel⟩, List.mem_of_getElem? (i := 159) (by decide +kernel), List.mem_of_getElem? (i := 524) (by decide +kernel), List.mem_of_getElem? (i := 525) (by decide +kernel)⟩
theorem lw_p9 : lw_okq (⟨"VolumeSets$Reading", "take", "(LVolumeSets$Volume;I)V"⟩, 8) := ⟨⟨by decide +kernel, by decide +kernel⟩, List.mem_of_getElem? (i := 159) (by decide +kernel), List.mem_of_getElem? (i := 537) (by decide +kernel), List.mem_of_getElem? (i := 538) (by decide +kernel)⟩
theorem lw_p10 : lw_okq (⟨"VolumeSets$Reading", "setPlace", "(II)V"⟩, 8) := ⟨⟨by decide +kernel, by decide +kernel⟩, List.mem_of_getElem? (i := 159) (by decide +kernel), List.mem_of_getElem? (i := 545) (by decide +kernel), List.mem_of_getElem? (i := 546) (by decide +kernel)⟩
theorem lw_p11 : lw_okq (⟨"VolumeSets$Reading", "makeAgain", "(LVolumeSets$Slots;)V"⟩, 8) := ⟨⟨by decide +kernel, by decide +kernel⟩, List.mem_of_getElem? (i := 159) (by decide +kernel), List.mem_of_getElem? (i := 550) (by decide +kernel), List.mem_of_getElem? (i := 551) (by decide +kernel)⟩
theorem lw_p12 : lw_okq (⟨"VolumeSets$Reading", "repairsOfIt", "()I"⟩, 8) := ⟨⟨by decide +kernel, by decide +kernel⟩, List.mem_of_getElem? (i := 159) (by decide +kernel), List.mem_of_getElem? (i := 554) (by decide +kernel), List.mem_of_getElem? (i := 555) (by decide +kernel)⟩
theorem lw_p13 : lw_okq (⟨"VolumeSets$Equations", "scale", "(II)V"⟩, 4) := ⟨⟨by decide +kernel, by decide +kernel⟩, List.mem_of_getElem? (i := 167) (by decide +kernel), List.mem_of_getElem? (i := 583) (by decide +kernel), List.mem_of_getElem? (i := 584) (by decide +kernel)⟩
theorem lw_p14 : lw_okq (⟨"VolumeSets$Equations", "addTo", "(III)V"⟩, 4) := ⟨⟨by decide +kernel, by decide +kernel⟩, List.mem_of_getElem? (i := 167) (by decide +kernel), List.mem_of_getElem? (i := 588) (by decide +kernel), List.mem_of_getElem? (i := 589) (by decide +kernel)⟩
theorem lw_p15 : lw_okq (⟨"VolumeSets$Reading", "takeUnknowns", "()V"⟩, 8) := ⟨⟨by decide +kernel, by decide +kernel⟩, List.mem_of_getElem? (i := 159) (by decide +kernel), List.mem_of_getElem? (i := 592) (by decide +kernel), List.mem_of_getElem? (i := 593) (by decide +kernel)⟩
def lw_privs_1 : List (MethodName × Nat) := [(⟨"VolumeSets$Tape", "add", "(I)V"⟩, 2), (⟨"VolumeSets$Stream", "add", "(I)V"⟩, 4), (⟨"VolumeSets$Rules", "changeSize", "(I)I"⟩, 3), (⟨"VolumeSets$Rules", "changeRepairs", "(I)I"⟩, 3), (⟨"VolumeSets$Rules", "changeSet", "(I)I"⟩, 3), (⟨"VolumeSets$Stream", "startIn", "(II)I"⟩, 4), (⟨"VolumeSets$Volume", "putSum", "(II)V"⟩, 2), (⟨"VolumeSets$Volume", "sumAt", "(I)I"⟩, 2), (⟨"VolumeSets$Reading", "begin", "(LVolumeSets$Volume;)V"⟩, 8), (⟨"VolumeSets$Reading", "take", "(LVolumeSets$Volume;I)V"⟩, 8), (⟨"VolumeSets$Reading", "setPlace", "(II)V"⟩, 8), (⟨"VolumeSets$Reading", "makeAgain", "(LVolumeSets$Slots;)V"⟩, 8), (⟨"VolumeSets$Reading", "repairsOfIt", "()I"⟩, 8), (⟨"VolumeSets$Equations", "scale", "(II)V"⟩, 4), (⟨"VolumeSets$Equations", "addTo", "(III)V"⟩, 4), (⟨"VolumeSets$Reading", "takeUnknowns", "()V"⟩, 8)]
theorem lw_r1 : ∀ q ∈ lw_privs_1, lw_okq q := List.forall_mem_cons.mpr ⟨lw_p0, List.forall_mem_cons.mpr ⟨lw_p1, List.forall_mem_cons.mpr ⟨lw_p2, List.forall_mem_cons.mpr ⟨lw_p3, List.forall_mem_cons.mpr ⟨lw_p4, List.forall_mem_cons.mpr ⟨lw_p5, List.forall_mem_cons.mpr ⟨lw_p6, List.forall_mem_cons.mpr ⟨lw_p7, List.forall_mem_cons.mpr ⟨lw_p8, List.forall_mem_cons.mpr ⟨lw_p9, List.forall_mem_cons.mpr ⟨lw_p10, List.forall_mem_cons.mpr ⟨lw_p11, List.forall_mem_cons.mpr ⟨lw_p12, List.forall_mem_cons.mpr ⟨lw_p13, List.forall_mem_cons.mpr ⟨lw_p14, List.forall_mem_cons.mpr ⟨lw_p15, fun _ h => absurd h List.not_mem_nil⟩⟩⟩⟩⟩⟩⟩⟩⟩⟩⟩⟩⟩⟩⟩⟩
theorem lw_p16 : lw_okq (⟨"VolumeSets$Pieces", "startBehind", "(I)I"⟩, 5) := ⟨⟨by decide +kernel, by decide +kernel⟩, List.mem_of_getElem? (i := 48) (by decide +kernel), List.mem_of_getElem? (i := 621) (by decide +kernel), List.mem_of_getElem? (i := 622) (by decide +kernel)⟩
theorem lw_p17 : lw_okq (⟨"VolumeSetsModel", "pieces", "()I"⟩, 29) := ⟨⟨by decide +kernel, by decide +kernel⟩, List.mem_of_getElem? (i := 675) (by decide +kernel), List.mem_of_getElem? (i := 803) (by decide +kernel), List.mem_of_getElem? (i := 804) (by decide +kernel)⟩
theorem lw_p18 : lw_okq (⟨"VolumeSetsModel", "length", "()I"⟩, 29) := ⟨⟨by decide +kernel, by decide +kernel⟩, List.mem_of_getElem? (i := 675) (by decide +kernel), List.mem_of_getElem? (i := 807) (by decide +kernel), List.mem_of_getElem? (i := 808) (by decide +kernel)⟩
theorem lw_p19 : lw_okq (⟨"VolumeSetsModel", "piece", "()I"⟩, 29) := ⟨⟨by decide +kernel, by decide +kernel⟩, List.mem_of_getElem? (i := 675) (by decide +kernel), List.mem_of_getElem? (i := 811) (by decide +kernel), List.mem_of_getElem? (i := 812) (by decide +kernel)⟩
theorem lw_p20 : lw_okq (⟨"VolumeSetsModel", "make", "(I)V"⟩, 29) := ⟨⟨by decide +kernel, by decide +kernel⟩, List.mem_of_getElem? (i := 675) (by decide +kernel), List.mem_of_getElem? (i := 820) (by decide +kernel), List.mem_of_getElem? (i := 821) (by decide +kernel)⟩
theorem lw_p21 : lw_okq (⟨"VolumeSetsModel", "ofVolume", "(II)I"⟩, 29) := ⟨⟨by decide +kernel, by decide +kernel⟩, List.mem_of_getElem? (i := 675) (by decide +kernel), List.mem_of_getElem? (i := 824) (by decide +kernel), List.mem_of_getElem? (i := 825) (by decide +kernel)⟩
theorem lw_p22 : lw_okq (⟨"VolumeSetsModel", "ofPiece", "(II)I"⟩, 29) := ⟨⟨by decide +kernel, by decide +kernel⟩, List.mem_of_getElem? (i := 675) (by decide +kernel), List.mem_of_getElem? (i := 828) (by decide +kernel), List.mem_of_getElem? (i := 829) (by decide +kernel)⟩
theorem lw_p23 : lw_okq (⟨"VolumeSetsModel", "isThere", "()Z"⟩, 29) := ⟨⟨by decide +kernel, by decide +kernel⟩, List.mem_of_getElem? (i := 675) (by decide +kernel), List.mem_of_getElem? (i := 842) (by decide +kernel), List.mem_of_getElem? (i := 843) (by decide +kernel)⟩
theorem lw_p24 : lw_okq (⟨"VolumeSetsModel", "emptySlots", "()I"⟩, 29) := ⟨⟨by decide +kernel, by decide +kernel⟩, List.mem_of_getElem? (i := 675) (by decide +kernel), List.mem_of_getElem? (i := 846) (by decide +kernel), List.mem_of_getElem? (i := 847) (by decide +kernel)⟩
theorem lw_p25 : lw_okq (⟨"VolumeSetsModel", "lay", "(I)V"⟩, 29) := ⟨⟨by decide +kernel, by decide +kernel⟩, List.mem_of_getElem? (i := 675) (by decide +kernel), List.mem_of_getElem? (i := 850) (by decide +kernel), List.mem_of_getElem? (i := 851) (by decide +kernel)⟩
theorem lw_p26 : lw_okq (⟨"VolumeSetsModel", "noSlot", "(I)Z"⟩, 29) := ⟨⟨by decide +kernel, by decide +kernel⟩, List.mem_of_getElem? (i := 675) (by decide +kernel), List.mem_of_getElem? (i := 858) (by decide +kernel), List.mem_of_getElem? (i := 859) (by decide +kernel)⟩
theorem lw_p27 : lw_okq (⟨"VolumeSetsModel", "state", "(I)I"⟩, 29) := ⟨⟨by decide +kernel, by decide +kernel⟩, List.mem_of_getElem? (i := 675) (by decide +kernel), List.mem_of_getElem? (i := 878) (by decide +kernel), List.mem_of_getElem? (i := 879) (by decide +kernel)⟩
theorem lw_p28 : lw_okq (⟨"VolumeSetsModel", "two", "(I)I"⟩, 29) := ⟨⟨by decide +kernel, by decide +kernel⟩, List.mem_of_getElem? (i := 675) (by decide +kernel), List.mem_of_getElem? (i := 882) (by decide +kernel), List.mem_of_getElem? (i := 883) (by decide +kernel)⟩
theorem lw_p29 : lw_okq (⟨"VolumeSetsModel", "makeAgain", "()V"⟩, 29) := ⟨⟨by decide +kernel, by decide +kernel⟩, List.mem_of_getElem? (i := 675) (by decide +kernel), List.mem_of_getElem? (i := 890) (by decide +kernel), List.mem_of_getElem? (i := 891) (by decide +kernel)⟩
theorem lw_p30 : lw_okq (⟨"VolumeSetsModel", "solve", "(II)V"⟩, 29) := ⟨⟨by decide +kernel, by decide +kernel⟩, List.mem_of_getElem? (i := 675) (by decide +kernel), List.mem_of_getElem? (i := 894) (by decide +kernel), List.mem_of_getElem? (i := 895) (by decide +kernel)⟩
theorem lw_p31 : lw_okq (⟨"VolumeSetsModel", "known", "(II)I"⟩, 29) := ⟨⟨by decide +kernel, by decide +kernel⟩, List.mem_of_getElem? (i := 675) (by decide +kernel), List.mem_of_getElem? (i := 898) (by decide +kernel), List.mem_of_getElem? (i := 899) (by decide +kernel)⟩
def lw_privs_2 : List (MethodName × Nat) := [(⟨"VolumeSets$Pieces", "startBehind", "(I)I"⟩, 5), (⟨"VolumeSetsModel", "pieces", "()I"⟩, 29), (⟨"VolumeSetsModel", "length", "()I"⟩, 29), (⟨"VolumeSetsModel", "piece", "()I"⟩, 29), (⟨"VolumeSetsModel", "make", "(I)V"⟩, 29), (⟨"VolumeSetsModel", "ofVolume", "(II)I"⟩, 29), (⟨"VolumeSetsModel", "ofPiece", "(II)I"⟩, 29), (⟨"VolumeSetsModel", "isThere", "()Z"⟩, 29), (⟨"VolumeSetsModel", "emptySlots", "()I"⟩, 29), (⟨"VolumeSetsModel", "lay", "(I)V"⟩, 29), (⟨"VolumeSetsModel", "noSlot", "(I)Z"⟩, 29), (⟨"VolumeSetsModel", "state", "(I)I"⟩, 29), (⟨"VolumeSetsModel", "two", "(I)I"⟩, 29), (⟨"VolumeSetsModel", "makeAgain", "()V"⟩, 29), (⟨"VolumeSetsModel", "solve", "(II)V"⟩, 29), (⟨"VolumeSetsModel", "known", "(II)I"⟩, 29)]
theorem lw_r2 : ∀ q ∈ lw_privs_2, lw_okq q := List.forall_mem_cons.mpr ⟨lw_p16, List.forall_mem_cons.mpr ⟨lw_p17, List.forall_mem_cons.mpr ⟨lw_p18, List.forall_mem_cons.mpr ⟨lw_p19, List.forall_mem_cons.mpr ⟨lw_p20, List.forall_mem_cons.mpr ⟨lw_p21, List.forall_mem_cons.mpr ⟨lw_p22, List.forall_mem_cons.mpr ⟨lw_p23, List.forall_mem_cons.mpr ⟨lw_p24, List.forall_mem_cons.mpr ⟨lw_p25, List.forall_mem_cons.mpr ⟨lw_p26, List.forall_mem_cons.mpr ⟨lw_p27, List.forall_mem_cons.mpr ⟨lw_p28, List.forall_mem_cons.mpr ⟨lw_p29, List.forall_mem_cons.mpr ⟨lw_p30, List.forall_mem_cons.mpr ⟨lw_p31, fun _ h => absurd h List.not_mem_nil⟩⟩⟩⟩⟩⟩⟩⟩⟩⟩⟩⟩⟩⟩⟩⟩
theorem lw_p32 : lw_okq (⟨"VolumeSetsModel", "open", "()V"⟩, 29) := ⟨⟨by decide +kernel, by decide +kernel⟩, List.mem_of_getElem? (i := 675) (by decide +kernel), List.mem_of_getElem? (i := 905) (by decide +kernel), List.mem_of_getElem? (i := 906) (by decide +kernel)⟩
theorem lw_p33 : lw_okq (⟨"VolumeSetsModel", "isKnown", "(I)Z"⟩, 29) := ⟨⟨by decide +kernel, by decide +kernel⟩, List.mem_of_getElem? (i := 675) (by decide +kernel), List.mem_of_getElem? (i := 909) (by decide +kernel), List.mem_of_getElem? (i := 910) (by decide +kernel)⟩
theorem lw_p34 : lw_okq (⟨"VolumeSetsModel", "isWhole", "(II)Z"⟩, 29) := ⟨⟨by decide +kernel, by decide +kernel⟩, List.mem_of_getElem? (i := 675) (by decide +kernel), List.mem_of_getElem? (i := 913) (by decide +kernel), List.mem_of_getElem? (i := 914) (by decide +kernel)⟩
def lw_privs_3 : List (MethodName × Nat) := [(⟨"VolumeSetsModel", "open", "()V"⟩, 29), (⟨"VolumeSetsModel", "isKnown", "(I)Z"⟩, 29), (⟨"VolumeSetsModel", "isWhole", "(II)Z"⟩, 29)]
theorem lw_r3 : ∀ q ∈ lw_privs_3, lw_okq q := List.forall_mem_cons.mpr ⟨lw_p32, List.forall_mem_cons.mpr ⟨lw_p33, List.forall_mem_cons.mpr ⟨lw_p34, fun _ h => absurd h List.not_mem_nil⟩⟩⟩
def lw_privs : List (MethodName × Nat) := lw_privs_1 ++ (lw_privs_2 ++ (lw_privs_3))
def lw_tbl : List Cond := k2_sels lw_privs ++ tables_1
theorem lw_privs_ok : ∀ q ∈ lw_privs, lw_okq q := by
  show ∀ q ∈ lw_privs_1 ++ (lw_privs_2 ++ (lw_privs_3)), lw_okq q
  exact List.forall_mem_append.mpr ⟨lw_r1, List.forall_mem_append.mpr ⟨lw_r2, lw_r3⟩⟩
end
section
/-! MINE: a small world. Cells at small numbers (0: the script; 1 and on: those that are made, in the order of their making), read and written by plain functions; the machine's own world is its picture. -/
abbrev mn_C : Type := (Nat × vp_A) ⊕ (Nat × List Value)
abbrev mn_H : Type := Nat × (Nat → mn_C)
/-- launch; numbers and slots of the classes; classes of the arrays; the script's cell; the last cell ahead of ours; the script's length; its ints -/
abbrev mn_En : Type := Launch × va_G × (Nat → ClassId) × Nat × Nat × Nat × (Nat → Int32)
/-- a method: its name, its bytes, its locals, its answer -/
abbrev mn_M : Type := MethodName × ByteArray × Nat × Option FieldType
abbrev mn_Z (E : mn_En) : Nat := E.2.2.2.2.1
abbrev mn_F (E : mn_En) : Nat → Prop := fun q => mn_Z E < q
def mn_ad (E : mn_En) (k : Nat) : Nat := if k = 0 then E.2.2.2.1 else mn_Z E + k
def mn_v (E : mn_En) (v : Value) : Value := match v with
  | .ref k => .ref (mn_ad E k)
  | w => w
def mn_A (E : mn_En) (x : vp_A) : vp_A := (x.1, match x.2 with
  | .inr (.inr (.inr (.inr f))) => .inr (.inr (.inr (.inr (fun i => (f i).map (mn_ad E)))))
  | y => y)
def mn_E (E : mn_En) (c : mn_C) : va_E := match c with
  | .inl q => .inl (E.2.2.1 q.1, mn_A E q.2)
  | .inr q => .inr (q.1, q.2.map (mn_v E))
def mn_ws (E : mn_En) (g : mn_H) : va_W := (List.range (g.1 - 1)).map (fun k => (mn_Z E + (k + 1), mn_E E (g.2 (k + 1))))
def mn_at (g : mn_H) (a : Nat) (c : mn_C) : Prop := 0 < a ∧ a < g.1 ∧ g.2 a = c
def mn_set (g : mn_H) (a : Nat) (c : mn_C) : mn_H := (g.1, fun q => if q = a then c else g.2 q)
def mn_push (g : mn_H) (c : mn_C) : mn_H := (g.1 + 1, fun q => if q = g.1 then c else g.2 q)
theorem mn_at.same {g : mn_H} {a : Nat} {c c' : mn_C} (h : mn_at g a c) : mn_at (mn_set g a c') a c' := ⟨h.1, h.2.1, if_pos rfl⟩
theorem mn_at.off {g : mn_H} {a b : Nat} {c c' : mn_C} (h : mn_at g b c) (hne : b ≠ a) : mn_at (mn_set g a c') b c := ⟨h.1, h.2.1, by show (if b = a then c' else g.2 b) = c; rw [if_neg hne]; exact h.2.2⟩
theorem mn_at.ne {g : mn_H} {a b : Nat} {c c' : mn_C} (h : mn_at g a c) (h' : mn_at g b c') (hc : c ≠ c') : a ≠ b := fun e => hc (by rw [← h.2.2, ← h'.2.2, e])
theorem mn_at.push {g : mn_H} {a : Nat} {c c' : mn_C} (h : mn_at g a c) : mn_at (mn_push g c') a c := ⟨h.1, Nat.lt_succ_of_lt h.2.1, by show (if a = g.1 then c' else g.2 a) = c; rw [if_neg (Nat.ne_of_lt h.2.1)]; exact h.2.2⟩
theorem mn_at_new {g : mn_H} {c : mn_C} (h : 0 < g.1) : mn_at (mn_push g c) g.1 c := ⟨h, Nat.lt_succ_self _, if_pos rfl⟩
theorem mn_at.inj {g : mn_H} {a : Nat} {c c' : mn_C} (h : mn_at g a c) (h' : mn_at g a c') : c = c' := h.2.2.symm.trans h'.2.2
theorem mn_set_set {g : mn_H} {a : Nat} {c c' : mn_C} : mn_set (mn_set g a c) a c' = mn_set g a c' := by
  unfold mn_set
  refine Prod.ext rfl ?_
  funext q
  by_cases h : q = a
  · simp [h]
  · simp [h]
theorem mn_set_id {g : mn_H} {a : Nat} {c : mn_C} (h : mn_at g a c) : mn_set g a c = g := by
  unfold mn_set
  refine Prod.ext rfl ?_
  funext q
  by_cases hq : q = a
  · subst hq; simp [h.2.2]
  · simp [hq]
theorem mn_set_comm {g : mn_H} {a b : Nat} {c c' : mn_C} (h : a ≠ b) : mn_set (mn_set g a c) b c' = mn_set (mn_set g b c') a c := by
  unfold mn_set
  refine Prod.ext rfl ?_
  funext q
  by_cases h1 : q = b
  · subst h1; simp [Ne.symm h]
  · by_cases h2 : q = a
    · subst h2; simp [h]
    · simp [h1, h2]
theorem mn_ad_pos {E : mn_En} {a : Nat} (h : 0 < a) : mn_ad E a = mn_Z E + a := by unfold mn_ad; rw [if_neg (by omega)]
theorem mn_ws_len {E : mn_En} {g : mn_H} : (mn_ws E g).length = g.1 - 1 := by simp [mn_ws]
theorem mn_ws_i {E : mn_En} {g : mn_H} {k : Nat} (h : k + 1 < g.1) : (mn_ws E g)[k]? = some (mn_Z E + (k + 1), mn_E E (g.2 (k + 1))) := by
  unfold mn_ws
  rw [List.getElem?_map, List.getElem?_range (by omega)]
  rfl
theorem mn_ws_n {E : mn_En} {g : mn_H} {k : Nat} (h : ¬ k + 1 < g.1) : (mn_ws E g)[k]? = none := by
  rw [List.getElem?_eq_none_iff, mn_ws_len]; omega
theorem mn_ws_get {E : mn_En} {g : mn_H} {a : Nat} {c : mn_C} (h : mn_at g a c) : (mn_ws E g)[a - 1]? = some (mn_ad E a, mn_E E c) := by
  obtain ⟨h0, h1, h2⟩ := h
  have e : a - 1 + 1 = a := by omega
  rw [mn_ws_i (by omega), e, h2, mn_ad_pos h0]
theorem mn_ws_inv {E : mn_En} {g : mn_H} {k : Nat} {q : Nat × va_E} (h : (mn_ws E g)[k]? = some q) : k + 1 < g.1 ∧ q = (mn_Z E + (k + 1), mn_E E (g.2 (k + 1))) := by
  by_cases hk : k + 1 < g.1
  · rw [mn_ws_i hk] at h
    exact ⟨hk, (Option.some.inj h).symm⟩
  · rw [mn_ws_n hk] at h
    cases h
theorem mn_ws_set {E : mn_En} {g : mn_H} {a : Nat} {c0 c : mn_C} (h : mn_at g a c0) : (mn_ws E g).set (a - 1) (mn_ad E a, mn_E E c) = mn_ws E (mn_set g a c) := by
  obtain ⟨h0, h1, -⟩ := h
  apply List.ext_getElem?
  intro i
  rw [List.getElem?_set]
  by_cases hi : i + 1 < g.1
  · by_cases ha : a - 1 = i
    · have e : i + 1 = a := by omega
      rw [if_pos ha, if_pos (by rw [mn_ws_len]; omega), mn_ws_i (g := mn_set g a c) hi, e, mn_ad_pos h0]
      show _ = some (mn_Z E + a, mn_E E (if a = a then c else g.2 a))
      rw [if_pos rfl]
    · rw [if_neg ha, mn_ws_i hi, mn_ws_i (g := mn_set g a c) hi]
      show _ = some (mn_Z E + (i + 1), mn_E E (if i + 1 = a then c else g.2 (i + 1)))
      rw [if_neg (by omega)]
  · rw [mn_ws_n (g := mn_set g a c) hi, if_neg (by omega), mn_ws_n hi]
theorem mn_ws_push {E : mn_En} {g : mn_H} {c : mn_C} (h : 0 < g.1) : mn_ws E (mn_push g c) = mn_ws E g ++ [(mn_Z E + g.1, mn_E E c)] := by
  apply List.ext_getElem?
  intro i
  by_cases hi : i + 1 < g.1
  · rw [List.getElem?_append_left (by rw [mn_ws_len]; omega), mn_ws_i hi, mn_ws_i (g := mn_push g c) (Nat.lt_succ_of_lt hi)]
    show some (_, mn_E E (if i + 1 = g.1 then c else g.2 (i + 1))) = _
    rw [if_neg (by omega)]
  · rw [List.getElem?_append_right (by rw [mn_ws_len]; omega), mn_ws_len]
    by_cases he : i + 1 = g.1
    · rw [mn_ws_i (g := mn_push g c) (by show i + 1 < g.1 + 1; omega), show i - (g.1 - 1) = 0 by omega]
      show some (mn_Z E + (i + 1), mn_E E (if i + 1 = g.1 then c else g.2 (i + 1))) = _
      rw [if_pos he, he]
      rfl
    · rw [mn_ws_n (g := mn_push g c) (by show ¬ i + 1 < g.1 + 1; omega), List.getElem?_eq_none (by simp; omega)]
theorem mn_ws_D {E : mn_En} {g : mn_H} : va_D (mn_F E) (mn_ws E g) := by
  refine ⟨fun i j p q hi hj hpq => ?_, fun k q hk => ?_⟩
  · have e1 := (mn_ws_inv hi).2
    have e2 := (mn_ws_inv hj).2
    rw [e1, e2] at hpq
    simp only at hpq
    omega
  · rw [(mn_ws_inv hk).2]
    show mn_Z E < mn_Z E + (k + 1)
    omega
end
section
/-! names: classes, fields, methods (by names.py) -/
def T_Eq : u_T := fun k => match k with
  | 0 => ("VolumeSets$Equations", "rows", "[[I", true)
  | 1 => ("VolumeSets$Equations", "numbers", "[I", true)
  | 2 => ("VolumeSets$Equations", "unknowns", "I", false)
  | _ => ("VolumeSets$Equations", "given", "I", false)
def ty_Eq : Nat → FieldType := fun k => match k with
  | 0 => .array (.array .int)
  | 1 => .array .int
  | 2 => .int
  | _ => .int
def T_Op : u_T := fun k => match k with
  | 0 => ("VolumeSets$Opening", "places", "[I", true)
  | 1 => ("VolumeSets$Opening", "lengths", "[I", true)
  | 2 => ("VolumeSets$Opening", "whole", "[I", true)
  | _ => ("VolumeSets$Opening", "told", "I", false)
def ty_Op : Nat → FieldType := fun k => match k with
  | 0 => .array .int
  | 1 => .array .int
  | 2 => .array .int
  | _ => .int
def T_Pc : u_T := fun k => match k with
  | 0 => ("VolumeSets$Pieces", "bytes", "[I", true)
  | 1 => ("VolumeSets$Pieces", "lengths", "[I", true)
  | 2 => ("VolumeSets$Pieces", "starts", "[I", true)
  | 3 => ("VolumeSets$Pieces", "many", "I", false)
  | _ => ("VolumeSets$Pieces", "width", "I", false)
def ty_Pc : Nat → FieldType := fun k => match k with
  | 0 => .array .int
  | 1 => .array .int
  | 2 => .array .int
  | 3 => .int
  | _ => .int
def T_Rd : u_T := fun k => match k with
  | 0 => ("VolumeSets$Reading", "pieces", "LVolumeSets$Pieces;", true)
  | 1 => ("VolumeSets$Reading", "places", "[I", true)
  | 2 => ("VolumeSets$Reading", "equations", "LVolumeSets$Equations;", true)
  | 3 => ("VolumeSets$Reading", "done", "Z", false)
  | 4 => ("VolumeSets$Reading", "size", "I", false)
  | 5 => ("VolumeSets$Reading", "repairs", "I", false)
  | 6 => ("VolumeSets$Reading", "present", "I", false)
  | _ => ("VolumeSets$Reading", "madeAgain", "I", false)
def ty_Rd : Nat → FieldType := fun k => match k with
  | 0 => .object "VolumeSets$Pieces"
  | 1 => .array .int
  | 2 => .object "VolumeSets$Equations"
  | 3 => .boolean
  | 4 => .int
  | 5 => .int
  | 6 => .int
  | _ => .int
def T_Ru : u_T := fun k => match k with
  | 0 => ("VolumeSets$Rules", "size", "I", false)
  | 1 => ("VolumeSets$Rules", "repairs", "I", false)
  | _ => ("VolumeSets$Rules", "set", "I", false)
def ty_Ru : Nat → FieldType := fun k => match k with
  | 0 => .int
  | 1 => .int
  | _ => .int
def T_Sl : u_T := fun k => match k with
  | _ => ("VolumeSets$Slots", "volumes", "[LVolumeSets$Volume;", true)
def ty_Sl : Nat → FieldType := fun k => match k with
  | _ => .array (.object "VolumeSets$Volume")
def T_St : u_T := fun k => match k with
  | 0 => ("VolumeSets$Stream", "pieces", "LVolumeSets$Pieces;", true)
  | 1 => ("VolumeSets$Stream", "beginnings", "[I", true)
  | 2 => ("VolumeSets$Stream", "entries", "I", false)
  | _ => ("VolumeSets$Stream", "length", "I", false)
def ty_St : Nat → FieldType := fun k => match k with
  | 0 => .object "VolumeSets$Pieces"
  | 1 => .array .int
  | 2 => .int
  | _ => .int
def T_Ta : u_T := fun k => match k with
  | 0 => ("VolumeSets$Tape", "bytes", "[I", true)
  | _ => ("VolumeSets$Tape", "length", "I", false)
def ty_Ta : Nat → FieldType := fun k => match k with
  | 0 => .array .int
  | _ => .int
def T_Vo : u_T := fun k => match k with
  | 0 => ("VolumeSets$Volume", "bytes", "[I", true)
  | _ => ("VolumeSets$Volume", "size", "I", false)
def ty_Vo : Nat → FieldType := fun k => match k with
  | 0 => .array .int
  | _ => .int
def T_Wr : u_T := fun k => match k with
  | _ => ("VolumeSets$Writer", "volume", "LVolumeSets$Volume;", true)
def ty_Wr : Nat → FieldType := fun k => match k with
  | _ => .object "VolumeSets$Volume"
def T_VS : u_T := fun k => match k with
  | 0 => ("VolumeSets", "tape", "LVolumeSets$Tape;", true)
  | 1 => ("VolumeSets", "stream", "LVolumeSets$Stream;", true)
  | 2 => ("VolumeSets", "rules", "LVolumeSets$Rules;", true)
  | 3 => ("VolumeSets", "writer", "LVolumeSets$Writer;", true)
  | 4 => ("VolumeSets", "slots", "LVolumeSets$Slots;", true)
  | 5 => ("VolumeSets", "reading", "LVolumeSets$Reading;", true)
  | _ => ("VolumeSets", "opening", "LVolumeSets$Opening;", true)
def ty_VS : Nat → FieldType := fun k => match k with
  | 0 => .object "VolumeSets$Tape"
  | 1 => .object "VolumeSets$Stream"
  | 2 => .object "VolumeSets$Rules"
  | 3 => .object "VolumeSets$Writer"
  | 4 => .object "VolumeSets$Slots"
  | 5 => .object "VolumeSets$Reading"
  | _ => .object "VolumeSets$Opening"
def T_Mo : u_T := fun k => match k with
  | 0 => ("VolumeSetsModel", "thrown", "I", false)
  | 1 => ("VolumeSetsModel", "tape", "[I", true)
  | 2 => ("VolumeSetsModel", "taped", "I", false)
  | 3 => ("VolumeSetsModel", "stream", "[I", true)
  | 4 => ("VolumeSetsModel", "begins", "[I", true)
  | 5 => ("VolumeSetsModel", "entries", "I", false)
  | 6 => ("VolumeSetsModel", "size", "I", false)
  | 7 => ("VolumeSetsModel", "repairs", "I", false)
  | 8 => ("VolumeSetsModel", "set", "I", false)
  | 9 => ("VolumeSetsModel", "slot", "[I", true)
  | 10 => ("VolumeSetsModel", "slotSize", "[I", true)
  | 11 => ("VolumeSetsModel", "volume", "[I", true)
  | 12 => ("VolumeSetsModel", "isRead", "Z", false)
  | 13 => ("VolumeSetsModel", "m", "I", false)
  | 14 => ("VolumeSetsModel", "\x72", "I", false)
  | 15 => ("VolumeSetsModel", "wide", "I", false)
  | 16 => ("VolumeSetsModel", "again", "I", false)
  | 17 => ("VolumeSetsModel", "place", "[I", true)
  | 18 => ("VolumeSetsModel", "lengths", "[I", true)
  | 19 => ("VolumeSetsModel", "starts", "[I", true)
  | 20 => ("VolumeSetsModel", "got", "[I", true)
  | 21 => ("VolumeSetsModel", "told", "I", false)
  | 22 => ("VolumeSetsModel", "openedMany", "I", false)
  | 23 => ("VolumeSetsModel", "tellAt", "[I", true)
  | 24 => ("VolumeSetsModel", "tellLength", "[I", true)
  | 25 => ("VolumeSetsModel", "tellOpen", "[I", true)
  | 26 => ("VolumeSetsModel", "lacks", "[I", true)
  | 27 => ("VolumeSetsModel", "by", "[I", true)
  | _ => ("VolumeSetsModel", "grid", "[I", true)
def ty_Mo : Nat → FieldType := fun k => match k with
  | 0 => .int
  | 1 => .array .int
  | 2 => .int
  | 3 => .array .int
  | 4 => .array .int
  | 5 => .int
  | 6 => .int
  | 7 => .int
  | 8 => .int
  | 9 => .array .int
  | 10 => .array .int
  | 11 => .array .int
  | 12 => .boolean
  | 13 => .int
  | 14 => .int
  | 15 => .int
  | 16 => .int
  | 17 => .array .int
  | 18 => .array .int
  | 19 => .array .int
  | 20 => .array .int
  | 21 => .int
  | 22 => .int
  | 23 => .array .int
  | 24 => .array .int
  | 25 => .array .int
  | 26 => .array .int
  | 27 => .array .int
  | _ => .array .int
abbrev vwCl : List vw_C := [("VolumeSets$Equations", T_Eq, 4), ("VolumeSets$Opening", T_Op, 4), ("VolumeSets$Pieces", T_Pc, 5), ("VolumeSets$Reading", T_Rd, 8), ("VolumeSets$Rules", T_Ru, 3), ("VolumeSets$Slots", T_Sl, 1), ("VolumeSets$Stream", T_St, 4), ("VolumeSets$Tape", T_Ta, 2), ("VolumeSets$Volume", T_Vo, 2), ("VolumeSets$Writer", T_Wr, 1), ("VolumeSets", T_VS, 7), ("VolumeSetsModel", T_Mo, 29)]
def mn_T : List FieldType := [.int, .object "VolumeSets$Volume", .array .int]
abbrev kVS_init : ByteArray := prog_1_method_1_code
def yVS_init : MethodName := ⟨"VolumeSets", "<init>", "()V"⟩
abbrev MVS_init : mn_M := (yVS_init, kVS_init, 1, none)
abbrev kTa_init : ByteArray := prog_10_method_1_code
def yTa_init : MethodName := ⟨"VolumeSets$Tape", "<init>", "()V"⟩
abbrev MTa_init : mn_M := (yTa_init, kTa_init, 1, none)
abbrev kSt_init : ByteArray := prog_9_method_1_code
def ySt_init : MethodName := ⟨"VolumeSets$Stream", "<init>", "()V"⟩
abbrev MSt_init : mn_M := (ySt_init, kSt_init, 1, none)
abbrev kPc_init : ByteArray := prog_5_method_1_code
def yPc_init : MethodName := ⟨"VolumeSets$Pieces", "<init>", "(I)V"⟩
abbrev MPc_init : mn_M := (yPc_init, kPc_init, 2, none)
abbrev kRu_init : ByteArray := prog_7_method_1_code
def yRu_init : MethodName := ⟨"VolumeSets$Rules", "<init>", "()V"⟩
abbrev MRu_init : mn_M := (yRu_init, kRu_init, 1, none)
abbrev kWr_init : ByteArray := prog_12_method_1_code
def yWr_init : MethodName := ⟨"VolumeSets$Writer", "<init>", "()V"⟩
abbrev MWr_init : mn_M := (yWr_init, kWr_init, 1, none)
abbrev kVo_init : ByteArray := prog_11_method_1_code
def yVo_init : MethodName := ⟨"VolumeSets$Volume", "<init>", "()V"⟩
abbrev MVo_init : mn_M := (yVo_init, kVo_init, 1, none)
abbrev kSl_init : ByteArray := prog_8_method_1_code
def ySl_init : MethodName := ⟨"VolumeSets$Slots", "<init>", "()V"⟩
abbrev MSl_init : mn_M := (ySl_init, kSl_init, 2, none)
abbrev kRd_init : ByteArray := prog_6_method_1_code
def yRd_init : MethodName := ⟨"VolumeSets$Reading", "<init>", "()V"⟩
abbrev MRd_init : mn_M := (yRd_init, kRd_init, 1, none)
abbrev kEq_init : ByteArray := prog_3_method_1_code
def yEq_init : MethodName := ⟨"VolumeSets$Equations", "<init>", "()V"⟩
abbrev MEq_init : mn_M := (yEq_init, kEq_init, 1, none)
abbrev kOp_init : ByteArray := prog_4_method_1_code
def yOp_init : MethodName := ⟨"VolumeSets$Opening", "<init>", "()V"⟩
abbrev MOp_init : mn_M := (yOp_init, kOp_init, 1, none)
abbrev kVS_feed : ByteArray := prog_1_method_2_code
def yVS_feed : MethodName := ⟨"VolumeSets", "feed", "(IIIII)I"⟩
abbrev MVS_feed : mn_M := (yVS_feed, kVS_feed, 6, (some .int))
abbrev kTa_addNumber : ByteArray := prog_10_method_2_code
def yTa_addNumber : MethodName := ⟨"VolumeSets$Tape", "addNumber", "(I)V"⟩
abbrev MTa_addNumber : mn_M := (yTa_addNumber, kTa_addNumber, 3, none)
abbrev kTa_add : ByteArray := prog_10_method_3_code
def yTa_add : MethodName := ⟨"VolumeSets$Tape", "add", "(I)V"⟩
abbrev MTa_add : mn_M := (yTa_add, kTa_add, 2, none)
abbrev kVS_end : ByteArray := prog_1_method_3_code
def yVS_end : MethodName := ⟨"VolumeSets", "end", "(I)I"⟩
abbrev MVS_end : mn_M := (yVS_end, kVS_end, 2, (some .int))
abbrev kVS_entry : ByteArray := prog_1_method_4_code
def yVS_entry : MethodName := ⟨"VolumeSets", "entry", "()I"⟩
abbrev MVS_entry : mn_M := (yVS_entry, kVS_entry, 1, (some .int))
abbrev kSt_append : ByteArray := prog_9_method_2_code
def ySt_append : MethodName := ⟨"VolumeSets$Stream", "append", "(LVolumeSets$Tape;)V"⟩
abbrev MSt_append : mn_M := (ySt_append, kSt_append, 4, none)
abbrev kTa_sum : ByteArray := prog_10_method_5_code
def yTa_sum : MethodName := ⟨"VolumeSets$Tape", "sum", "()I"⟩
abbrev MTa_sum : mn_M := (yTa_sum, kTa_sum, 1, (some .int))
abbrev kBy_sum : ByteArray := prog_2_method_2_code
def yBy_sum : MethodName := ⟨"VolumeSets$Bytes", "sum", "([III)I"⟩
abbrev MBy_sum : mn_M := (yBy_sum, kBy_sum, 5, (some .int))
abbrev kSt_add : ByteArray := prog_9_method_3_code
def ySt_add : MethodName := ⟨"VolumeSets$Stream", "add", "(I)V"⟩
abbrev MSt_add : mn_M := (ySt_add, kSt_add, 2, none)
abbrev kPc_put : ByteArray := prog_5_method_5_code
def yPc_put : MethodName := ⟨"VolumeSets$Pieces", "put", "(II)V"⟩
abbrev MPc_put : mn_M := (yPc_put, kPc_put, 3, none)
abbrev kTa_byteAt : ByteArray := prog_10_method_4_code
def yTa_byteAt : MethodName := ⟨"VolumeSets$Tape", "byteAt", "(I)I"⟩
abbrev MTa_byteAt : mn_M := (yTa_byteAt, kTa_byteAt, 2, (some .int))
abbrev kVS_clear : ByteArray := prog_1_method_5_code
def yVS_clear : MethodName := ⟨"VolumeSets", "clear", "()I"⟩
abbrev MVS_clear : mn_M := (yVS_clear, kVS_clear, 2, (some .int))
abbrev kSt_forgetAll : ByteArray := prog_9_method_4_code
def ySt_forgetAll : MethodName := ⟨"VolumeSets$Stream", "forgetAll", "()V"⟩
abbrev MSt_forgetAll : mn_M := (ySt_forgetAll, kSt_forgetAll, 1, none)
abbrev kPc_blank : ByteArray := prog_5_method_2_code
def yPc_blank : MethodName := ⟨"VolumeSets$Pieces", "blank", "()V"⟩
abbrev MPc_blank : mn_M := (yPc_blank, kPc_blank, 1, none)
abbrev kAr_fill : ByteArray := prog_17_method_103_code
def yAr_fill : MethodName := ⟨"java/util/Arrays", "fill", "([II)V"⟩
abbrev MAr_fill : mn_M := (yAr_fill, kAr_fill, 4, none)
abbrev kVS_rule : ByteArray := prog_1_method_6_code
def yVS_rule : MethodName := ⟨"VolumeSets", "rule", "(II)I"⟩
abbrev MVS_rule : mn_M := (yVS_rule, kVS_rule, 3, (some .int))
abbrev kRu_change : ByteArray := prog_7_method_3_code
def yRu_change : MethodName := ⟨"VolumeSets$Rules", "change", "(II)I"⟩
abbrev MRu_change : mn_M := (yRu_change, kRu_change, 3, (some .int))
abbrev kRu_changeSize : ByteArray := prog_7_method_4_code
def yRu_changeSize : MethodName := ⟨"VolumeSets$Rules", "changeSize", "(I)I"⟩
abbrev MRu_changeSize : mn_M := (yRu_changeSize, kRu_changeSize, 3, (some .int))
abbrev kRu_changeRepairs : ByteArray := prog_7_method_5_code
def yRu_changeRepairs : MethodName := ⟨"VolumeSets$Rules", "changeRepairs", "(I)I"⟩
abbrev MRu_changeRepairs : mn_M := (yRu_changeRepairs, kRu_changeRepairs, 3, (some .int))
abbrev kRu_changeSet : ByteArray := prog_7_method_6_code
def yRu_changeSet : MethodName := ⟨"VolumeSets$Rules", "changeSet", "(I)I"⟩
abbrev MRu_changeSet : mn_M := (yRu_changeSet, kRu_changeSet, 3, (some .int))
abbrev kVS_volumes : ByteArray := prog_1_method_7_code
def yVS_volumes : MethodName := ⟨"VolumeSets", "volumes", "()I"⟩
abbrev MVS_volumes : mn_M := (yVS_volumes, kVS_volumes, 2, (some .int))
abbrev kRu_width : ByteArray := prog_7_method_2_code
def yRu_width : MethodName := ⟨"VolumeSets$Rules", "width", "()I"⟩
abbrev MRu_width : mn_M := (yRu_width, kRu_width, 1, (some .int))
abbrev kSt_pieceCount : ByteArray := prog_9_method_5_code
def ySt_pieceCount : MethodName := ⟨"VolumeSets$Stream", "pieceCount", "(I)I"⟩
abbrev MSt_pieceCount : mn_M := (ySt_pieceCount, kSt_pieceCount, 2, (some .int))
abbrev kBy_quotient : ByteArray := prog_2_method_7_code
def yBy_quotient : MethodName := ⟨"VolumeSets$Bytes", "quotient", "(II)I"⟩
abbrev MBy_quotient : mn_M := (yBy_quotient, kBy_quotient, 2, (some .int))
abbrev kVS_byteOf : ByteArray := prog_1_method_8_code
def yVS_byteOf : MethodName := ⟨"VolumeSets", "byteOf", "(II)I"⟩
abbrev MVS_byteOf : mn_M := (yVS_byteOf, kVS_byteOf, 4, (some .int))
abbrev kSt_divide : ByteArray := prog_9_method_6_code
def ySt_divide : MethodName := ⟨"VolumeSets$Stream", "divide", "(I)V"⟩
abbrev MSt_divide : mn_M := (ySt_divide, kSt_divide, 3, none)
abbrev kPc_putPart : ByteArray := prog_5_method_8_code
def yPc_putPart : MethodName := ⟨"VolumeSets$Pieces", "putPart", "(III)V"⟩
abbrev MPc_putPart : mn_M := (yPc_putPart, kPc_putPart, 4, none)
abbrev kSt_startIn : ByteArray := prog_9_method_7_code
def ySt_startIn : MethodName := ⟨"VolumeSets$Stream", "startIn", "(II)I"⟩
abbrev MSt_startIn : mn_M := (ySt_startIn, kSt_startIn, 5, (some .int))
abbrev kWr_make : ByteArray := prog_12_method_2_code
def yWr_make : MethodName := ⟨"VolumeSets$Writer", "make", "(ILVolumeSets$Pieces;LVolumeSets$Rules;)V"⟩
abbrev MWr_make : mn_M := (yWr_make, kWr_make, 5, none)
abbrev kVo_put : ByteArray := prog_11_method_3_code
def yVo_put : MethodName := ⟨"VolumeSets$Volume", "put", "(II)V"⟩
abbrev MVo_put : mn_M := (yVo_put, kVo_put, 3, none)
abbrev kPc_part : ByteArray := prog_5_method_7_code
def yPc_part : MethodName := ⟨"VolumeSets$Pieces", "part", "(II)I"⟩
abbrev MPc_part : mn_M := (yPc_part, kPc_part, 3, (some .int))
abbrev kPc_byteAt : ByteArray := prog_5_method_4_code
def yPc_byteAt : MethodName := ⟨"VolumeSets$Pieces", "byteAt", "(I)I"⟩
abbrev MPc_byteAt : mn_M := (yPc_byteAt, kPc_byteAt, 2, (some .int))
abbrev kPc_mixed : ByteArray := prog_5_method_9_code
def yPc_mixed : MethodName := ⟨"VolumeSets$Pieces", "mixed", "(II)I"⟩
abbrev MPc_mixed : mn_M := (yPc_mixed, kPc_mixed, 5, (some .int))
abbrev kBy_raised : ByteArray := prog_2_method_5_code
def yBy_raised : MethodName := ⟨"VolumeSets$Bytes", "raised", "(II)I"⟩
abbrev MBy_raised : mn_M := (yBy_raised, kBy_raised, 4, (some .int))
abbrev kBy_twice : ByteArray := prog_2_method_3_code
def yBy_twice : MethodName := ⟨"VolumeSets$Bytes", "twice", "(I)I"⟩
abbrev MBy_twice : mn_M := (yBy_twice, kBy_twice, 2, (some .int))
abbrev kVo_seal : ByteArray := prog_11_method_6_code
def yVo_seal : MethodName := ⟨"VolumeSets$Volume", "seal", "()V"⟩
abbrev MVo_seal : mn_M := (yVo_seal, kVo_seal, 1, none)
abbrev kVo_putSum : ByteArray := prog_11_method_4_code
def yVo_putSum : MethodName := ⟨"VolumeSets$Volume", "putSum", "(II)V"⟩
abbrev MVo_putSum : mn_M := (yVo_putSum, kVo_putSum, 3, none)
abbrev kVo_byteAt : ByteArray := prog_11_method_2_code
def yVo_byteAt : MethodName := ⟨"VolumeSets$Volume", "byteAt", "(I)I"⟩
abbrev MVo_byteAt : mn_M := (yVo_byteAt, kVo_byteAt, 2, (some .int))
abbrev kVS_write : ByteArray := prog_1_method_9_code
def yVS_write : MethodName := ⟨"VolumeSets", "write", "(I)I"⟩
abbrev MVS_write : mn_M := (yVS_write, kVS_write, 4, (some .int))
abbrev kWr_missingIn : ByteArray := prog_12_method_3_code
def yWr_missingIn : MethodName := ⟨"VolumeSets$Writer", "missingIn", "(LVolumeSets$Slots;LVolumeSets$Pieces;LVolumeSets$Rules;)I"⟩
abbrev MWr_missingIn : mn_M := (yWr_missingIn, kWr_missingIn, 6, (some .int))
abbrev kSl_hold : ByteArray := prog_8_method_7_code
def ySl_hold : MethodName := ⟨"VolumeSets$Slots", "hold", "(LVolumeSets$Volume;)Z"⟩
abbrev MSl_hold : mn_M := (ySl_hold, kSl_hold, 3, (some .boolean))
abbrev kVo_hasJustTheBytesOf : ByteArray := prog_11_method_9_code
def yVo_hasJustTheBytesOf : MethodName := ⟨"VolumeSets$Volume", "hasJustTheBytesOf", "(LVolumeSets$Volume;)Z"⟩
abbrev MVo_hasJustTheBytesOf : mn_M := (yVo_hasJustTheBytesOf, kVo_hasJustTheBytesOf, 3, (some .boolean))
abbrev kSl_filled : ByteArray := prog_8_method_4_code
def ySl_filled : MethodName := ⟨"VolumeSets$Slots", "filled", "()I"⟩
abbrev MSl_filled : mn_M := (ySl_filled, kSl_filled, 3, (some .int))
abbrev kWr_fill : ByteArray := prog_12_method_4_code
def yWr_fill : MethodName := ⟨"VolumeSets$Writer", "fill", "(LVolumeSets$Slots;LVolumeSets$Pieces;LVolumeSets$Rules;I)I"⟩
abbrev MWr_fill : mn_M := (yWr_fill, kWr_fill, 7, (some .int))
abbrev kVo_cutOff : ByteArray := prog_11_method_7_code
def yVo_cutOff : MethodName := ⟨"VolumeSets$Volume", "cutOff", "()V"⟩
abbrev MVo_cutOff : mn_M := (yVo_cutOff, kVo_cutOff, 2, none)
abbrev kSl_putIntoLeastEmpty : ByteArray := prog_8_method_8_code
def ySl_putIntoLeastEmpty : MethodName := ⟨"VolumeSets$Slots", "putIntoLeastEmpty", "(LVolumeSets$Volume;)V"⟩
abbrev MSl_putIntoLeastEmpty : mn_M := (ySl_putIntoLeastEmpty, kSl_putIntoLeastEmpty, 3, none)
abbrev kVo_become : ByteArray := prog_11_method_8_code
def yVo_become : MethodName := ⟨"VolumeSets$Volume", "become", "(LVolumeSets$Volume;)V"⟩
abbrev MVo_become : mn_M := (yVo_become, kVo_become, 2, none)
abbrev kVS_lose : ByteArray := prog_1_method_10_code
def yVS_lose : MethodName := ⟨"VolumeSets", "lose", "(I)I"⟩
abbrev MVS_lose : mn_M := (yVS_lose, kVS_lose, 4, (some .int))
abbrev kSl_at : ByteArray := prog_8_method_2_code
def ySl_at : MethodName := ⟨"VolumeSets$Slots", "at", "(I)LVolumeSets$Volume;"⟩
abbrev MSl_at : mn_M := (ySl_at, kSl_at, 2, (some (.object "VolumeSets$Volume")))
abbrev kVS_poke : ByteArray := prog_1_method_11_code
def yVS_poke : MethodName := ⟨"VolumeSets", "poke", "(III)I"⟩
abbrev MVS_poke : mn_M := (yVS_poke, kVS_poke, 5, (some .int))
abbrev kVS_swap : ByteArray := prog_1_method_12_code
def yVS_swap : MethodName := ⟨"VolumeSets", "swap", "(II)I"⟩
abbrev MVS_swap : mn_M := (yVS_swap, kVS_swap, 3, (some .int))
abbrev kSl_exchange : ByteArray := prog_8_method_3_code
def ySl_exchange : MethodName := ⟨"VolumeSets$Slots", "exchange", "(II)V"⟩
abbrev MSl_exchange : mn_M := (ySl_exchange, kSl_exchange, 5, none)
abbrev kVS_copy : ByteArray := prog_1_method_13_code
def yVS_copy : MethodName := ⟨"VolumeSets", "copy", "(II)I"⟩
abbrev MVS_copy : mn_M := (yVS_copy, kVS_copy, 5, (some .int))
abbrev kVS_slot : ByteArray := prog_1_method_14_code
def yVS_slot : MethodName := ⟨"VolumeSets", "slot", "(II)I"⟩
abbrev MVS_slot : mn_M := (yVS_slot, kVS_slot, 4, (some .int))
abbrev kVo_state : ByteArray := prog_11_method_11_code
def yVo_state : MethodName := ⟨"VolumeSets$Volume", "state", "()I"⟩
abbrev MVo_state : mn_M := (yVo_state, kVo_state, 1, (some .int))
abbrev kVo_hasHead : ByteArray := prog_11_method_10_code
def yVo_hasHead : MethodName := ⟨"VolumeSets$Volume", "hasHead", "()Z"⟩
abbrev MVo_hasHead : mn_M := (yVo_hasHead, kVo_hasHead, 3, (some .boolean))
abbrev kVo_sumAt : ByteArray := prog_11_method_5_code
def yVo_sumAt : MethodName := ⟨"VolumeSets$Volume", "sumAt", "(I)I"⟩
abbrev MVo_sumAt : mn_M := (yVo_sumAt, kVo_sumAt, 2, (some .int))
abbrev kVS_read : ByteArray := prog_1_method_15_code
def yVS_read : MethodName := ⟨"VolumeSets", "read", "(I)I"⟩
abbrev MVS_read : mn_M := (yVS_read, kVS_read, 3, (some .int))
abbrev kRd_gather : ByteArray := prog_6_method_2_code
def yRd_gather : MethodName := ⟨"VolumeSets$Reading", "gather", "(LVolumeSets$Slots;I)I"⟩
abbrev MRd_gather : mn_M := (yRd_gather, kRd_gather, 6, (some .int))
abbrev kSl_firstGood : ByteArray := prog_8_method_6_code
def ySl_firstGood : MethodName := ⟨"VolumeSets$Slots", "firstGood", "(I)LVolumeSets$Volume;"⟩
abbrev MSl_firstGood : mn_M := (ySl_firstGood, kSl_firstGood, 3, (some (.object "VolumeSets$Volume")))
abbrev kVo_isGoodOf : ByteArray := prog_11_method_12_code
def yVo_isGoodOf : MethodName := ⟨"VolumeSets$Volume", "isGoodOf", "(I)Z"⟩
abbrev MVo_isGoodOf : mn_M := (yVo_isGoodOf, kVo_isGoodOf, 2, (some .boolean))
abbrev kRd_begin : ByteArray := prog_6_method_3_code
def yRd_begin : MethodName := ⟨"VolumeSets$Reading", "begin", "(LVolumeSets$Volume;)V"⟩
abbrev MRd_begin : mn_M := (yRd_begin, kRd_begin, 2, none)
abbrev kVo_isAsWideAndManyAs : ByteArray := prog_11_method_13_code
def yVo_isAsWideAndManyAs : MethodName := ⟨"VolumeSets$Volume", "isAsWideAndManyAs", "(LVolumeSets$Volume;)Z"⟩
abbrev MVo_isAsWideAndManyAs : mn_M := (yVo_isAsWideAndManyAs, kVo_isAsWideAndManyAs, 2, (some .boolean))
abbrev kRd_take : ByteArray := prog_6_method_4_code
def yRd_take : MethodName := ⟨"VolumeSets$Reading", "take", "(LVolumeSets$Volume;I)V"⟩
abbrev MRd_take : mn_M := (yRd_take, kRd_take, 5, none)
abbrev kRd_placeOf : ByteArray := prog_6_method_5_code
def yRd_placeOf : MethodName := ⟨"VolumeSets$Reading", "placeOf", "(I)I"⟩
abbrev MRd_placeOf : mn_M := (yRd_placeOf, kRd_placeOf, 2, (some .int))
abbrev kRd_setPlace : ByteArray := prog_6_method_6_code
def yRd_setPlace : MethodName := ⟨"VolumeSets$Reading", "setPlace", "(II)V"⟩
abbrev MRd_setPlace : mn_M := (yRd_setPlace, kRd_setPlace, 3, none)
abbrev kRd_makeAgain : ByteArray := prog_6_method_7_code
def yRd_makeAgain : MethodName := ⟨"VolumeSets$Reading", "makeAgain", "(LVolumeSets$Slots;)V"⟩
abbrev MRd_makeAgain : mn_M := (yRd_makeAgain, kRd_makeAgain, 5, none)
abbrev kRd_repairsOfIt : ByteArray := prog_6_method_8_code
def yRd_repairsOfIt : MethodName := ⟨"VolumeSets$Reading", "repairsOfIt", "()I"⟩
abbrev MRd_repairsOfIt : mn_M := (yRd_repairsOfIt, kRd_repairsOfIt, 3, (some .int))
abbrev kEq_forgetAll : ByteArray := prog_3_method_2_code
def yEq_forgetAll : MethodName := ⟨"VolumeSets$Equations", "forgetAll", "()V"⟩
abbrev MEq_forgetAll : mn_M := (yEq_forgetAll, kEq_forgetAll, 1, none)
abbrev kEq_addUnknown : ByteArray := prog_3_method_3_code
def yEq_addUnknown : MethodName := ⟨"VolumeSets$Equations", "addUnknown", "(I)V"⟩
abbrev MEq_addUnknown : mn_M := (yEq_addUnknown, kEq_addUnknown, 2, none)
abbrev kEq_addRepair : ByteArray := prog_3_method_4_code
def yEq_addRepair : MethodName := ⟨"VolumeSets$Equations", "addRepair", "(ILVolumeSets$Volume;LVolumeSets$Pieces;)V"⟩
abbrev MEq_addRepair : mn_M := (yEq_addRepair, kEq_addRepair, 6, none)
abbrev kEq_solve : ByteArray := prog_3_method_5_code
def yEq_solve : MethodName := ⟨"VolumeSets$Equations", "solve", "()V"⟩
abbrev MEq_solve : mn_M := (yEq_solve, kEq_solve, 3, none)
abbrev kBy_inverse : ByteArray := prog_2_method_6_code
def yBy_inverse : MethodName := ⟨"VolumeSets$Bytes", "inverse", "(I)I"⟩
abbrev MBy_inverse : mn_M := (yBy_inverse, kBy_inverse, 2, (some .int))
abbrev kBy_product : ByteArray := prog_2_method_4_code
def yBy_product : MethodName := ⟨"VolumeSets$Bytes", "product", "(II)I"⟩
abbrev MBy_product : mn_M := (yBy_product, kBy_product, 5, (some .int))
abbrev kEq_scale : ByteArray := prog_3_method_6_code
def yEq_scale : MethodName := ⟨"VolumeSets$Equations", "scale", "(II)V"⟩
abbrev MEq_scale : mn_M := (yEq_scale, kEq_scale, 5, none)
abbrev kEq_addTo : ByteArray := prog_3_method_7_code
def yEq_addTo : MethodName := ⟨"VolumeSets$Equations", "addTo", "(III)V"⟩
abbrev MEq_addTo : mn_M := (yEq_addTo, kEq_addTo, 6, none)
abbrev kRd_takeUnknowns : ByteArray := prog_6_method_9_code
def yRd_takeUnknowns : MethodName := ⟨"VolumeSets$Reading", "takeUnknowns", "()V"⟩
abbrev MRd_takeUnknowns : mn_M := (yRd_takeUnknowns, kRd_takeUnknowns, 4, none)
abbrev kEq_numberOf : ByteArray := prog_3_method_8_code
def yEq_numberOf : MethodName := ⟨"VolumeSets$Equations", "numberOf", "(I)I"⟩
abbrev MEq_numberOf : mn_M := (yEq_numberOf, kEq_numberOf, 2, (some .int))
abbrev kEq_byteOfUnknown : ByteArray := prog_3_method_9_code
def yEq_byteOfUnknown : MethodName := ⟨"VolumeSets$Equations", "byteOfUnknown", "(II)I"⟩
abbrev MEq_byteOfUnknown : mn_M := (yEq_byteOfUnknown, kEq_byteOfUnknown, 3, (some .int))
abbrev kOp_open : ByteArray := prog_4_method_2_code
def yOp_open : MethodName := ⟨"VolumeSets$Opening", "open", "(LVolumeSets$Pieces;)V"⟩
abbrev MOp_open : mn_M := (yOp_open, kOp_open, 5, none)
abbrev kPc_nextKnown : ByteArray := prog_5_method_12_code
def yPc_nextKnown : MethodName := ⟨"VolumeSets$Pieces", "nextKnown", "(I)I"⟩
abbrev MPc_nextKnown : mn_M := (yPc_nextKnown, kPc_nextKnown, 4, (some .int))
abbrev kPc_isKnown : ByteArray := prog_5_method_10_code
def yPc_isKnown : MethodName := ⟨"VolumeSets$Pieces", "isKnown", "(I)Z"⟩
abbrev MPc_isKnown : mn_M := (yPc_isKnown, kPc_isKnown, 3, (some .boolean))
abbrev kPc_room : ByteArray := prog_5_method_3_code
def yPc_room : MethodName := ⟨"VolumeSets$Pieces", "room", "()I"⟩
abbrev MPc_room : mn_M := (yPc_room, kPc_room, 1, (some .int))
abbrev kPc_startBehind : ByteArray := prog_5_method_13_code
def yPc_startBehind : MethodName := ⟨"VolumeSets$Pieces", "startBehind", "(I)I"⟩
abbrev MPc_startBehind : mn_M := (yPc_startBehind, kPc_startBehind, 4, (some .int))
abbrev kOp_isWhole : ByteArray := prog_4_method_3_code
def yOp_isWhole : MethodName := ⟨"VolumeSets$Opening", "isWhole", "(LVolumeSets$Pieces;II)Z"⟩
abbrev MOp_isWhole : mn_M := (yOp_isWhole, kOp_isWhole, 6, (some .boolean))
abbrev kPc_areKnown : ByteArray := prog_5_method_11_code
def yPc_areKnown : MethodName := ⟨"VolumeSets$Pieces", "areKnown", "(II)Z"⟩
abbrev MPc_areKnown : mn_M := (yPc_areKnown, kPc_areKnown, 4, (some .boolean))
abbrev kPc_sum : ByteArray := prog_5_method_6_code
def yPc_sum : MethodName := ⟨"VolumeSets$Pieces", "sum", "(II)I"⟩
abbrev MPc_sum : mn_M := (yPc_sum, kPc_sum, 3, (some .int))
abbrev kVS_found : ByteArray := prog_1_method_16_code
def yVS_found : MethodName := ⟨"VolumeSets", "found", "(I)I"⟩
abbrev MVS_found : mn_M := (yVS_found, kVS_found, 2, (some .int))
abbrev kOp_openedOnes : ByteArray := prog_4_method_4_code
def yOp_openedOnes : MethodName := ⟨"VolumeSets$Opening", "openedOnes", "()I"⟩
abbrev MOp_openedOnes : mn_M := (yOp_openedOnes, kOp_openedOnes, 3, (some .int))
abbrev kVS_where : ByteArray := prog_1_method_17_code
def yVS_where : MethodName := ⟨"VolumeSets", "where", "(I)I"⟩
abbrev MVS_where : mn_M := (yVS_where, kVS_where, 2, (some .int))
abbrev kVS_got : ByteArray := prog_1_method_18_code
def yVS_got : MethodName := ⟨"VolumeSets", "got", "(I)I"⟩
abbrev MVS_got : mn_M := (yVS_got, kVS_got, 2, (some .int))
abbrev kVS_opened : ByteArray := prog_1_method_19_code
def yVS_opened : MethodName := ⟨"VolumeSets", "opened", "(II)I"⟩
abbrev MVS_opened : mn_M := (yVS_opened, kVS_opened, 3, (some .int))
abbrev kOp_tellOf : ByteArray := prog_4_method_5_code
def yOp_tellOf : MethodName := ⟨"VolumeSets$Opening", "tellOf", "(II)I"⟩
abbrev MOp_tellOf : mn_M := (yOp_tellOf, kOp_tellOf, 3, (some .int))
abbrev kVS_count : ByteArray := prog_1_method_20_code
def yVS_count : MethodName := ⟨"VolumeSets", "count", "(I)I"⟩
abbrev MVS_count : mn_M := (yVS_count, kVS_count, 2, (some .int))
abbrev kSl_inState : ByteArray := prog_8_method_5_code
def ySl_inState : MethodName := ⟨"VolumeSets$Slots", "inState", "(I)I"⟩
abbrev MSl_inState : mn_M := (ySl_inState, kSl_inState, 4, (some .int))
abbrev kMo_init : ByteArray := prog_14_method_3_code
def yMo_init : MethodName := ⟨"VolumeSetsModel", "<init>", "()V"⟩
abbrev MMo_init : mn_M := (yMo_init, kMo_init, 1, none)
abbrev kMo_feed : ByteArray := prog_14_method_4_code
def yMo_feed : MethodName := ⟨"VolumeSetsModel", "feed", "(IIIII)I"⟩
abbrev MMo_feed : mn_M := (yMo_feed, kMo_feed, 8, (some .int))
abbrev kMo_end : ByteArray := prog_14_method_5_code
def yMo_end : MethodName := ⟨"VolumeSetsModel", "end", "(I)I"⟩
abbrev MMo_end : mn_M := (yMo_end, kMo_end, 2, (some .int))
abbrev kMo_in : ByteArray := prog_14_method_2_code
def yMo_in : MethodName := ⟨"VolumeSetsModel", "in", "(III)Z"⟩
abbrev MMo_in : mn_M := (yMo_in, kMo_in, 3, (some .boolean))
abbrev kMo_entry : ByteArray := prog_14_method_8_code
def yMo_entry : MethodName := ⟨"VolumeSetsModel", "entry", "()I"⟩
abbrev MMo_entry : mn_M := (yMo_entry, kMo_entry, 4, (some .int))
abbrev kMo_sum : ByteArray := prog_14_method_7_code
def yMo_sum : MethodName := ⟨"VolumeSetsModel", "sum", "([III)I"⟩
abbrev MMo_sum : mn_M := (yMo_sum, kMo_sum, 5, (some .int))
abbrev kMo_step : ByteArray := prog_14_method_6_code
def yMo_step : MethodName := ⟨"VolumeSetsModel", "step", "(II)I"⟩
abbrev MMo_step : mn_M := (yMo_step, kMo_step, 2, (some .int))
abbrev kMo_clear : ByteArray := prog_14_method_9_code
def yMo_clear : MethodName := ⟨"VolumeSetsModel", "clear", "()I"⟩
abbrev MMo_clear : mn_M := (yMo_clear, kMo_clear, 2, (some .int))
abbrev kMo_rule : ByteArray := prog_14_method_10_code
def yMo_rule : MethodName := ⟨"VolumeSetsModel", "rule", "(II)I"⟩
abbrev MMo_rule : mn_M := (yMo_rule, kMo_rule, 5, (some .int))
abbrev kMo_volumes : ByteArray := prog_14_method_14_code
def yMo_volumes : MethodName := ⟨"VolumeSetsModel", "volumes", "()I"⟩
abbrev MMo_volumes : mn_M := (yMo_volumes, kMo_volumes, 1, (some .int))
abbrev kMo_pieces : ByteArray := prog_14_method_13_code
def yMo_pieces : MethodName := ⟨"VolumeSetsModel", "pieces", "()I"⟩
abbrev MMo_pieces : mn_M := (yMo_pieces, kMo_pieces, 1, (some .int))
abbrev kMo_length : ByteArray := prog_14_method_11_code
def yMo_length : MethodName := ⟨"VolumeSetsModel", "length", "()I"⟩
abbrev MMo_length : mn_M := (yMo_length, kMo_length, 1, (some .int))
abbrev kMo_piece : ByteArray := prog_14_method_12_code
def yMo_piece : MethodName := ⟨"VolumeSetsModel", "piece", "()I"⟩
abbrev MMo_piece : mn_M := (yMo_piece, kMo_piece, 1, (some .int))
abbrev kMo_byteOf : ByteArray := prog_14_method_21_code
def yMo_byteOf : MethodName := ⟨"VolumeSetsModel", "byteOf", "(II)I"⟩
abbrev MMo_byteOf : mn_M := (yMo_byteOf, kMo_byteOf, 4, (some .int))
abbrev kMo_make : ByteArray := prog_14_method_20_code
def yMo_make : MethodName := ⟨"VolumeSetsModel", "make", "(I)V"⟩
abbrev MMo_make : mn_M := (yMo_make, kMo_make, 4, none)
abbrev kMo_ofVolume : ByteArray := prog_14_method_19_code
def yMo_ofVolume : MethodName := ⟨"VolumeSetsModel", "ofVolume", "(II)I"⟩
abbrev MMo_ofVolume : mn_M := (yMo_ofVolume, kMo_ofVolume, 8, (some .int))
abbrev kMo_ofPiece : ByteArray := prog_14_method_18_code
def yMo_ofPiece : MethodName := ⟨"VolumeSetsModel", "ofPiece", "(II)I"⟩
abbrev MMo_ofPiece : mn_M := (yMo_ofPiece, kMo_ofPiece, 7, (some .int))
abbrev kMo_power : ByteArray := prog_14_method_16_code
def yMo_power : MethodName := ⟨"VolumeSetsModel", "power", "(I)I"⟩
abbrev MMo_power : mn_M := (yMo_power, kMo_power, 3, (some .int))
abbrev kMo_times : ByteArray := prog_14_method_15_code
def yMo_times : MethodName := ⟨"VolumeSetsModel", "times", "(II)I"⟩
abbrev MMo_times : mn_M := (yMo_times, kMo_times, 5, (some .int))
abbrev kMo_write : ByteArray := prog_14_method_25_code
def yMo_write : MethodName := ⟨"VolumeSetsModel", "write", "(I)I"⟩
abbrev MMo_write : mn_M := (yMo_write, kMo_write, 7, (some .int))
abbrev kMo_isThere : ByteArray := prog_14_method_22_code
def yMo_isThere : MethodName := ⟨"VolumeSetsModel", "isThere", "()Z"⟩
abbrev MMo_isThere : mn_M := (yMo_isThere, kMo_isThere, 4, (some .boolean))
abbrev kMo_emptySlots : ByteArray := prog_14_method_23_code
def yMo_emptySlots : MethodName := ⟨"VolumeSetsModel", "emptySlots", "()I"⟩
abbrev MMo_emptySlots : mn_M := (yMo_emptySlots, kMo_emptySlots, 3, (some .int))
abbrev kMo_lay : ByteArray := prog_14_method_24_code
def yMo_lay : MethodName := ⟨"VolumeSetsModel", "lay", "(I)V"⟩
abbrev MMo_lay : mn_M := (yMo_lay, kMo_lay, 4, none)
abbrev kMo_lose : ByteArray := prog_14_method_27_code
def yMo_lose : MethodName := ⟨"VolumeSetsModel", "lose", "(I)I"⟩
abbrev MMo_lose : mn_M := (yMo_lose, kMo_lose, 3, (some .int))
abbrev kMo_noSlot : ByteArray := prog_14_method_26_code
def yMo_noSlot : MethodName := ⟨"VolumeSetsModel", "noSlot", "(I)Z"⟩
abbrev MMo_noSlot : mn_M := (yMo_noSlot, kMo_noSlot, 2, (some .boolean))
abbrev kMo_poke : ByteArray := prog_14_method_28_code
def yMo_poke : MethodName := ⟨"VolumeSetsModel", "poke", "(III)I"⟩
abbrev MMo_poke : mn_M := (yMo_poke, kMo_poke, 4, (some .int))
abbrev kMo_swap : ByteArray := prog_14_method_29_code
def yMo_swap : MethodName := ⟨"VolumeSetsModel", "swap", "(II)I"⟩
abbrev MMo_swap : mn_M := (yMo_swap, kMo_swap, 6, (some .int))
abbrev kMo_copy : ByteArray := prog_14_method_30_code
def yMo_copy : MethodName := ⟨"VolumeSetsModel", "copy", "(II)I"⟩
abbrev MMo_copy : mn_M := (yMo_copy, kMo_copy, 4, (some .int))
abbrev kMo_slot : ByteArray := prog_14_method_33_code
def yMo_slot : MethodName := ⟨"VolumeSetsModel", "slot", "(II)I"⟩
abbrev MMo_slot : mn_M := (yMo_slot, kMo_slot, 4, (some .int))
abbrev kMo_state : ByteArray := prog_14_method_32_code
def yMo_state : MethodName := ⟨"VolumeSetsModel", "state", "(I)I"⟩
abbrev MMo_state : mn_M := (yMo_state, kMo_state, 4, (some .int))
abbrev kMo_two : ByteArray := prog_14_method_31_code
def yMo_two : MethodName := ⟨"VolumeSetsModel", "two", "(I)I"⟩
abbrev MMo_two : mn_M := (yMo_two, kMo_two, 2, (some .int))
abbrev kMo_read : ByteArray := prog_14_method_34_code
def yMo_read : MethodName := ⟨"VolumeSetsModel", "read", "(I)I"⟩
abbrev MMo_read : mn_M := (yMo_read, kMo_read, 4, (some .int))
abbrev kMo_makeAgain : ByteArray := prog_14_method_35_code
def yMo_makeAgain : MethodName := ⟨"VolumeSetsModel", "makeAgain", "()V"⟩
abbrev MMo_makeAgain : mn_M := (yMo_makeAgain, kMo_makeAgain, 4, none)
abbrev kMo_solve : ByteArray := prog_14_method_37_code
def yMo_solve : MethodName := ⟨"VolumeSetsModel", "solve", "(II)V"⟩
abbrev MMo_solve : mn_M := (yMo_solve, kMo_solve, 9, none)
abbrev kMo_known : ByteArray := prog_14_method_36_code
def yMo_known : MethodName := ⟨"VolumeSetsModel", "known", "(II)I"⟩
abbrev MMo_known : mn_M := (yMo_known, kMo_known, 3, (some .int))
abbrev kMo_over : ByteArray := prog_14_method_17_code
def yMo_over : MethodName := ⟨"VolumeSetsModel", "over", "(I)I"⟩
abbrev MMo_over : mn_M := (yMo_over, kMo_over, 3, (some .int))
abbrev kMo_open : ByteArray := prog_14_method_40_code
def yMo_open : MethodName := ⟨"VolumeSetsModel", "open", "()V"⟩
abbrev MMo_open : mn_M := (yMo_open, kMo_open, 4, none)
abbrev kMo_isKnown : ByteArray := prog_14_method_38_code
def yMo_isKnown : MethodName := ⟨"VolumeSetsModel", "isKnown", "(I)Z"⟩
abbrev MMo_isKnown : mn_M := (yMo_isKnown, kMo_isKnown, 3, (some .boolean))
abbrev kMo_isWhole : ByteArray := prog_14_method_39_code
def yMo_isWhole : MethodName := ⟨"VolumeSetsModel", "isWhole", "(II)Z"⟩
abbrev MMo_isWhole : mn_M := (yMo_isWhole, kMo_isWhole, 5, (some .boolean))
abbrev kMo_found : ByteArray := prog_14_method_41_code
def yMo_found : MethodName := ⟨"VolumeSetsModel", "found", "(I)I"⟩
abbrev MMo_found : mn_M := (yMo_found, kMo_found, 2, (some .int))
abbrev kMo_where : ByteArray := prog_14_method_42_code
def yMo_where : MethodName := ⟨"VolumeSetsModel", "where", "(I)I"⟩
abbrev MMo_where : mn_M := (yMo_where, kMo_where, 2, (some .int))
abbrev kMo_got : ByteArray := prog_14_method_43_code
def yMo_got : MethodName := ⟨"VolumeSetsModel", "got", "(I)I"⟩
abbrev MMo_got : mn_M := (yMo_got, kMo_got, 2, (some .int))
abbrev kMo_opened : ByteArray := prog_14_method_44_code
def yMo_opened : MethodName := ⟨"VolumeSetsModel", "opened", "(II)I"⟩
abbrev MMo_opened : mn_M := (yMo_opened, kMo_opened, 3, (some .int))
abbrev kMo_count : ByteArray := prog_14_method_45_code
def yMo_count : MethodName := ⟨"VolumeSetsModel", "count", "(I)I"⟩
abbrev MMo_count : mn_M := (yMo_count, kMo_count, 4, (some .int))
abbrev kLa_law : ByteArray := code
def yLa_law : MethodName := ⟨"VolumeSetsLaw", "law", "([I)Z"⟩
abbrev MLa_law : mn_M := (yLa_law, kLa_law, 4, (some .boolean))
end
section
/-! the words that a call keeps; those of the nest and of arrays beside -/
def mn_keep (w : Cond) : Bool := (w.onTables && w.keeps) || (match w with | .arrayClass _ => true | _ => false)
def mn_W : List Cond := lw_tbl.filter mn_keep
theorem mn_good : ∀ w ∈ mn_W, (w.onTables && w.keeps) = true ∨ ∃ ty, w = .arrayClass ty := by
  intro w hw
  have h := (List.mem_filter.mp hw).2
  unfold mn_keep at h
  rw [Bool.or_eq_true] at h
  rcases h with h | h
  · exact Or.inl h
  · right
    cases w <;> first | exact ⟨_, rfl⟩ | cases h
def mn_kn (w : Cond) : Bool := match w with
  | .methodLinkNest .. => true
  | .arrayOver _ => true
  | _ => false
def mn_NW : List Cond := lw_tbl.filter mn_kn
theorem mn_over_moved {t : FieldType} {u U : State} (hvm : u.vm.Alike U.vm) (h : va_Nw (.arrayOver t) u) : va_Nw (.arrayOver t) U := by
  cases t with
  | object C => exact va_AO.moved hvm h
  | array ty =>
    unfold va_Nw Cond.before Cond.holds at h ⊢
    simp only [Cond.value] at h ⊢
    cases hc : u.vm.findClass (FieldType.array ty).toString with
    | none => rw [hc] at h; simp at h
    | some comp =>
      have hc' : U.vm.findClass (FieldType.array ty).toString = some comp := by rw [hvm.findClass]; exact hc
      rw [hc, Option.bind_some] at h
      rw [hc', Option.bind_some]
      have hi : (U.vm.classes.findIdx? fun (x : Class) => match x.kind with | .array component _ => component == comp | _ => false) = (u.vm.classes.findIdx? fun (x : Class) => match x.kind with | .array component _ => component == comp | _ => false) := by
        have h1 := va_idx_bare U.vm comp
        have h2 := va_idx_bare u.vm comp
        rw [hvm.bare_eq] at h1
        exact h1.symm.trans h2
      cases hx : (u.vm.classes.findIdx? fun (x : Class) => match x.kind with | .array component _ => component == comp | _ => false) with
      | none =>
        exfalso
        have h' := (congrArg (fun o : Option Nat => (o.bind (fun c => (u.vm.classes[c]?).map fun (k : Class) => match k.kind with | .array _ ty' => decide (ty' = FieldType.array ty) && decide (u.vm.findClass ("[" ++ (FieldType.array ty).toString) = some c) | _ => false) == some true)) hx).symm.trans h
        simp at h'
      | some c =>
        have h' := (congrArg (fun o : Option Nat => (o.bind (fun c => (u.vm.classes[c]?).map fun (k : Class) => match k.kind with | .array _ ty' => decide (ty' = FieldType.array ty) && decide (u.vm.findClass ("[" ++ (FieldType.array ty).toString) = some c) | _ => false) == some true)) hx).symm.trans h
        refine (congrArg (fun o : Option Nat => (o.bind (fun c => (U.vm.classes[c]?).map fun (k : Class) => match k.kind with | .array _ ty' => decide (ty' = FieldType.array ty) && decide (U.vm.findClass ("[" ++ (FieldType.array ty).toString) = some c) | _ => false) == some true)) (hi.trans hx)).trans ?_
        simp only [Option.bind_some] at h' ⊢
        cases hk : u.vm.classes[c]? with
        | none => rw [hk] at h'; simp at h'
        | some k =>
          obtain ⟨k', hk', he⟩ := hvm.2.2 _ _ hk
          have hkind : k'.kind = k.kind := by rw [he]
          rw [hk] at h'
          rw [hk']
          simp only [Option.map_some, hkind, hvm.findClass] at h' ⊢
          exact h'
  | _ =>
    unfold va_Nw Cond.before Cond.holds at h
    simp [Cond.value] at h
theorem mn_nw_warm (w : Cond) (hw : w ∈ mn_NW) {s U : State} (hW : s.WarmedH U.vm) (h : va_Nw w s) : va_Nw w U := by
  have h2 := (List.mem_filter.mp hw).2
  cases w <;> first | exact va_Nw.warmM hW h | exact mn_over_moved hW.alike h | cases h2
theorem mn_inW {w : Cond} (i : Nat) (h : lw_tbl[i]? = some w) (hk : mn_keep w = true) : w ∈ mn_W := List.mem_filter.mpr ⟨List.mem_of_getElem? h, hk⟩
theorem mn_inN {w : Cond} (i : Nat) (h : lw_tbl[i]? = some w) (hk : mn_kn w = true) : w ∈ mn_NW := List.mem_filter.mpr ⟨List.mem_of_getElem? h, hk⟩
theorem mn_uws (l : List Cond) (h : ∀ w ∈ l, w ∈ lw_tbl ∧ mn_keep w = true) : ∀ w ∈ l, w ∈ mn_W := fun w hw => List.mem_filter.mpr (h w hw)
end
section
/-! MINE: the judgement over the small world, and a row an instruction -/
def mn_ty (E : mn_En) : List (ClassId × FieldType) := (List.range mn_T.length).map (fun t => (E.2.2.1 t, mn_T.getD t .int))
theorem mn_ty_get {E : mn_En} {t : Nat} {ty : FieldType} (h : mn_T[t]? = some ty) : (mn_ty E)[t]? = some (E.2.2.1 t, ty) := by
  have hlt : t < mn_T.length := (List.getElem?_eq_some_iff.mp h).1
  unfold mn_ty
  rw [List.getElem?_map, List.getElem?_range hlt, Option.map_some, List.getD_eq_getElem?_getD, h]
  rfl
def mn_K (E : mn_En) (U : State) : Prop := va_K E.2.1 vwCl (mn_ty E) U ∧ ∀ w ∈ mn_NW, va_Nw w U
theorem mn_K.warm {E : mn_En} {s U : State} (hW : s.WarmedH U.vm) (h : mn_K E s) : mn_K E U := ⟨va_K.moved hW.alike h.1, fun w hw => mn_nw_warm w hw hW (h.2 w hw)⟩
/-- what stays while a method runs: the machine, the method, the tables, the script -/
def mn_X (E : mn_En) (M : mn_M) (p : Program) (s : State) (m : MethodId) (args : Array Value) (meth : Method) (c : Code) : Prop :=
  p.tables.exec = Jvm.exec ∧ c.code = M.2.1 ∧ c.maxLocals = M.2.2.1 ∧ meth.sig.returnType = M.2.2.2 ∧ meth.locks = false ∧ s.vm.findClass M.1.cls = some m.cls ∧ meth.name = M.1.name ∧ (∀ w ∈ mn_W, w.before args s = true) ∧ mn_K E s ∧ va_X E.2.2.2.1 E.2.2.2.2.2.1 E.2.2.2.2.2.2 s s.heap ∧ E.2.2.2.1 ≤ mn_Z E ∧ mn_Z E < s.heap.size
theorem mn_X.own {E : mn_En} {M : mn_M} {p : Program} {s : State} {m : MethodId} {args : Array Value} {meth : Method} {c : Code} (h : mn_X E M p s m args meth c) : s.vm.findClass M.1.cls = some m.cls := h.2.2.2.2.2.1
theorem mn_X.name {E : mn_En} {M : mn_M} {p : Program} {s : State} {m : MethodId} {args : Array Value} {meth : Method} {c : Code} (h : mn_X E M p s m args meth c) : meth.name = M.1.name := h.2.2.2.2.2.2.1
theorem mn_X.hts {E : mn_En} {M : mn_M} {p : Program} {s : State} {m : MethodId} {args : Array Value} {meth : Method} {c : Code} (h : mn_X E M p s m args meth c) : ∀ w ∈ mn_W, w.before args s = true := h.2.2.2.2.2.2.2.1
theorem mn_X.K {E : mn_En} {M : mn_M} {p : Program} {s : State} {m : MethodId} {args : Array Value} {meth : Method} {c : Code} (h : mn_X E M p s m args meth c) : mn_K E s := h.2.2.2.2.2.2.2.2.1
theorem mn_X.scr {E : mn_En} {M : mn_M} {p : Program} {s : State} {m : MethodId} {args : Array Value} {meth : Method} {c : Code} (h : mn_X E M p s m args meth c) : va_X E.2.2.2.1 E.2.2.2.2.2.1 E.2.2.2.2.2.2 s s.heap ∧ E.2.2.2.1 ≤ mn_Z E ∧ mn_Z E < s.heap.size := h.2.2.2.2.2.2.2.2.2
/-- the world -/
def mn_Y (E : mn_En) (g : mn_H) (s : State) (H : Heap) (locs : List Loc) : Prop := va_P E.2.1 vwCl (mn_ws E g) H ∧ H.size = mn_Z E + g.1 ∧ 0 < g.1 ∧ va_S (mn_F E) s.heap H locs
def mn_Rm (R : Room) (d w nc ns cells slots : Nat) : Prop := d ≤ R.frames ∧ w ≤ R.locals ∧ cells + nc ≤ R.cells ∧ slots + ns ≤ R.slots
/-- a method's end -/
def mn_Q (E : mn_En) (Q : Option Value → mn_H → Prop) : Array Value → State → Outcome → State → Prop := fun _ st oc t => ∃ (v : Option Value) (g : mn_H), Q v g ∧ oc = .returned (v.map (mn_v E)) ∧ va_P E.2.1 vwCl (mn_ws E g) t.heap ∧ t.heap.size = mn_Z E + g.1 ∧ 0 < g.1 ∧ va_F (mn_F E) st t
abbrev mn_m (E : mn_En) (ls : List (Nat × Value)) : List (Nat × Value) := ls.map (fun q => (q.1, mn_v E q.2))
/-- THE JUDGEMENT: method M, at pc, with locals ls, stack st, cells g, room for d frames of w words, nc new cells of ns slots: it ends with Q -/
def mn_R (E : mn_En) (M : mn_M) (d w nc ns pc : Nat) (ls : List (Nat × Value)) (st : List Value) (g : mn_H) (Q : Option Value → mn_H → Prop) : Prop :=
  ∀ (p : Program) (e : Env) (s : State) (m : MethodId) (args : Array Value) (below : List Frame) (meth : Method) (c : Code) (H : Heap) (locs : List Loc) (cells slots : Nat) (lsr : Array Slot) (R : Room),
    mn_X E M p s m args meth c → mn_Y E g s H locs → lv_has lsr M.2.2.1 (mn_m E ls) → mn_Rm R d w nc ns cells slots →
    W p E.1 e R s m args below meth c H locs cells slots (MQ below (mn_Q E Q) args s R.cells R.slots (mn_F E)) (F0 m pc lsr (st.map (mn_v E)))
theorem mn_cat (E : mn_En) (v : Value) : (mn_v E v).category = v.category := by cases v <;> rfl
theorem mn_cats (E : mn_En) (st : List Value) : ((st.map (mn_v E)).map fun v => v.category).sum = (st.map fun v => v.category).sum := by
  rw [List.map_map]
  congr 1
  apply List.map_congr_left
  intro v _
  exact mn_cat E v
theorem mn_lv {E : mn_En} {lsr : Array Slot} {nL j i : Nat} {ls : List (Nat × Value)} {v : Value} (hl : lv_has lsr nL (mn_m E ls)) (hj : ls[j]? = some (i, v)) : lsr[i]? = some (.val (mn_v E v)) :=
  lv_at hl j (by rw [List.getElem?_map, hj]; rfl)
def mn_ins (i : Nat) (v : Value) : List (Nat × Value) → List (Nat × Value)
  | [] => [(i, v)]
  | q :: t => if q.1 < i then q :: mn_ins i v t else (i, v) :: q :: t
def mn_put (ls : List (Nat × Value)) (i : Nat) (v : Value) : List (Nat × Value) := mn_ins i v (ls.filter (fun q => !(q.1 == i) && !(q.1 + 1 == i && q.2.category == 2)))
theorem mn_ins_mem {i : Nat} {v : Value} {q : Nat × Value} : ∀ {l : List (Nat × Value)}, q ∈ mn_ins i v l → q = (i, v) ∨ q ∈ l
  | [], h => Or.inl (List.mem_singleton.mp h)
  | x :: t, h => by
    unfold mn_ins at h
    split at h
    · rcases List.mem_cons.mp h with h | h
      · exact Or.inr (by rw [h]; exact List.mem_cons_self)
      · rcases mn_ins_mem h with h | h
        · exact Or.inl h
        · exact Or.inr (List.mem_cons_of_mem _ h)
    · rcases List.mem_cons.mp h with h | h
      · exact Or.inl h
      · exact Or.inr h
theorem mn_put_has {E : mn_En} {lsr : Array Slot} {nL i : Nat} {ls : List (Nat × Value)} {v : Value} (h : lv_has lsr nL ((i, mn_v E v) :: (mn_m E ls).filter (fun q => !(q.1 == i) && !(q.1 + 1 == i && q.2.category == 2)))) : lv_has lsr nL (mn_m E (mn_put ls i v)) := by
  refine ⟨h.1, h.2.1, fun q hq => h.2.2 q ?_⟩
  obtain ⟨x, hx, rfl⟩ := List.mem_map.mp hq
  rcases mn_ins_mem hx with rfl | hx
  · exact List.mem_cons_self
  · obtain ⟨h1, h2⟩ := List.mem_filter.mp hx
    refine List.mem_cons_of_mem _ (List.mem_filter.mpr ⟨List.mem_map.mpr ⟨x, h1, rfl⟩, ?_⟩)
    show (!(x.1 == i) && !(x.1 + 1 == i && (mn_v E x.2).category == 2)) = true
    rw [mn_cat]
    exact h2
section MNROWS
variable {E : mn_En} {M : mn_M} {d w nc ns pc : Nat} {ls ls' : List (Nat × Value)} {st : List Value} {g : mn_H} {Q : Option Value → mn_H → Prop}
theorem mn_R.post {Q' : Option Value → mn_H → Prop} (h : mn_R E M d w nc ns pc ls st g Q') (hq : ∀ v g', Q' v g' → Q v g') : mn_R E M d w nc ns pc ls st g Q := by
  intro p e s m args below meth c H locs cells slots lsr R X Y hl hr T hT XX
  obtain ⟨t, a, o, b1, b2, ⟨v, g', q1, q2⟩, b4⟩ := h p e s m args below meth c H locs cells slots lsr R X Y hl hr T hT XX
  exact ⟨t, a, o, b1, b2, ⟨v, g', hq v g' q1, q2⟩, b4⟩
/-- fewer locals, less room -/
theorem mn_R.less {d' w' nc' ns' : Nat} (h : mn_R E M d' w' nc' ns' pc ls' st g Q) (hs : ∀ q ∈ ls', q ∈ ls) (hd : d' ≤ d) (hw : w' ≤ w) (hc : nc' ≤ nc) (hn : ns' ≤ ns) : mn_R E M d w nc ns pc ls st g Q :=
  fun p e s m args below meth c H locs cells slots lsr R X Y hl hr => h p e s m args below meth c H locs cells slots lsr R X Y ⟨hl.1, hl.2.1, fun q hq => by
    obtain ⟨x, hx, rfl⟩ := List.mem_map.mp hq
    exact hl.2.2 _ (List.mem_map.mpr ⟨x, hs x hx, rfl⟩)⟩ ⟨Nat.le_trans hd hr.1, Nat.le_trans hw hr.2.1, Nat.le_trans (Nat.add_le_add_left hc _) hr.2.2.1, Nat.le_trans (Nat.add_le_add_left hn _) hr.2.2.2⟩

theorem mn_iconst {n : Int} {v : Int32} (hdg : decode M.2.1 pc = .ok (.iconst n, 1)) (hv : Int32.ofInt n = v) (k : mn_R E M d w nc ns (pc + 1) ls (.int v :: st) g Q) : mn_R E M d w nc ns pc ls (st) g Q :=
  fun p e s m args below meth c H locs cells slots lsr R X Y hl hr => lv_iconst X.1 X.2.1 hdg hv (k p e s m args below meth c H locs cells slots lsr R X Y hl hr)
theorem mn_bipush {n : Int} {v : Int32} (hdg : decode M.2.1 pc = .ok (.bipush n, 2)) (hv : (Int8.ofInt n).toInt32 = v) (k : mn_R E M d w nc ns (pc + 2) ls (.int v :: st) g Q) : mn_R E M d w nc ns pc ls (st) g Q :=
  fun p e s m args below meth c H locs cells slots lsr R X Y hl hr => lv_bipush X.1 X.2.1 hdg hv (k p e s m args below meth c H locs cells slots lsr R X Y hl hr)
theorem mn_sipush {n : Int} {v : Int32} (hdg : decode M.2.1 pc = .ok (.sipush n, 3)) (hv : (Int16.ofInt n).toInt32 = v) (k : mn_R E M d w nc ns (pc + 3) ls (.int v :: st) g Q) : mn_R E M d w nc ns pc ls (st) g Q :=
  fun p e s m args below meth c H locs cells slots lsr R X Y hl hr => lv_sipush X.1 X.2.1 hdg hv (k p e s m args below meth c H locs cells slots lsr R X Y hl hr)
theorem mn_null  (hdg : decode M.2.1 pc = .ok (.aconst_null, 1))  (k : mn_R E M d w nc ns (pc + 1) ls (.null :: st) g Q) : mn_R E M d w nc ns pc ls (st) g Q :=
  fun p e s m args below meth c H locs cells slots lsr R X Y hl hr => lv_null X.1 X.2.1 hdg  (k p e s m args below meth c H locs cells slots lsr R X Y hl hr)
theorem mn_iload_n {k0 : Fin 4} {i : Nat} {x : Int32} (j : Nat) (hdg : decode M.2.1 pc = .ok (.iload_n k0, 1)) (hi : (k0 : Nat) = i) (hj : ls[j]? = some (i, .int x)) (k : mn_R E M d w nc ns (pc + 1) ls (.int x :: st) g Q) : mn_R E M d w nc ns pc ls (st) g Q :=
  fun p e s m args below meth c H locs cells slots lsr R X Y hl hr => lv_iload_n X.1 X.2.1 hdg hi (mn_lv hl hj) (k p e s m args below meth c H locs cells slots lsr R X Y hl hr)
theorem mn_iload {i : Nat} {x : Int32} (j : Nat) (hdg : decode M.2.1 pc = .ok (.iload i, 2)) (hj : ls[j]? = some (i, .int x)) (k : mn_R E M d w nc ns (pc + 2) ls (.int x :: st) g Q) : mn_R E M d w nc ns pc ls (st) g Q :=
  fun p e s m args below meth c H locs cells slots lsr R X Y hl hr => lv_iload X.1 X.2.1 hdg (mn_lv hl hj) (k p e s m args below meth c H locs cells slots lsr R X Y hl hr)
theorem mn_aload_n {k0 : Fin 4} {i : Nat} {x : Nat} (j : Nat) (hdg : decode M.2.1 pc = .ok (.aload_n k0, 1)) (hi : (k0 : Nat) = i) (hj : ls[j]? = some (i, .ref x)) (k : mn_R E M d w nc ns (pc + 1) ls (.ref x :: st) g Q) : mn_R E M d w nc ns pc ls (st) g Q :=
  fun p e s m args below meth c H locs cells slots lsr R X Y hl hr => lv_aload_n X.1 X.2.1 hdg hi (mn_lv hl hj) (k p e s m args below meth c H locs cells slots lsr R X Y hl hr)
theorem mn_aload {i : Nat} {x : Nat} (j : Nat) (hdg : decode M.2.1 pc = .ok (.aload i, 2)) (hj : ls[j]? = some (i, .ref x)) (k : mn_R E M d w nc ns (pc + 2) ls (.ref x :: st) g Q) : mn_R E M d w nc ns pc ls (st) g Q :=
  fun p e s m args below meth c H locs cells slots lsr R X Y hl hr => lv_aload X.1 X.2.1 hdg (mn_lv hl hj) (k p e s m args below meth c H locs cells slots lsr R X Y hl hr)
theorem mn_iadd {x y z : Int32} (hdg : decode M.2.1 pc = .ok (.iadd, 1))  (hv : x + y = z) (k : mn_R E M d w nc ns (pc + 1) ls (.int z :: st) g Q) : mn_R E M d w nc ns pc ls (.int y :: .int x :: st) g Q := by
  subst hv
  exact fun p e s m args below meth c H locs cells slots lsr R X Y hl hr => lv_iadd X.1 X.2.1 hdg  (k p e s m args below meth c H locs cells slots lsr R X Y hl hr)
theorem mn_isub {x y z : Int32} (hdg : decode M.2.1 pc = .ok (.isub, 1))  (hv : x - y = z) (k : mn_R E M d w nc ns (pc + 1) ls (.int z :: st) g Q) : mn_R E M d w nc ns pc ls (.int y :: .int x :: st) g Q := by
  subst hv
  exact fun p e s m args below meth c H locs cells slots lsr R X Y hl hr => lv_isub X.1 X.2.1 hdg  (k p e s m args below meth c H locs cells slots lsr R X Y hl hr)
theorem mn_imul {x y z : Int32} (hdg : decode M.2.1 pc = .ok (.imul, 1))  (hv : x * y = z) (k : mn_R E M d w nc ns (pc + 1) ls (.int z :: st) g Q) : mn_R E M d w nc ns pc ls (.int y :: .int x :: st) g Q := by
  subst hv
  exact fun p e s m args below meth c H locs cells slots lsr R X Y hl hr => lv_imul X.1 X.2.1 hdg  (k p e s m args below meth c H locs cells slots lsr R X Y hl hr)
theorem mn_iand {x y z : Int32} (hdg : decode M.2.1 pc = .ok (.iand, 1))  (hv : x &&& y = z) (k : mn_R E M d w nc ns (pc + 1) ls (.int z :: st) g Q) : mn_R E M d w nc ns pc ls (.int y :: .int x :: st) g Q := by
  subst hv
  exact fun p e s m args below meth c H locs cells slots lsr R X Y hl hr => lv_iand X.1 X.2.1 hdg  (k p e s m args below meth c H locs cells slots lsr R X Y hl hr)
theorem mn_ior {x y z : Int32} (hdg : decode M.2.1 pc = .ok (.ior, 1))  (hv : x ||| y = z) (k : mn_R E M d w nc ns (pc + 1) ls (.int z :: st) g Q) : mn_R E M d w nc ns pc ls (.int y :: .int x :: st) g Q := by
  subst hv
  exact fun p e s m args below meth c H locs cells slots lsr R X Y hl hr => lv_ior X.1 X.2.1 hdg  (k p e s m args below meth c H locs cells slots lsr R X Y hl hr)
theorem mn_ixor {x y z : Int32} (hdg : decode M.2.1 pc = .ok (.ixor, 1))  (hv : x ^^^ y = z) (k : mn_R E M d w nc ns (pc + 1) ls (.int z :: st) g Q) : mn_R E M d w nc ns pc ls (.int y :: .int x :: st) g Q := by
  subst hv
  exact fun p e s m args below meth c H locs cells slots lsr R X Y hl hr => lv_ixor X.1 X.2.1 hdg  (k p e s m args below meth c H locs cells slots lsr R X Y hl hr)
theorem mn_ishl {x y z : Int32} (hdg : decode M.2.1 pc = .ok (.ishl, 1))  (hv : x <<< (y &&& 31) = z) (k : mn_R E M d w nc ns (pc + 1) ls (.int z :: st) g Q) : mn_R E M d w nc ns pc ls (.int y :: .int x :: st) g Q := by
  subst hv
  exact fun p e s m args below meth c H locs cells slots lsr R X Y hl hr => lv_ishl X.1 X.2.1 hdg  (k p e s m args below meth c H locs cells slots lsr R X Y hl hr)
theorem mn_ishr {x y z : Int32} (hdg : decode M.2.1 pc = .ok (.ishr, 1))  (hv : x >>> (y &&& 31) = z) (k : mn_R E M d w nc ns (pc + 1) ls (.int z :: st) g Q) : mn_R E M d w nc ns pc ls (.int y :: .int x :: st) g Q := by
  subst hv
  exact fun p e s m args below meth c H locs cells slots lsr R X Y hl hr => lv_ishr X.1 X.2.1 hdg  (k p e s m args below meth c H locs cells slots lsr R X Y hl hr)
theorem mn_iushr {x y z : Int32} (hdg : decode M.2.1 pc = .ok (.iushr, 1))  (hv : (x.toUInt32 >>> (y.toUInt32 &&& Int32.toUInt32 31)).toInt32 = z) (k : mn_R E M d w nc ns (pc + 1) ls (.int z :: st) g Q) : mn_R E M d w nc ns pc ls (.int y :: .int x :: st) g Q := by
  subst hv
  exact fun p e s m args below meth c H locs cells slots lsr R X Y hl hr => lv_iushr X.1 X.2.1 hdg rfl (k p e s m args below meth c H locs cells slots lsr R X Y hl hr)
theorem mn_idiv {x y z : Int32} (hdg : decode M.2.1 pc = .ok (.idiv, 1)) (hne : ¬ y = 0) (hv : x / y = z) (k : mn_R E M d w nc ns (pc + 1) ls (.int z :: st) g Q) : mn_R E M d w nc ns pc ls (.int y :: .int x :: st) g Q := by
  subst hv
  exact fun p e s m args below meth c H locs cells slots lsr R X Y hl hr => lv_idiv X.1 X.2.1 hdg hne (k p e s m args below meth c H locs cells slots lsr R X Y hl hr)
theorem mn_irem {x y z : Int32} (hdg : decode M.2.1 pc = .ok (.irem, 1)) (hne : ¬ y = 0) (hv : x - x / y * y = z) (k : mn_R E M d w nc ns (pc + 1) ls (.int z :: st) g Q) : mn_R E M d w nc ns pc ls (.int y :: .int x :: st) g Q := by
  subst hv
  exact fun p e s m args below meth c H locs cells slots lsr R X Y hl hr => lv_irem X.1 X.2.1 hdg hne (k p e s m args below meth c H locs cells slots lsr R X Y hl hr)
theorem mn_ineg {x z : Int32} (hdg : decode M.2.1 pc = .ok (.ineg, 1))  (hv : -x = z) (k : mn_R E M d w nc ns (pc + 1) ls (.int z :: st) g Q) : mn_R E M d w nc ns pc ls (.int x :: st) g Q := by
  subst hv
  exact fun p e s m args below meth c H locs cells slots lsr R X Y hl hr => lv_ineg X.1 X.2.1 hdg  (k p e s m args below meth c H locs cells slots lsr R X Y hl hr)
theorem mn_dup {v : Value} (hdg : decode M.2.1 pc = .ok (.dup, 1)) (hc : v.category = 1) (k : mn_R E M d w nc ns (pc + 1) ls (v :: v :: st) g Q) : mn_R E M d w nc ns pc ls (v :: st) g Q :=
  fun p e s m args below meth c H locs cells slots lsr R X Y hl hr => lv_dup X.1 X.2.1 hdg ((mn_cat E v).trans hc) (k p e s m args below meth c H locs cells slots lsr R X Y hl hr)
theorem mn_pop {v : Value} (hdg : decode M.2.1 pc = .ok (.pop, 1)) (hc : v.category = 1) (k : mn_R E M d w nc ns (pc + 1) ls (st) g Q) : mn_R E M d w nc ns pc ls (v :: st) g Q :=
  fun p e s m args below meth c H locs cells slots lsr R X Y hl hr => lv_pop X.1 X.2.1 hdg ((mn_cat E v).trans hc) (k p e s m args below meth c H locs cells slots lsr R X Y hl hr)
theorem mn_istore_n {k0 : Fin 4} {i : Nat} {x : Int32} (hdg : decode M.2.1 pc = .ok (.istore_n k0, 1)) (hi : (k0 : Nat) = i) (hn : i < M.2.2.1) (hl' : mn_put ls i (.int x) = ls') (k : mn_R E M d w nc ns (pc + 1) ls' st g Q) : mn_R E M d w nc ns pc ls (.int x :: st) g Q :=
  fun p e s m args below meth c H locs cells slots lsr R X Y hl hr => lv_istore_n X.1 X.2.1 hdg hi hl hn rfl (fun lsr2 hl2 => k p e s m args below meth c H locs cells slots lsr2 R X Y (hl' ▸ mn_put_has (v := .int x) hl2) hr)
theorem mn_istore {i : Nat} {x : Int32} (hdg : decode M.2.1 pc = .ok (.istore i, 2)) (hn : i < M.2.2.1) (hl' : mn_put ls i (.int x) = ls') (k : mn_R E M d w nc ns (pc + 2) ls' st g Q) : mn_R E M d w nc ns pc ls (.int x :: st) g Q :=
  fun p e s m args below meth c H locs cells slots lsr R X Y hl hr => lv_istore X.1 X.2.1 hdg hl hn rfl (fun lsr2 hl2 => k p e s m args below meth c H locs cells slots lsr2 R X Y (hl' ▸ mn_put_has (v := .int x) hl2) hr)
theorem mn_astore_n {k0 : Fin 4} {i : Nat} {x : Nat} (hdg : decode M.2.1 pc = .ok (.astore_n k0, 1)) (hi : (k0 : Nat) = i) (hn : i < M.2.2.1) (hl' : mn_put ls i (.ref x) = ls') (k : mn_R E M d w nc ns (pc + 1) ls' st g Q) : mn_R E M d w nc ns pc ls (.ref x :: st) g Q :=
  fun p e s m args below meth c H locs cells slots lsr R X Y hl hr => lv_astore_n X.1 X.2.1 hdg hi hl hn rfl (fun lsr2 hl2 => k p e s m args below meth c H locs cells slots lsr2 R X Y (hl' ▸ mn_put_has (v := .ref x) hl2) hr)
theorem mn_astore {i : Nat} {x : Nat} (hdg : decode M.2.1 pc = .ok (.astore i, 2)) (hn : i < M.2.2.1) (hl' : mn_put ls i (.ref x) = ls') (k : mn_R E M d w nc ns (pc + 2) ls' st g Q) : mn_R E M d w nc ns pc ls (.ref x :: st) g Q :=
  fun p e s m args below meth c H locs cells slots lsr R X Y hl hr => lv_astore X.1 X.2.1 hdg hl hn rfl (fun lsr2 hl2 => k p e s m args below meth c H locs cells slots lsr2 R X Y (hl' ▸ mn_put_has (v := .ref x) hl2) hr)
theorem mn_iinc {i : Nat} {n : Int} {x v : Int32} (j : Nat) (hdg : decode M.2.1 pc = .ok (.iinc i n, 3)) (hj : ls[j]? = some (i, .int x)) (hv : x + Int32.ofInt n = v) (hn : i < M.2.2.1) (hl' : mn_put ls i (.int v) = ls') (k : mn_R E M d w nc ns (pc + 3) ls' st g Q) : mn_R E M d w nc ns pc ls st g Q :=
  fun p e s m args below meth c H locs cells slots lsr R X Y hl hr => lv_iinc (k := j) X.1 X.2.1 hdg hl (by rw [List.getElem?_map, hj]; rfl) hv hn rfl (fun lsr2 hl2 => k p e s m args below meth c H locs cells slots lsr2 R X Y (hl' ▸ mn_put_has (v := .int v) hl2) hr)
theorem mn_if_eq {x : Int32} {off : Int} (tgt : Nat) (hdg : decode M.2.1 pc = .ok (.ifCond .eq off, 3)) (ht : (pc : Int) + off = (tgt : Int)) (kt : x = 0 → mn_R E M d w nc ns tgt ls st g Q) (kf : ¬ x = 0 → mn_R E M d w nc ns (pc + 3) ls st g Q) : mn_R E M d w nc ns pc ls (.int x :: st) g Q :=
  fun p e s m args below meth c H locs cells slots lsr R X Y hl hr => lv_if_eq X.1 X.2.1 hdg ht (fun h => kt h p e s m args below meth c H locs cells slots lsr R X Y hl hr) (fun h => kf h p e s m args below meth c H locs cells slots lsr R X Y hl hr)
theorem mn_icmp_eq {x y : Int32} {off : Int} (tgt : Nat) (hdg : decode M.2.1 pc = .ok (.if_icmp .eq off, 3)) (ht : (pc : Int) + off = (tgt : Int)) (kt : x = y → mn_R E M d w nc ns tgt ls st g Q) (kf : ¬ x = y → mn_R E M d w nc ns (pc + 3) ls st g Q) : mn_R E M d w nc ns pc ls (.int y :: .int x :: st) g Q :=
  fun p e s m args below meth c H locs cells slots lsr R X Y hl hr => lv_icmp_eq X.1 X.2.1 hdg ht (fun h => kt h p e s m args below meth c H locs cells slots lsr R X Y hl hr) (fun h => kf h p e s m args below meth c H locs cells slots lsr R X Y hl hr)
theorem mn_if_ne {x : Int32} {off : Int} (tgt : Nat) (hdg : decode M.2.1 pc = .ok (.ifCond .ne off, 3)) (ht : (pc : Int) + off = (tgt : Int)) (kt : ¬ x = 0 → mn_R E M d w nc ns tgt ls st g Q) (kf : x = 0 → mn_R E M d w nc ns (pc + 3) ls st g Q) : mn_R E M d w nc ns pc ls (.int x :: st) g Q :=
  fun p e s m args below meth c H locs cells slots lsr R X Y hl hr => lv_if_ne X.1 X.2.1 hdg ht (fun h => kt h p e s m args below meth c H locs cells slots lsr R X Y hl hr) (fun h => kf h p e s m args below meth c H locs cells slots lsr R X Y hl hr)
theorem mn_icmp_ne {x y : Int32} {off : Int} (tgt : Nat) (hdg : decode M.2.1 pc = .ok (.if_icmp .ne off, 3)) (ht : (pc : Int) + off = (tgt : Int)) (kt : ¬ x = y → mn_R E M d w nc ns tgt ls st g Q) (kf : x = y → mn_R E M d w nc ns (pc + 3) ls st g Q) : mn_R E M d w nc ns pc ls (.int y :: .int x :: st) g Q :=
  fun p e s m args below meth c H locs cells slots lsr R X Y hl hr => lv_icmp_ne X.1 X.2.1 hdg ht (fun h => kt h p e s m args below meth c H locs cells slots lsr R X Y hl hr) (fun h => kf h p e s m args below meth c H locs cells slots lsr R X Y hl hr)
theorem mn_if_lt {x : Int32} {off : Int} (tgt : Nat) (hdg : decode M.2.1 pc = .ok (.ifCond .lt off, 3)) (ht : (pc : Int) + off = (tgt : Int)) (kt : x < 0 → mn_R E M d w nc ns tgt ls st g Q) (kf : ¬ x < 0 → mn_R E M d w nc ns (pc + 3) ls st g Q) : mn_R E M d w nc ns pc ls (.int x :: st) g Q :=
  fun p e s m args below meth c H locs cells slots lsr R X Y hl hr => lv_if_lt X.1 X.2.1 hdg ht (fun h => kt h p e s m args below meth c H locs cells slots lsr R X Y hl hr) (fun h => kf h p e s m args below meth c H locs cells slots lsr R X Y hl hr)
theorem mn_icmp_lt {x y : Int32} {off : Int} (tgt : Nat) (hdg : decode M.2.1 pc = .ok (.if_icmp .lt off, 3)) (ht : (pc : Int) + off = (tgt : Int)) (kt : x < y → mn_R E M d w nc ns tgt ls st g Q) (kf : ¬ x < y → mn_R E M d w nc ns (pc + 3) ls st g Q) : mn_R E M d w nc ns pc ls (.int y :: .int x :: st) g Q :=
  fun p e s m args below meth c H locs cells slots lsr R X Y hl hr => lv_icmp_lt X.1 X.2.1 hdg ht (fun h => kt h p e s m args below meth c H locs cells slots lsr R X Y hl hr) (fun h => kf h p e s m args below meth c H locs cells slots lsr R X Y hl hr)
theorem mn_if_ge {x : Int32} {off : Int} (tgt : Nat) (hdg : decode M.2.1 pc = .ok (.ifCond .ge off, 3)) (ht : (pc : Int) + off = (tgt : Int)) (kt : 0 ≤ x → mn_R E M d w nc ns tgt ls st g Q) (kf : ¬ 0 ≤ x → mn_R E M d w nc ns (pc + 3) ls st g Q) : mn_R E M d w nc ns pc ls (.int x :: st) g Q :=
  fun p e s m args below meth c H locs cells slots lsr R X Y hl hr => lv_if_ge X.1 X.2.1 hdg ht (fun h => kt h p e s m args below meth c H locs cells slots lsr R X Y hl hr) (fun h => kf h p e s m args below meth c H locs cells slots lsr R X Y hl hr)
theorem mn_icmp_ge {x y : Int32} {off : Int} (tgt : Nat) (hdg : decode M.2.1 pc = .ok (.if_icmp .ge off, 3)) (ht : (pc : Int) + off = (tgt : Int)) (kt : y ≤ x → mn_R E M d w nc ns tgt ls st g Q) (kf : ¬ y ≤ x → mn_R E M d w nc ns (pc + 3) ls st g Q) : mn_R E M d w nc ns pc ls (.int y :: .int x :: st) g Q :=
  fun p e s m args below meth c H locs cells slots lsr R X Y hl hr => lv_icmp_ge X.1 X.2.1 hdg ht (fun h => kt h p e s m args below meth c H locs cells slots lsr R X Y hl hr) (fun h => kf h p e s m args below meth c H locs cells slots lsr R X Y hl hr)
theorem mn_if_gt {x : Int32} {off : Int} (tgt : Nat) (hdg : decode M.2.1 pc = .ok (.ifCond .gt off, 3)) (ht : (pc : Int) + off = (tgt : Int)) (kt : 0 < x → mn_R E M d w nc ns tgt ls st g Q) (kf : ¬ 0 < x → mn_R E M d w nc ns (pc + 3) ls st g Q) : mn_R E M d w nc ns pc ls (.int x :: st) g Q :=
  fun p e s m args below meth c H locs cells slots lsr R X Y hl hr => lv_if_gt X.1 X.2.1 hdg ht (fun h => kt h p e s m args below meth c H locs cells slots lsr R X Y hl hr) (fun h => kf h p e s m args below meth c H locs cells slots lsr R X Y hl hr)
theorem mn_icmp_gt {x y : Int32} {off : Int} (tgt : Nat) (hdg : decode M.2.1 pc = .ok (.if_icmp .gt off, 3)) (ht : (pc : Int) + off = (tgt : Int)) (kt : y < x → mn_R E M d w nc ns tgt ls st g Q) (kf : ¬ y < x → mn_R E M d w nc ns (pc + 3) ls st g Q) : mn_R E M d w nc ns pc ls (.int y :: .int x :: st) g Q :=
  fun p e s m args below meth c H locs cells slots lsr R X Y hl hr => lv_icmp_gt X.1 X.2.1 hdg ht (fun h => kt h p e s m args below meth c H locs cells slots lsr R X Y hl hr) (fun h => kf h p e s m args below meth c H locs cells slots lsr R X Y hl hr)
theorem mn_if_le {x : Int32} {off : Int} (tgt : Nat) (hdg : decode M.2.1 pc = .ok (.ifCond .le off, 3)) (ht : (pc : Int) + off = (tgt : Int)) (kt : x ≤ 0 → mn_R E M d w nc ns tgt ls st g Q) (kf : ¬ x ≤ 0 → mn_R E M d w nc ns (pc + 3) ls st g Q) : mn_R E M d w nc ns pc ls (.int x :: st) g Q :=
  fun p e s m args below meth c H locs cells slots lsr R X Y hl hr => lv_if_le X.1 X.2.1 hdg ht (fun h => kt h p e s m args below meth c H locs cells slots lsr R X Y hl hr) (fun h => kf h p e s m args below meth c H locs cells slots lsr R X Y hl hr)
theorem mn_icmp_le {x y : Int32} {off : Int} (tgt : Nat) (hdg : decode M.2.1 pc = .ok (.if_icmp .le off, 3)) (ht : (pc : Int) + off = (tgt : Int)) (kt : x ≤ y → mn_R E M d w nc ns tgt ls st g Q) (kf : ¬ x ≤ y → mn_R E M d w nc ns (pc + 3) ls st g Q) : mn_R E M d w nc ns pc ls (.int y :: .int x :: st) g Q :=
  fun p e s m args below meth c H locs cells slots lsr R X Y hl hr => lv_icmp_le X.1 X.2.1 hdg ht (fun h => kt h p e s m args below meth c H locs cells slots lsr R X Y hl hr) (fun h => kf h p e s m args below meth c H locs cells slots lsr R X Y hl hr)
theorem mn_goto {off : Int} (tgt : Nat) (hdg : decode M.2.1 pc = .ok (.goto off, 3)) (ht : (pc : Int) + off = (tgt : Int)) (k : mn_R E M d w nc ns tgt ls st g Q) : mn_R E M d w nc ns pc ls st g Q :=
  fun p e s m args below meth c H locs cells slots lsr R X Y hl hr => lv_goto X.1 X.2.1 hdg ht (k p e s m args below meth c H locs cells slots lsr R X Y hl hr)
theorem mn_ifnonnull {a : Nat} {off : Int} (tgt : Nat) (hdg : decode M.2.1 pc = .ok (.ifnonnull off, 3)) (ht : (pc : Int) + off = (tgt : Int)) (k : mn_R E M d w nc ns tgt ls st g Q) : mn_R E M d w nc ns pc ls (.ref a :: st) g Q :=
  fun p e s m args below meth c H locs cells slots lsr R X Y hl hr => lv_ifnonnull X.1 X.2.1 hdg ht (k p e s m args below meth c H locs cells slots lsr R X Y hl hr)
theorem mn_ifnull {a : Nat} {off : Int} (hdg : decode M.2.1 pc = .ok (.ifnull off, 3)) (k : mn_R E M d w nc ns (pc + 3) ls st g Q) : mn_R E M d w nc ns pc ls (.ref a :: st) g Q :=
  fun p e s m args below meth c H locs cells slots lsr R X Y hl hr => lv_ifnull X.1 X.2.1 hdg (k p e s m args below meth c H locs cells slots lsr R X Y hl hr)
theorem mn_ifnullN {off : Int} (tgt : Nat) (hdg : decode M.2.1 pc = .ok (.ifnull off, 3)) (ht : (pc : Int) + off = (tgt : Int)) (k : mn_R E M d w nc ns tgt ls st g Q) : mn_R E M d w nc ns pc ls (.null :: st) g Q :=
  fun p e s m args below meth c H locs cells slots lsr R X Y hl hr => lv_ifnullN X.1 X.2.1 hdg ht (k p e s m args below meth c H locs cells slots lsr R X Y hl hr)
theorem mn_ifnonnullN {off : Int} (hdg : decode M.2.1 pc = .ok (.ifnonnull off, 3)) (k : mn_R E M d w nc ns (pc + 3) ls st g Q) : mn_R E M d w nc ns pc ls (.null :: st) g Q :=
  fun p e s m args below meth c H locs cells slots lsr R X Y hl hr => lv_ifnonnullN X.1 X.2.1 hdg (k p e s m args below meth c H locs cells slots lsr R X Y hl hr)
theorem mn_tableOut {dflt lo hi : Int} {offs : Array Int} {len : Nat} {x : Int32} (tgt : Nat) (hdg : decode M.2.1 pc = .ok (.tableswitch dflt lo hi offs, len)) (h : x.toInt < lo ∨ hi < x.toInt) (ht : (pc : Int) + dflt = (tgt : Int)) (k : mn_R E M d w nc ns tgt ls st g Q) : mn_R E M d w nc ns pc ls (.int x :: st) g Q :=
  fun p e s m args below meth c H locs cells slots lsr R X Y hl hr => lv_tableOut X.1 X.2.1 hdg h ht (k p e s m args below meth c H locs cells slots lsr R X Y hl hr)
theorem mn_tableIn {dflt lo hi : Int} {offs : Array Int} {len : Nat} {x : Int32} {off : Int} (tgt : Nat) (hdg : decode M.2.1 pc = .ok (.tableswitch dflt lo hi offs, len)) (h1 : ¬ x.toInt < lo) (h2 : ¬ hi < x.toInt) (ho : offs[(x.toInt - lo).toNat]? = some off) (ht : (pc : Int) + off = (tgt : Int)) (k : mn_R E M d w nc ns tgt ls st g Q) : mn_R E M d w nc ns pc ls (.int x :: st) g Q :=
  fun p e s m args below meth c H locs cells slots lsr R X Y hl hr => lv_tableIn X.1 X.2.1 hdg h1 h2 ho ht (k p e s m args below meth c H locs cells slots lsr R X Y hl hr)
theorem mn_dup_x1 {v u : Value} (hdg : decode M.2.1 pc = .ok (.dup_x1, 1)) (hc : v.category = 1) (hc2 : u.category = 1) (k : mn_R E M d w nc ns (pc + 1) ls (v :: u :: v :: st) g Q) : mn_R E M d w nc ns pc ls (v :: u :: st) g Q :=
  fun p e s m args below meth c H locs cells slots lsr R X Y hl hr => lv_dup_x1 X.1 X.2.1 hdg ((mn_cat E v).trans hc) ((mn_cat E u).trans hc2) (k p e s m args below meth c H locs cells slots lsr R X Y hl hr)
theorem mn_dup2 {v u : Value} (hdg : decode M.2.1 pc = .ok (.dup2, 1)) (hc : v.category = 1) (hc2 : u.category = 1) (k : mn_R E M d w nc ns (pc + 1) ls (v :: u :: v :: u :: st) g Q) : mn_R E M d w nc ns pc ls (v :: u :: st) g Q :=
  fun p e s m args below meth c H locs cells slots lsr R X Y hl hr => lv_dup2_11 X.1 X.2.1 hdg ((mn_cat E v).trans hc) ((mn_cat E u).trans hc2) (k p e s m args below meth c H locs cells slots lsr R X Y hl hr)
theorem mn_aload_nN {k0 : Fin 4} {i : Nat} (j : Nat) (hdg : decode M.2.1 pc = .ok (.aload_n k0, 1)) (hi : (k0 : Nat) = i) (hj : ls[j]? = some (i, .null)) (k : mn_R E M d w nc ns (pc + 1) ls (.null :: st) g Q) : mn_R E M d w nc ns pc ls (st) g Q :=
  fun p e s m args below meth c H locs cells slots lsr R X Y hl hr => lv_aload_nN X.1 X.2.1 hdg hi (mn_lv hl hj) (k p e s m args below meth c H locs cells slots lsr R X Y hl hr)
theorem mn_aloadN {i : Nat} (j : Nat) (hdg : decode M.2.1 pc = .ok (.aload i, 2)) (hj : ls[j]? = some (i, .null)) (k : mn_R E M d w nc ns (pc + 2) ls (.null :: st) g Q) : mn_R E M d w nc ns pc ls (st) g Q :=
  fun p e s m args below meth c H locs cells slots lsr R X Y hl hr => lv_aloadN X.1 X.2.1 hdg (mn_lv hl hj) (k p e s m args below meth c H locs cells slots lsr R X Y hl hr)
theorem mn_astore_nN {k0 : Fin 4} {i : Nat} (hdg : decode M.2.1 pc = .ok (.astore_n k0, 1)) (hi : (k0 : Nat) = i) (hn : i < M.2.2.1) (hl' : mn_put ls i .null = ls') (k : mn_R E M d w nc ns (pc + 1) ls' st g Q) : mn_R E M d w nc ns pc ls (.null :: st) g Q :=
  fun p e s m args below meth c H locs cells slots lsr R X Y hl hr => lv_astore_nN X.1 X.2.1 hdg hi hl hn rfl (fun lsr2 hl2 => k p e s m args below meth c H locs cells slots lsr2 R X Y (hl' ▸ mn_put_has (v := .null) hl2) hr)
theorem mn_astoreN {i : Nat} (hdg : decode M.2.1 pc = .ok (.astore i, 2)) (hn : i < M.2.2.1) (hl' : mn_put ls i .null = ls') (k : mn_R E M d w nc ns (pc + 2) ls' st g Q) : mn_R E M d w nc ns pc ls (.null :: st) g Q :=
  fun p e s m args below meth c H locs cells slots lsr R X Y hl hr => lv_astoreN X.1 X.2.1 hdg hl hn rfl (fun lsr2 hl2 => k p e s m args below meth c H locs cells slots lsr2 R X Y (hl' ▸ mn_put_has (v := .null) hl2) hr)
theorem mn_ldc {i : Nat} {v : Int32} (hdg : decode M.2.1 pc = .ok (.ldc i, 2)) (hw : Cond.constant M.1.cls i v ∈ mn_W) (k : mn_R E M d w nc ns (pc + 2) ls (.int v :: st) g Q) : mn_R E M d w nc ns pc ls st g Q :=
  fun p e s m args below meth c H locs cells slots lsr R X Y hl hr => lv_ldc X.1 X.2.1 X.own (X.hts _ hw) hdg (k p e s m args below meth c H locs cells slots lsr R X Y hl hr)
theorem mn_iret {x : Int32} (hr0 : M.2.2.2 = some .int) (hdg : decode M.2.1 pc = .ok (.ireturn, 1)) (hQ : Q (some (.int x)) g) : mn_R E M d w nc ns pc ls [.int x] g Q := by
  intro p e s m args below meth c H locs cells slots lsr R X Y hl hr
  refine W.widen (k := R.cells) (n := R.slots) (Nat.le_trans (Nat.le_add_right _ _) hr.2.2.1) (Nat.le_trans (Nat.le_add_right _ _) hr.2.2.2) ?_
  exact W.iret X.1 X.2.1 (X.2.2.2.1.trans hr0) (fun t ht hW => ⟨_, g, hQ, rfl, by rw [ht]; exact Y.1, by rw [ht]; exact Y.2.1, Y.2.2.1, Y.2.2.2.F ht⟩) Y.2.2.2.2.2 hdg X.2.2.2.2.1
theorem mn_zret {x : Int32} {ty : FieldType} (hr0 : M.2.2.2 = some ty) (hn0 : narrow ty (.int x) = .int x) (hdg : decode M.2.1 pc = .ok (.ireturn, 1)) (hQ : Q (some (.int x)) g) : mn_R E M d w nc ns pc ls [.int x] g Q := by
  intro p e s m args below meth c H locs cells slots lsr R X Y hl hr
  refine W.widen (k := R.cells) (n := R.slots) (Nat.le_trans (Nat.le_add_right _ _) hr.2.2.1) (Nat.le_trans (Nat.le_add_right _ _) hr.2.2.2) ?_
  exact W.zret X.1 X.2.1 (X.2.2.2.1.trans hr0) hn0 (fun t ht hW => ⟨_, g, hQ, rfl, by rw [ht]; exact Y.1, by rw [ht]; exact Y.2.1, Y.2.2.1, Y.2.2.2.F ht⟩) Y.2.2.2.2.2 hdg X.2.2.2.2.1
theorem mn_vret (hr0 : M.2.2.2 = none) (hdg : decode M.2.1 pc = .ok (.return_, 1)) (hQ : Q (none) g) : mn_R E M d w nc ns pc ls [] g Q := by
  intro p e s m args below meth c H locs cells slots lsr R X Y hl hr
  refine W.widen (k := R.cells) (n := R.slots) (Nat.le_trans (Nat.le_add_right _ _) hr.2.2.1) (Nat.le_trans (Nat.le_add_right _ _) hr.2.2.2) ?_
  exact W.vret X.1 X.2.1 (X.2.2.2.1.trans hr0) (fun t ht hW => ⟨_, g, hQ, rfl, by rw [ht]; exact Y.1, by rw [ht]; exact Y.2.1, Y.2.2.1, Y.2.2.2.F ht⟩) Y.2.2.2.2.2 hdg X.2.2.2.2.1
theorem mn_aret {x : Nat} {rt : FieldType} (hr0 : M.2.2.2 = some rt) (hrt : (∃ n, rt = .object n) ∨ ∃ t, rt = .array t) (hdg : decode M.2.1 pc = .ok (.areturn, 1)) (hQ : Q (some (.ref x)) g) : mn_R E M d w nc ns pc ls [.ref x] g Q := by
  intro p e s m args below meth c H locs cells slots lsr R X Y hl hr
  refine W.widen (k := R.cells) (n := R.slots) (Nat.le_trans (Nat.le_add_right _ _) hr.2.2.1) (Nat.le_trans (Nat.le_add_right _ _) hr.2.2.2) ?_
  exact W.aret (v := .ref (mn_ad E x)) X.1 X.2.1 (X.2.2.2.1.trans hr0) hrt (Or.inr ⟨_, rfl⟩) (fun t ht hW => ⟨_, g, hQ, rfl, by rw [ht]; exact Y.1, by rw [ht]; exact Y.2.1, Y.2.2.1, Y.2.2.2.F ht⟩) Y.2.2.2.2.2 hdg X.2.2.2.2.1
theorem mn_nret {rt : FieldType} (hr0 : M.2.2.2 = some rt) (hrt : (∃ n, rt = .object n) ∨ ∃ t, rt = .array t) (hdg : decode M.2.1 pc = .ok (.areturn, 1)) (hQ : Q (some .null) g) : mn_R E M d w nc ns pc ls [.null] g Q := by
  intro p e s m args below meth c H locs cells slots lsr R X Y hl hr
  refine W.widen (k := R.cells) (n := R.slots) (Nat.le_trans (Nat.le_add_right _ _) hr.2.2.1) (Nat.le_trans (Nat.le_add_right _ _) hr.2.2.2) ?_
  exact W.aret (v := .null) X.1 X.2.1 (X.2.2.2.1.trans hr0) hrt (Or.inl rfl) (fun t ht hW => ⟨_, g, hQ, rfl, by rw [ht]; exact Y.1, by rw [ht]; exact Y.2.1, Y.2.2.1, Y.2.2.2.F ht⟩) Y.2.2.2.2.2 hdg X.2.2.2.2.1
end MNROWS
end
section
/-! MINE: rows over cells: fields, arrays, making, calls -/
/-- a class of ours: its number, name, fields, how many, their types -/
def mn_okC (ci : Nat) (C : String) (T : u_T) (N : Nat) (ty : Nat → FieldType) : Prop := vwCl[ci]? = some (C, T, N) ∧ (∀ w ∈ u_ws C T N, w ∈ mn_W) ∧ (∀ k, k < N → parseFieldDescriptor (T k).2.2.1 = some (ty k)) ∧ (∀ a, a < N → ∀ b, b < N → a ≠ b → (T a).2.1 ≠ (T b).2.1)
/-- a method of ours with n parameters -/
def mn_okM (M : mn_M) (n : Nat) : Prop := plainName M.1.cls = true ∧ Cond.code M.1 M.2.1 M.2.2.1 M.2.2.2 ∈ mn_W ∧ Cond.initialized M.1.cls ∈ mn_W ∧ (M.1.cls ≠ "java/lang/invoke/MethodHandle" ∧ M.1.cls ≠ "java/lang/invoke/VarHandle") ∧ (parseMethodDescriptor M.1.desc).map (fun d => d.parameters.length) = some n
def mn_okV (M : mn_M) (n : Nat) : Prop := mn_okM M n ∧ Cond.instanceMethod M.1 ∈ mn_W ∧ Cond.selects M.1.cls M.1 M.1 ∈ mn_W
def mn_okS (M : mn_M) (n : Nat) : Prop := mn_okM M n ∧ Cond.static M.1 ∈ mn_W
def mn_okI (M : mn_M) (n : Nat) : Prop := mn_okM M n ∧ M.1.name = "<init>" ∧ Cond.instanceMethod M.1 ∈ mn_W ∧ M.2.2.2 = none
def mn_wd (M : mn_M) : List Cond := Cond.code M.1 M.2.1 M.2.2.1 M.2.2.2 :: mn_W
theorem mn_wd_good {M : mn_M} {n : Nat} (h : mn_okM M n) : GoodIn mn_W (mn_wd M) := by
  intro w hw
  rcases List.mem_cons.mp hw with rfl | hw
  · exact ⟨h.2.1, mn_good _ h.2.1⟩
  · exact ⟨hw, mn_good _ hw⟩
/-- what a method finds at its start -/
def mn_Pc (E : mn_En) (g : mn_H) (U : State) : Prop := mn_K E U ∧ (va_X E.2.2.2.1 E.2.2.2.2.2.1 E.2.2.2.2.2.2 U U.heap ∧ E.2.2.2.1 ≤ mn_Z E ∧ mn_Z E < U.heap.size) ∧ va_P E.2.1 vwCl (mn_ws E g) U.heap ∧ U.heap.size = mn_Z E + g.1 ∧ 0 < g.1
theorem mn_Pc.blind {E : mn_En} {g : mn_H} {av : List Value} : FrameBlind (va_Pc av (mn_Pc E g)) := by
  intro a U fr mk h
  obtain ⟨h1, hK, ⟨hX, hb, hz⟩, hP⟩ := h
  exact ⟨h1, hK.warm (U := U.calling fr mk a) (State.WarmedH.refl U), ⟨va_X.moved (u := U) (U := U.calling fr mk a) (Vm.Alike.refl U.vm) hX, hb, hz⟩, hP⟩
theorem mn_scr {E : mn_En} {s : State} {H : Heap} {locs : List Loc} (h : va_X E.2.2.2.1 E.2.2.2.2.2.1 E.2.2.2.2.2.2 s s.heap ∧ E.2.2.2.1 ≤ mn_Z E ∧ mn_Z E < s.heap.size) (hS : va_S (mn_F E) s.heap H locs) : va_X E.2.2.2.1 E.2.2.2.2.2.1 E.2.2.2.2.2.2 s H :=
  h.1.kept (hS.2.1 _ (Nat.lt_of_le_of_lt h.2.1 h.2.2) (Nat.not_lt.mpr h.2.1))
theorem mn_pre {E : mn_En} {M : mn_M} {g : mn_H} {p : Program} {s : State} {m : MethodId} {args : Array Value} {meth : Method} {c : Code} {H : Heap} {locs : List Loc} (X : mn_X E M p s m args meth c) (Y : mn_Y E g s H locs) (av : List Value) : ∀ U : State, U.heap = H → s.WarmedH U.vm → va_Pc av (mn_Pc E g) av.toArray U := by
  intro U hU hW
  refine ⟨rfl, X.K.warm hW, ⟨?_, X.scr.2.1, ?_⟩, by rw [hU]; exact Y.1, by rw [hU]; exact Y.2.1, Y.2.2.1⟩
  · rw [hU]
    exact va_X.moved hW.alike (mn_scr X.scr Y.2.2.2)
  · rw [hU]
    exact Nat.lt_of_lt_of_le X.scr.2.2 Y.2.2.2.1
theorem mn_args_map (E : mn_En) : ∀ (av : List Value) (i : Nat), lv_args i (av.map (mn_v E)) = mn_m E (lv_args i av)
  | [], _ => rfl
  | v :: t, i => by
    show (i, mn_v E v) :: lv_args (if (mn_v E v).category = 2 then i + 2 else i + 1) (t.map (mn_v E)) = (i, mn_v E v) :: mn_m E (lv_args (if v.category = 2 then i + 2 else i + 1) t)
    rw [mn_cat, mn_args_map E t]
theorem mn_sl_len (E : mn_En) (av : List Value) : (lg_sl (av.map (mn_v E))).length = (lg_sl av).length := by
  unfold lg_sl
  induction av with
  | nil => rfl
  | cons v t ih =>
    simp only [List.map_cons, List.flatMap_cons, List.length_append, mn_cat, ih]
    split <;> rfl
/-- A CONTRACT -/
theorem mn_met {E : mn_En} {M : mn_M} {n d w nc ns : Nat} {av : List Value} {g : mn_H} {Q : Option Value → mn_H → Prop} (ok : mn_okM M n) (hlen : (lg_sl av).length ≤ M.2.2.1) (h : mn_R E M d w nc ns 0 (lv_args 0 av) [] g Q) :
    Met E.1 M.1 (mn_wd M) { frames := d, cells := nc, slots := ns, locals := w } (va_Pc (av.map (mn_v E)) (mn_Pc E g)) (mn_Q E Q) nc ns (mn_F E) := by
  refine Met.ofW (cc := M.2.1) (maxL := M.2.2.1) (ret := M.2.2.2) ok.1 rfl ?_
  intro p e s m args below meth c s₁ B hml hv
  obtain ⟨rfl, hK, hX, hP, hz, h0⟩ := hv
  have hts := atoms_spec (ws := mn_wd M) B.pre
  have hown : s.vm.findClass M.1.cls = some m.cls := findClass_of_methodNamed B.named
  have hl := lv_entry (av.map (mn_v E)) (n := M.2.2.1) (by rw [mn_sl_len]; exact hlen)
  rw [lg_entry_eq]
  rw [mn_args_map] at hl
  exact h p e s m _ below meth c s.heap [] 0 0 _ _ ⟨B.exec, B.bytes, hml, B.returns, B.notSynchronized, hown, (name_of_methodNamed B.named B.method).1, fun w hw => hts w (List.mem_cons_of_mem _ hw), hK, hX⟩ ⟨hP, hz, h0, va_S.rf⟩ hl ⟨Nat.le_refl _, Nat.le_refl _, by show 0 + nc ≤ nc; omega, by show 0 + ns ≤ ns; omega⟩
theorem mn_back {E : mn_En} {p : Program} {e : Env} {R : Room} {s : State} {m : MethodId} {args : Array Value} {below : List Frame} {meth : Method} {c : Code} {H : Heap} {locs : List Loc} {cells slots mc ms pc : Nat} {ls : Array Slot} {st0 rest : List Value} {a : Array Value} {Q' : Option Value → mn_H → Prop} {Qf : State → Prop}
    (hr : va_Run p E.1 e R s m args below meth c H locs cells slots mc ms (F0 m pc ls st0) rest (mn_Q E Q' a) (mn_F E)) (hS : va_S (mn_F E) s.heap H locs)
    (kk : ∀ (v : Option Value) (g' : mn_H) (H1 : Heap) (locs1 : List Loc), Q' v g' → mn_Y E g' s H1 locs1 → W p E.1 e R s m args below meth c H1 locs1 (cells + mc) (slots + ms) Qf (F0 m (pc + 3) ls ((v.map (mn_v E)).toList ++ rest))) : W p E.1 e R s m args below meth c H locs cells slots Qf (F0 m pc ls st0) := by
  intro T hT X
  obtain ⟨v, st₀, t, T', L, h0, X', hL, e1, e2, ⟨v', g', hq, hv, hP, hz, h1, hzz, hk⟩, st⟩ := hr T hT X
  cases hv
  rw [h0] at hzz hk
  obtain ⟨t2, a1, b1⟩ := kk v' g' T'.heap (locs ++ L) hq ⟨by rw [e1]; exact hP, by rw [e1]; exact hz, h1, Nat.le_trans hS.1 (by rw [e1]; exact hzz), fun q g1 g2 => by rw [e1, hk q (Nat.lt_of_lt_of_le g1 hS.1) g2]; exact hS.2.1 q g1 g2, fun q hq => by
      rcases List.mem_append.mp hq with h | h
      · exact hS.2.2 q h
      · exact hL q h⟩ T' rfl X'
  exact ⟨t2, st t2 a1, b1⟩
theorem mn_opt (E : mn_En) (v : Option Value) (st : List Value) : (v.map (mn_v E)).toList ++ st.map (mn_v E) = (v.toList ++ st).map (mn_v E) := by cases v <;> rfl
section MNCALL
variable {E : mn_En} {M M' : mn_M} {d w nc ns pc d' w' nc' ns' n i a ci : Nat} {ls : List (Nat × Value)} {st As : List Value} {g : mn_H} {Q Q' : Option Value → mn_H → Prop}
/-- the room of a call -/
def mn_rm (M' : mn_M) (d w nc ns d' w' nc' ns' : Nat) : Prop := d' + 1 ≤ d ∧ 8 + (M'.2.2.1 + 11) + w' ≤ w ∧ nc' ≤ nc ∧ ns' ≤ ns
theorem mn_callV {r : vw_C} {fs stk : List Value} (ok : mn_okV M' n) (lk : Cond.methodLink M.1.cls i M'.1 ∈ mn_W) (hdg : decode M.2.1 pc = .ok (.invokevirtual i, 3)) (hat : mn_at g a (.inr (ci, fs))) (hc : vwCl[ci]? = some r) (hr1 : r.1 = M'.1.cls) (hs : stk = As.reverse ++ .ref a :: st) (hn : As.length = n) (hlen : (lg_sl (.ref a :: As)).length ≤ M'.2.2.1) (hcat : (st.map fun v => v.category).sum ≤ 8) (hrm : mn_rm M' d w nc ns d' w' nc' ns')
    (hM : mn_R E M' d' w' nc' ns' 0 (lv_args 0 (.ref a :: As)) [] g Q') (k : ∀ v g', Q' v g' → mn_R E M d w (nc - nc') (ns - ns') (pc + 3) ls (v.toList ++ st) g' Q) : mn_R E M d w nc ns pc ls stk g Q := by
  intro p e s m args below meth c H locs cells slots lsr R X Y hl hr
  subst hs
  obtain ⟨r1, r2, r3, r4⟩ := hrm
  obtain ⟨R1, R2, R3, R4⟩ := id hr
  refine mn_back (rest := st.map (mn_v E)) (va_runV (As := As.map (mn_v E)) (b := mn_ad E a) (n := n) ⟨X.1, X.2.1, X.2.2.1, X.own, X.hts⟩ (mn_met ok.1 hlen hM) ⟨callB_of n X.hts (mn_wd_good ok.1) rfl rfl rfl (X.hts _ ok.1.2.2.1) (X.hts _ lk) ⟨ok.1.2.2.2.1.1, ok.1.2.2.2.1.2, ok.1.2.2.2.2⟩ ⟨Nat.le_trans r1 R1, Nat.le_trans r2 R2⟩, X.hts _ ok.2.1, X.hts _ ok.2.2⟩ ⟨mn_Pc.blind, ?_, mn_pre X Y _⟩ rfl (by rw [List.length_map]; exact hn) hl.1 (by simp [mn_v]) (lv_room (by rw [mn_cats]; exact hcat)) hdg ⟨by omega, by omega⟩) Y.2.2.2 (fun v g' H1 locs1 hq hY => ?_)
  · have h := va_recv X.K.1 Y.1 hc (mn_ws_get hat)
    rw [hr1] at h
    exact h
  · rw [mn_opt]
    exact k v g' hq p e s m args below meth c H1 locs1 _ _ lsr R X hY hl ⟨R1, R2, by omega, by omega⟩
theorem mn_callVN {r : vw_C} {host : String} {fs stk : List Value} (ok : mn_okV M' n) (lk : Cond.methodLinkNest M.1.cls i M'.1 host ∈ mn_NW) (hdg : decode M.2.1 pc = .ok (.invokevirtual i, 3)) (hat : mn_at g a (.inr (ci, fs))) (hc : vwCl[ci]? = some r) (hr1 : r.1 = M'.1.cls) (hs : stk = As.reverse ++ .ref a :: st) (hn : As.length = n) (hlen : (lg_sl (.ref a :: As)).length ≤ M'.2.2.1) (hcat : (st.map fun v => v.category).sum ≤ 8) (hrm : mn_rm M' d w nc ns d' w' nc' ns')
    (hM : mn_R E M' d' w' nc' ns' 0 (lv_args 0 (.ref a :: As)) [] g Q') (k : ∀ v g', Q' v g' → mn_R E M d w (nc - nc') (ns - ns') (pc + 3) ls (v.toList ++ st) g' Q) : mn_R E M d w nc ns pc ls stk g Q := by
  intro p e s m args below meth c H locs cells slots lsr R X Y hl hr
  subst hs
  obtain ⟨r1, r2, r3, r4⟩ := hrm
  obtain ⟨R1, R2, R3, R4⟩ := id hr
  refine mn_back (rest := st.map (mn_v E)) (va_runVN (As := As.map (mn_v E)) (b := mn_ad E a) (n := n) ⟨X.1, X.2.1, X.2.2.1, X.own, X.hts⟩ (mn_met ok.1 hlen hM) ⟨va_cnB n X.hts (mn_wd_good ok.1) rfl rfl rfl (X.K.2 _ lk) (X.hts _ ok.1.2.2.1) ⟨ok.1.2.2.2.1.1, ok.1.2.2.2.1.2, ok.1.2.2.2.2⟩ ⟨Nat.le_trans r1 R1, Nat.le_trans r2 R2⟩, X.hts _ ok.2.1, X.hts _ ok.2.2⟩ ⟨mn_Pc.blind, ?_, mn_pre X Y _⟩ rfl (by rw [List.length_map]; exact hn) hl.1 (by simp [mn_v]) (lv_room (by rw [mn_cats]; exact hcat)) hdg ⟨by omega, by omega⟩) Y.2.2.2 (fun v g' H1 locs1 hq hY => ?_)
  · have h := va_recv X.K.1 Y.1 hc (mn_ws_get hat)
    rw [hr1] at h
    exact h
  · rw [mn_opt]
    exact k v g' hq p e s m args below meth c H1 locs1 _ _ lsr R X hY hl ⟨R1, R2, by omega, by omega⟩
theorem mn_callS {stk : List Value} (ok : mn_okS M' n) (lk : Cond.methodLink M.1.cls i M'.1 ∈ mn_W) (hdg : decode M.2.1 pc = .ok (.invokestatic i, 3)) (hs : stk = As.reverse ++ st) (hn : As.length = n) (hlen : (lg_sl As).length ≤ M'.2.2.1) (hcat : (st.map fun v => v.category).sum ≤ 8) (hrm : mn_rm M' d w nc ns d' w' nc' ns')
    (hM : mn_R E M' d' w' nc' ns' 0 (lv_args 0 As) [] g Q') (k : ∀ v g', Q' v g' → mn_R E M d w (nc - nc') (ns - ns') (pc + 3) ls (v.toList ++ st) g' Q) : mn_R E M d w nc ns pc ls stk g Q := by
  intro p e s m args below meth c H locs cells slots lsr R X Y hl hr
  subst hs
  obtain ⟨r1, r2, r3, r4⟩ := hrm
  obtain ⟨R1, R2, R3, R4⟩ := id hr
  refine mn_back (rest := st.map (mn_v E)) (va_runS (As := As.map (mn_v E)) (n := n) ⟨X.1, X.2.1, X.2.2.1, X.own, X.hts⟩ (mn_met ok.1 hlen hM) ⟨callB_of n X.hts (mn_wd_good ok.1) rfl rfl rfl (X.hts _ ok.1.2.2.1) (X.hts _ lk) ⟨ok.1.2.2.2.1.1, ok.1.2.2.2.1.2, ok.1.2.2.2.2⟩ ⟨Nat.le_trans r1 R1, Nat.le_trans r2 R2⟩, X.hts _ ok.2⟩ ⟨mn_Pc.blind, mn_pre X Y _⟩ rfl (by rw [List.length_map]; exact hn) hl.1 (by simp) (lv_room (by rw [mn_cats]; exact hcat)) hdg ⟨by omega, by omega⟩) Y.2.2.2 (fun v g' H1 locs1 hq hY => ?_)
  rw [mn_opt]
  exact k v g' hq p e s m args below meth c H1 locs1 _ _ lsr R X hY hl ⟨R1, R2, by omega, by omega⟩
theorem mn_callSN {host : String} {stk : List Value} (ok : mn_okS M' n) (lk : Cond.methodLinkNest M.1.cls i M'.1 host ∈ mn_NW) (hdg : decode M.2.1 pc = .ok (.invokestatic i, 3)) (hs : stk = As.reverse ++ st) (hn : As.length = n) (hlen : (lg_sl As).length ≤ M'.2.2.1) (hcat : (st.map fun v => v.category).sum ≤ 8) (hrm : mn_rm M' d w nc ns d' w' nc' ns')
    (hM : mn_R E M' d' w' nc' ns' 0 (lv_args 0 As) [] g Q') (k : ∀ v g', Q' v g' → mn_R E M d w (nc - nc') (ns - ns') (pc + 3) ls (v.toList ++ st) g' Q) : mn_R E M d w nc ns pc ls stk g Q := by
  intro p e s m args below meth c H locs cells slots lsr R X Y hl hr
  subst hs
  obtain ⟨r1, r2, r3, r4⟩ := hrm
  obtain ⟨R1, R2, R3, R4⟩ := id hr
  refine mn_back (rest := st.map (mn_v E)) (va_runSN (As := As.map (mn_v E)) (n := n) ⟨X.1, X.2.1, X.2.2.1, X.own, X.hts⟩ (mn_met ok.1 hlen hM) ⟨va_cnB n X.hts (mn_wd_good ok.1) rfl rfl rfl (X.K.2 _ lk) (X.hts _ ok.1.2.2.1) ⟨ok.1.2.2.2.1.1, ok.1.2.2.2.1.2, ok.1.2.2.2.2⟩ ⟨Nat.le_trans r1 R1, Nat.le_trans r2 R2⟩, X.hts _ ok.2, trivial⟩ ⟨mn_Pc.blind, mn_pre X Y _⟩ rfl (by rw [List.length_map]; exact hn) hl.1 (by simp) (lv_room (by rw [mn_cats]; exact hcat)) hdg ⟨by omega, by omega⟩) Y.2.2.2 (fun v g' H1 locs1 hq hY => ?_)
  rw [mn_opt]
  exact k v g' hq p e s m args below meth c H1 locs1 _ _ lsr R X hY hl ⟨R1, R2, by omega, by omega⟩
theorem mn_callI {stk : List Value} (ok : mn_okI M' n) (lk : Cond.methodLink M.1.cls i M'.1 ∈ mn_W) (hdg : decode M.2.1 pc = .ok (.invokespecial i, 3)) (hs : stk = As.reverse ++ .ref a :: st) (hn : As.length = n) (hlen : (lg_sl (.ref a :: As)).length ≤ M'.2.2.1) (hcat : (st.map fun v => v.category).sum ≤ 8) (hrm : mn_rm M' d w nc ns d' w' nc' ns')
    (hM : mn_R E M' d' w' nc' ns' 0 (lv_args 0 (.ref a :: As)) [] g Q') (k : ∀ v g', Q' v g' → mn_R E M d w (nc - nc') (ns - ns') (pc + 3) ls (v.toList ++ st) g' Q) : mn_R E M d w nc ns pc ls stk g Q := by
  intro p e s m args below meth c H locs cells slots lsr R X Y hl hr
  subst hs
  obtain ⟨r1, r2, r3, r4⟩ := hrm
  obtain ⟨R1, R2, R3, R4⟩ := id hr
  refine mn_back (rest := st.map (mn_v E)) (va_runI (As := As.map (mn_v E)) (b := mn_ad E a) (n := n) ⟨X.1, X.2.1, X.2.2.1, X.own, X.hts⟩ (mn_met ok.1 hlen hM) (cwI n X.hts (mn_wd_good ok.1) (by rw [← ok.2.2.2]; rfl) rfl rfl (X.hts _ ok.1.2.2.1) (X.hts _ lk) (X.hts _ ok.2.2.1) ok.2.1 ⟨ok.1.2.2.2.1.1, ok.1.2.2.2.1.2, ok.1.2.2.2.2⟩ ⟨Nat.le_trans r1 R1, Nat.le_trans r2 R2⟩) ⟨mn_Pc.blind, mn_pre X Y _⟩ rfl (by rw [List.length_map]; exact hn) hl.1 (by simp [mn_v]) (lv_room (by rw [mn_cats]; exact hcat)) hdg ⟨by omega, by omega⟩) Y.2.2.2 (fun v g' H1 locs1 hq hY => ?_)
  rw [mn_opt]
  exact k v g' hq p e s m args below meth c H1 locs1 _ _ lsr R X hY hl ⟨R1, R2, by omega, by omega⟩
theorem mn_callIN {host : String} {stk : List Value} (ok : mn_okI M' n) (lk : Cond.methodLinkNest M.1.cls i M'.1 host ∈ mn_NW) (hdg : decode M.2.1 pc = .ok (.invokespecial i, 3)) (hs : stk = As.reverse ++ .ref a :: st) (hn : As.length = n) (hlen : (lg_sl (.ref a :: As)).length ≤ M'.2.2.1) (hcat : (st.map fun v => v.category).sum ≤ 8) (hrm : mn_rm M' d w nc ns d' w' nc' ns')
    (hM : mn_R E M' d' w' nc' ns' 0 (lv_args 0 (.ref a :: As)) [] g Q') (k : ∀ v g', Q' v g' → mn_R E M d w (nc - nc') (ns - ns') (pc + 3) ls (v.toList ++ st) g' Q) : mn_R E M d w nc ns pc ls stk g Q := by
  intro p e s m args below meth c H locs cells slots lsr R X Y hl hr
  subst hs
  obtain ⟨r1, r2, r3, r4⟩ := hrm
  obtain ⟨R1, R2, R3, R4⟩ := id hr
  refine mn_back (rest := st.map (mn_v E)) (va_runIN (As := As.map (mn_v E)) (b := mn_ad E a) (n := n) ⟨X.1, X.2.1, X.2.2.1, X.own, X.hts⟩ (mn_met ok.1 hlen hM) ⟨va_cnB n X.hts (mn_wd_good ok.1) (by rw [← ok.2.2.2]; rfl) rfl rfl (X.K.2 _ lk) (X.hts _ ok.1.2.2.1) ⟨ok.1.2.2.2.1.1, ok.1.2.2.2.1.2, ok.1.2.2.2.2⟩ ⟨Nat.le_trans r1 R1, Nat.le_trans r2 R2⟩, ok.2.1, X.hts _ ok.2.2.1⟩ ⟨mn_Pc.blind, mn_pre X Y _⟩ rfl (by rw [List.length_map]; exact hn) hl.1 (by simp [mn_v]) (lv_room (by rw [mn_cats]; exact hcat)) hdg ⟨by omega, by omega⟩) Y.2.2.2 (fun v g' H1 locs1 hq hY => ?_)
  rw [mn_opt]
  exact k v g' hq p e s m args below meth c H1 locs1 _ _ lsr R X hY hl ⟨R1, R2, by omega, by omega⟩
theorem mn_objInit (lk : Cond.methodLink M.1.cls i Lib.objectInit ∈ mn_W) (hin : Cond.instanceMethod Lib.objectInit ∈ mn_W) (hco : Cond.code Lib.objectInit ⟨#[0xb1]⟩ 1 none ∈ mn_W) (hdg : decode M.2.1 pc = .ok (.invokespecial i, 3)) (hcat : (st.map fun v => v.category).sum ≤ 8) (hd : 1 ≤ d) (hw : 20 ≤ w) (k : mn_R E M d w nc ns (pc + 3) ls st g Q) : mn_R E M d w nc ns pc ls (.ref a :: st) g Q := by
  intro p e s m args below meth c H locs cells slots lsr R X Y hl hr
  refine W.objInit X.1 X.2.1 X.own (X.hts _ lk) (X.hts _ hin) (X.hts _ hco) rfl (hl.1.trans X.2.2.1.symm) rfl hdg (Nat.le_trans hd hr.1) ?_ (k p e s m args below meth c H locs cells slots lsr R X Y hl hr)
  have := hr.2.1
  show 2 * 0 + _ + 12 ≤ _
  rw [mn_cats]
  omega
theorem mn_get {C : String} {T : u_T} {N : Nat} {ty : Nat → FieldType} {fs : List Value} {v : Value} (oc : mn_okC ci C T N ty) (k0 : Nat) (lk : Cond.fieldLink M.1.cls i (T k0).1 (T k0).2.1 (T k0).2.2.1 ∈ mn_W) (hk : k0 < N) (hat : mn_at g a (.inr (ci, fs))) (hv : fs[k0]? = some v) (hdg : decode M.2.1 pc = .ok (.getfield i, 3)) (k : mn_R E M d w nc ns (pc + 3) ls (v :: st) g Q) : mn_R E M d w nc ns pc ls (.ref a :: st) g Q :=
  fun p e s m args below meth c H locs cells slots lsr R X Y hl hr => va_get (v := mn_v E v) (fs := fs.map (mn_v E)) X.1 X.2.1 X.hts oc.2.1 X.own X.K.1 Y.1 (a - 1) (mn_ws_get hat) oc.1 k0 hk (X.hts _ lk) (fun _ h => h) (by rw [List.getElem?_map, hv]; rfl) hdg (k p e s m args below meth c H locs cells slots lsr R X Y hl hr)
theorem mn_getN {host : String} {C : String} {T : u_T} {N : Nat} {ty : Nat → FieldType} {fs : List Value} {v : Value} (oc : mn_okC ci C T N ty) (k0 : Nat) (lk : Cond.fieldLinkNest M.1.cls i (T k0).1 (T k0).2.1 (T k0).2.2.1 host ∈ mn_NW) (hk : k0 < N) (hat : mn_at g a (.inr (ci, fs))) (hv : fs[k0]? = some v) (hdg : decode M.2.1 pc = .ok (.getfield i, 3)) (k : mn_R E M d w nc ns (pc + 3) ls (v :: st) g Q) : mn_R E M d w nc ns pc ls (.ref a :: st) g Q :=
  fun p e s m args below meth c H locs cells slots lsr R X Y hl hr => va_getN (v := mn_v E v) (fs := fs.map (mn_v E)) X.1 X.2.1 X.hts oc.2.1 X.own X.K.1 Y.1 (a - 1) (mn_ws_get hat) oc.1 k0 hk (va_Nw.use rfl (X.K.2 _ lk)) (fun _ h => h) (by rw [List.getElem?_map, hv]; rfl) hdg (k p e s m args below meth c H locs cells slots lsr R X Y hl hr)
theorem mn_Y.set {s : State} {H1 : Heap} {locs1 : List Loc} {c0 c1 : mn_C} (hat : mn_at g a c0) (Y0 : ∃ H locs, mn_Y E g s H locs) (hP : va_P E.2.1 vwCl ((mn_ws E g).set (a - 1) (mn_ad E a, mn_E E c1)) H1) (hz : H1.size = mn_Z E + g.1) (hS : va_S (mn_F E) s.heap H1 locs1) : mn_Y E (mn_set g a c1) s H1 locs1 := by
  obtain ⟨H, locs, Y⟩ := Y0
  rw [mn_ws_set hat] at hP
  exact ⟨hP, hz, Y.2.2.1, hS⟩
end MNCALL
end
section
/-! MINE: rows that write and make -/
theorem mn_v_def (E : mn_En) (t : FieldType) : mn_v E (defaultValue t) = defaultValue t := by cases t <;> rfl
section MNPUT
variable {E : mn_En} {M : mn_M} {d w nc ns pc i a ci : Nat} {ls : List (Nat × Value)} {st : List Value} {g : mn_H} {Q : Option Value → mn_H → Prop}
theorem mn_in {c0 : mn_C} (hat : mn_at g a c0) : mn_F E (mn_ad E a) := by
  show mn_Z E < mn_ad E a
  rw [mn_ad_pos hat.1]
  have := hat.1
  omega
theorem mn_putf {C : String} {T : u_T} {N : Nat} {ty : Nat → FieldType} {fs : List Value} {v : Value} (oc : mn_okC ci C T N ty) (k0 : Nat) (lk : Cond.fieldLink M.1.cls i (T k0).1 (T k0).2.1 (T k0).2.2.1 ∈ mn_W) (hk : k0 < N) (hfin : (T k0).2.2.2 = false) (hat : mn_at g a (.inr (ci, fs))) (hn : narrow (ty k0) (mn_v E v) = mn_v E v) (hf : fits (ty k0) (mn_v E v) = true) (hlen : k0 < fs.length) (hdg : decode M.2.1 pc = .ok (.putfield i, 3))
    (k : mn_R E M d w nc ns (pc + 3) ls st (mn_set g a (.inr (ci, fs.set k0 v))) Q) : mn_R E M d w nc ns pc ls (v :: .ref a :: st) g Q := by
  intro p e s m args below meth c H locs cells slots lsr R X Y hl hr
  have hts := X.hts
  have hap := va_apart (own := M.1.cls) hts oc.2.1 ty oc.2.2.1 oc.2.2.2 X.K.1 oc.1
  obtain ⟨r, h1, cell, q1, q2, q3, q4⟩ := Y.1 (a - 1) _ (mn_ws_get hat)
  have hr' : r = (C, T, N) := Option.some.inj (h1.symm.trans oc.1)
  subst hr'
  obtain ⟨hS, hfc, kC, hkC, hkind⟩ := X.K.1.1 ci _ oc.1
  obtain ⟨cf, kf, fi, f, hi, hsl⟩ := hS k0 hk
  have hlay := hts _ (oc.2.1 _ (u_in_lay hk))
  unfold u_lay at hlay
  rw [if_neg (by rw [hfin]; decide)] at hlay
  have hst := (u_facts hfc hkC (u_lays hts oc.2.1 hk) hi).1
  have h6 := u_store hfc hkC hkind hlay hi (oc.2.2.1 k0 hk) hn hf
  refine W.putK X.1 X.2.1 (f := f) ⟨X.own, hts _ lk, ⟨_, _, _, hi⟩, hst⟩ (by rw [q2]; exact h6) q1 q3 (by rw [hsl]; exact k2_hasslot (q4 k0 hk)) rfl rfl hdg fun H' e1 e2 e3 => ?_
  rw [hsl] at e1 ⊢
  have hP' := (Y.1).set (e := mn_E E (.inr (ci, fs.set k0 v))) mn_ws_D (mn_ws_get hat) ⟨_, oc.1, t_OB.to (V := updV (vp_V (fs.map (mn_v E))) k0 (mn_v E v)) ⟨_, e1, q2, q3, t_set q4 hap hk (mn_v E v)⟩ (fun j _ => by
    rw [vp_updV_set (by rw [List.length_map]; exact hlen)]
    show _ = vp_V ((fs.set k0 v).map (mn_v E)) j
    rw [List.map_set])⟩ e3
  rw [mn_ws_set hat] at hP'
  exact k p e s m args below meth c H' _ cells slots lsr R X ⟨hP', e2.trans Y.2.1, Y.2.2.1, Y.2.2.2.put e2 e3 (mn_in hat)⟩ hl hr
/-- a final field, in the constructor of its class -/
theorem mn_putF {C : String} {T : u_T} {N : Nat} {ty : Nat → FieldType} {fs : List Value} {v : Value} (oc : mn_okC ci C T N ty) (k0 : Nat) (lk : Cond.fieldLink M.1.cls i (T k0).1 (T k0).2.1 (T k0).2.2.1 ∈ mn_W) (hk : k0 < N) (hfin : (T k0).2.2.2 = true) (hin : M.1.name = "<init>") (hdecl : (T k0).1 = M.1.cls) (hat : mn_at g a (.inr (ci, fs))) (hn : narrow (ty k0) (mn_v E v) = mn_v E v) (hf : fits (ty k0) (mn_v E v) = true) (hlen : k0 < fs.length) (hdg : decode M.2.1 pc = .ok (.putfield i, 3))
    (k : mn_R E M d w nc ns (pc + 3) ls st (mn_set g a (.inr (ci, fs.set k0 v))) Q) : mn_R E M d w nc ns pc ls (v :: .ref a :: st) g Q := by
  intro p e s m args below meth c H locs cells slots lsr R X Y hl hr
  have hts := X.hts
  have hap := va_apart (own := M.1.cls) hts oc.2.1 ty oc.2.2.1 oc.2.2.2 X.K.1 oc.1
  obtain ⟨r, h1, cell, q1, q2, q3, q4⟩ := Y.1 (a - 1) _ (mn_ws_get hat)
  have hr' : r = (C, T, N) := Option.some.inj (h1.symm.trans oc.1)
  subst hr'
  obtain ⟨hS, hfc, kC, hkC, hkind⟩ := X.K.1.1 ci _ oc.1
  obtain ⟨cf, kf, fi, f, hi, hsl⟩ := hS k0 hk
  have hlay := hts _ (oc.2.1 _ (u_in_lay hk))
  unfold u_lay at hlay
  rw [if_pos hfin] at hlay
  have hst := (u_facts hfc hkC (u_lays hts oc.2.1 hk) hi).1
  have hcf : m.cls = cf := by
    obtain ⟨_, _, c', _, _, _, -, -, hf', -, -, -, hown2, -⟩ := Cond.laysFinal_spec hlay
    have e1 : c' = cf := by have := hi.symm.trans hf'; simp at this; exact this.1.symm
    rw [hdecl] at hown2
    rw [← e1]; exact Option.some.inj (X.own.symm.trans hown2)
  have h6 := u_fits hfc hkC hkind (Or.inr hlay) hi (oc.2.2.1 k0 hk) hn hf
  refine W.putFinK X.1 X.2.1 X.own (hts _ lk) hi hst hcf (X.name.trans hin) (by rw [q2]; exact h6) q1 q3 (by rw [hsl]; exact k2_hasslot (q4 k0 hk)) rfl rfl hdg fun H' e1 e2 e3 => ?_
  rw [hsl] at e1 ⊢
  have hP' := (Y.1).set (e := mn_E E (.inr (ci, fs.set k0 v))) mn_ws_D (mn_ws_get hat) ⟨_, oc.1, t_OB.to (V := updV (vp_V (fs.map (mn_v E))) k0 (mn_v E v)) ⟨_, e1, q2, q3, t_set q4 hap hk (mn_v E v)⟩ (fun j _ => by
    rw [vp_updV_set (by rw [List.length_map]; exact hlen)]
    show _ = vp_V ((fs.set k0 v).map (mn_v E)) j
    rw [List.map_set])⟩ e3
  rw [mn_ws_set hat] at hP'
  exact k p e s m args below meth c H' _ cells slots lsr R X ⟨hP', e2.trans Y.2.1, Y.2.2.1, Y.2.2.2.put e2 e3 (mn_in hat)⟩ hl hr
theorem mn_iald {t n : Nat} {f : Nat → Int32} {j : Int32} (hat : mn_at g a (.inl (t, n, .inl f))) (ht : mn_T[t]? = some .int) (hin : vp_in j n) (hdg : decode M.2.1 pc = .ok (.iaload, 1)) (k : mn_R E M d w nc ns (pc + 1) ls (.int (f j.toNatClampNeg) :: st) g Q) : mn_R E M d w nc ns pc ls (.int j :: .ref a :: st) g Q :=
  fun p e s m args below meth c H locs cells slots lsr R X Y hl hr => va_iald (n := n) (f := f) X.1 X.2.1 X.K.1 Y.1 (a - 1) t (mn_ws_get hat) (mn_ty_get ht) hin hdg (k p e s m args below meth c H locs cells slots lsr R X Y hl hr)
theorem mn_iast {t n : Nat} {f : Nat → Int32} {j x : Int32} (hat : mn_at g a (.inl (t, n, .inl f))) (ht : mn_T[t]? = some .int) (hin : vp_in j n) (hdg : decode M.2.1 pc = .ok (.iastore, 1)) (k : mn_R E M d w nc ns (pc + 1) ls st (mn_set g a (.inl (t, n, .inl (upd f j.toNatClampNeg x)))) Q) : mn_R E M d w nc ns pc ls (.int x :: .int j :: .ref a :: st) g Q := by
  intro p e s m args below meth c H locs cells slots lsr R X Y hl hr
  have hc : H[mn_ad E a]? = some (vp_cell (E.2.2.1 t) (n, .inl f)) := Y.1 (a - 1) _ (mn_ws_get hat)
  refine W.iast X.1 X.2.1 hc ((X.K.1.2 t _ (mn_ty_get ht)).1 n (fun j => .int (f j))) (fun q => by cases q) (by show ¬ (j < 0 ∨ (arrV _ _ _).slots.size ≤ _); rw [arrV_size]; exact hin) rfl rfl hdg fun H1 e1 z oq => ?_
  have hP' := (Y.1).set (e := mn_E E (.inl (t, n, .inl (upd f j.toNatClampNeg x)))) mn_ws_D (mn_ws_get hat) (by
    show H1[mn_ad E a]? = some (vp_cell (E.2.2.1 t) (n, .inl (upd f j.toNatClampNeg x)))
    rw [e1, vp_cell_i, vp_cell_i, arrV_store]
    congr 2
    funext q
    by_cases hq : q = j.toNatClampNeg
    · subst hq
      simp [updV, upd]
    · simp [updV, upd, hq]) oq
  rw [mn_ws_set hat] at hP'
  exact k p e s m args below meth c H1 _ cells slots lsr R X ⟨hP', z.trans Y.2.1, Y.2.2.1, Y.2.2.2.put z oq (mn_in hat)⟩ hl hr
theorem mn_alen {t n : Nat} {x : (Nat → Int32) ⊕ (Nat → Int64) ⊕ (Nat → UInt32) ⊕ (Nat → UInt64) ⊕ (Nat → Option Nat)} {ty : FieldType} (hat : mn_at g a (.inl (t, n, x))) (ht : mn_T[t]? = some ty) (hdg : decode M.2.1 pc = .ok (.arraylength, 1)) (k : mn_R E M d w nc ns (pc + 1) ls (.int (nI n) :: st) g Q) : mn_R E M d w nc ns pc ls (.ref a :: st) g Q :=
  fun p e s m args below meth c H locs cells slots lsr R X Y hl hr => va_alen (v := nI n) X.1 X.2.1 X.K.1 Y.1 (a - 1) t (mn_ws_get hat) (mn_ty_get ht) rfl hdg (k p e s m args below meth c H locs cells slots lsr R X Y hl hr)
/-- a reference out of an array; y is the cell that lies there -/
theorem mn_aald {t n y : Nat} {f : Nat → Option Nat} {j : Int32} {ty : FieldType} (hat : mn_at g a (.inl (t, n, .inr (.inr (.inr (.inr f)))))) (ht : mn_T[t]? = some ty) (hty : ty.isReference = true) (hin : vp_in j n) (hy : f j.toNatClampNeg = some y) (hdg : decode M.2.1 pc = .ok (.aaload, 1)) (k : mn_R E M d w nc ns (pc + 1) ls (.ref y :: st) g Q) : mn_R E M d w nc ns pc ls (.int j :: .ref a :: st) g Q := by
  intro p e s m args below meth c H locs cells slots lsr R X Y hl hr
  have hlt : j.toNatClampNeg < n := Nat.not_le.mp fun q => hin (Or.inr q)
  have hc : H[mn_ad E a]? = some (vp_cell (E.2.2.1 t) (n, .inr (.inr (.inr (.inr (fun i => (f i).map (mn_ad E))))))) := Y.1 (a - 1) _ (mn_ws_get hat)
  exact W.aald (v := .ref (mn_ad E y)) (ty := ty) X.1 X.2.1 hc ((X.K.1.2 t _ (mn_ty_get ht)).1 n (fun j => va_rf ((f j).map (mn_ad E)))) hty (fun q => by cases q) (by show ¬ (j < 0 ∨ (arrV _ _ _).slots.size ≤ _); rw [arrV_size]; exact hin) (by show (arrV _ _ _).slots[_]? = _; rw [arrV_read _ _ hlt]; show some (va_rf ((f j.toNatClampNeg).map (mn_ad E))) = _; rw [hy]; rfl) rfl rfl hdg (k p e s m args below meth c H locs cells slots lsr R X Y hl hr)
/-- a reference into an array of references to objects -/
theorem mn_aast {t n y : Nat} {r : vw_C} {f : Nat → Option Nat} {vs : List Value} {j : Int32} (hat : mn_at g a (.inl (t, n, .inr (.inr (.inr (.inr f)))))) (hc : vwCl[ci]? = some r) (ht : mn_T[t]? = some (.object r.1)) (hav : mn_at g y (.inr (ci, vs))) (hin : vp_in j n) (hdg : decode M.2.1 pc = .ok (.aastore, 1)) (k : mn_R E M d w nc ns (pc + 1) ls st (mn_set g a (.inl (t, n, .inr (.inr (.inr (.inr (va_up f j.toNatClampNeg (some y)))))))) Q) : mn_R E M d w nc ns pc ls (.ref y :: .int j :: .ref a :: st) g Q := by
  intro p e s m args below meth c H locs cells slots lsr R X Y hl hr
  have hlt : j.toNatClampNeg < n := Nat.not_le.mp fun q => hin (Or.inr q)
  have h0 : ¬ j < 0 := fun q => hin (Or.inl q)
  obtain ⟨r', hr', cellV, g1, g2, g3, -⟩ := Y.1 (y - 1) _ (mn_ws_get hav)
  have hcl := (X.K.1.1 ci r hc).2
  obtain ⟨kA, comp, k1, k2, k3, -⟩ := (X.K.1.2 t _ (mn_ty_get ht)).2
  have hcomp : comp = E.2.1.1 ci := Option.some.inj (k3.symm.trans hcl.1)
  subst hcomp
  obtain ⟨kC, hkC, -⟩ := hcl.2
  have hcc : H[mn_ad E a]? = some (vp_cell (E.2.2.1 t) (n, .inr (.inr (.inr (.inr (fun i => (f i).map (mn_ad E))))))) := Y.1 (a - 1) _ (mn_ws_get hat)
  refine W.aast X.1 X.2.1 hcc (fun q h => by cases h) (fun h => by cases h) k1 k2 rfl hkC ⟨h0, by show _ < (arrV _ _ _).slots.size; rw [arrV_size]; exact hlt⟩ g1 (fun q h => by rw [g3] at h; cases h) (by rw [g2]; exact hkC) (by rw [g2]; exact va_assign hcl) rfl rfl hdg fun H1 e1 z oq => ?_
  have hP' := (Y.1).set (e := mn_E E (.inl (t, n, .inr (.inr (.inr (.inr (va_up f j.toNatClampNeg (some y)))))))) mn_ws_D (mn_ws_get hat) (by
    show H1[mn_ad E a]? = some (vp_cell (E.2.2.1 t) (n, .inr (.inr (.inr (.inr (fun i => (va_up f j.toNatClampNeg (some y) i).map (mn_ad E)))))))
    rw [e1, vp_cell_q, vp_cell_q, arrV_store]
    congr 2
    funext q
    by_cases hq : q = j.toNatClampNeg
    · subst hq
      simp [updV, va_up, va_rf]
    · simp [updV, va_up, hq]) oq
  rw [mn_ws_set hat] at hP'
  exact k p e s m args below meth c H1 _ cells slots lsr R X ⟨hP', z.trans Y.2.1, Y.2.2.1, Y.2.2.2.put z oq (mn_in hat)⟩ hl hr
/-- the script -/
theorem mn_sld {j : Int32} (hin : vp_in j E.2.2.2.2.2.1) (hdg : decode M.2.1 pc = .ok (.iaload, 1)) (k : mn_R E M d w nc ns (pc + 1) ls (.int (E.2.2.2.2.2.2 j.toNatClampNeg) :: st) g Q) : mn_R E M d w nc ns pc ls (.int j :: .ref 0 :: st) g Q :=
  fun p e s m args below meth c H locs cells slots lsr R X Y hl hr => va_sld X.1 X.2.1 X.scr.1 (Nat.lt_of_le_of_lt X.scr.2.1 X.scr.2.2) (Nat.not_lt.mpr X.scr.2.1) Y.2.2.2 hin hdg (k p e s m args below meth c H locs cells slots lsr R X Y hl hr)
theorem mn_slen (hdg : decode M.2.1 pc = .ok (.arraylength, 1)) (k : mn_R E M d w nc ns (pc + 1) ls (.int (nI E.2.2.2.2.2.1) :: st) g Q) : mn_R E M d w nc ns pc ls (.ref 0 :: st) g Q :=
  fun p e s m args below meth c H locs cells slots lsr R X Y hl hr => va_slen X.1 X.2.1 X.scr.1 (Nat.lt_of_le_of_lt X.scr.2.1 X.scr.2.2) (Nat.not_lt.mpr X.scr.2.1) Y.2.2.2 hdg (k p e s m args below meth c H locs cells slots lsr R X Y hl hr)
/-- a world with one cell more -/
theorem mn_Y.push {s : State} {H H1 : Heap} {locs : List Loc} {c1 : mn_C} (Y : mn_Y E g s H locs) (z : H1.size = H.size + 1) (oq : ∀ q : Nat, q < H.size → H1[q]? = H[q]?) (hc : va_at E.2.1 vwCl (mn_Z E + g.1, mn_E E c1) H1) : mn_Y E (mn_push g c1) s H1 locs := by
  obtain ⟨hP, hz, h0, hS⟩ := Y
  refine ⟨?_, ?_, Nat.succ_pos _, Nat.le_trans hS.1 (by omega), fun q g1 g2 => (oq q (Nat.lt_of_lt_of_le g1 hS.1)).trans (hS.2.1 q g1 g2), hS.2.2⟩
  · rw [mn_ws_push h0]
    refine va_P.app (hP.kept fun k q hk => oq q.1 (hP k q hk).lt) ?_
    intro k q hk
    have hk1 : k < 1 := (List.getElem?_eq_some_iff.mp hk).1
    rw [show k = 0 by omega] at hk
    cases hk
    exact hc
  · show H1.size = mn_Z E + (g.1 + 1)
    omega
theorem mn_new {C : String} {T : u_T} {N : Nat} {ty : Nat → FieldType} (oc : mn_okC ci C T N ty) (fs : List Value) (lk : Cond.classLink M.1.cls i C ∈ mn_W) (hi : Cond.instantiable C N ∈ mn_W) (hini : Cond.initialized C ∈ mn_W) (hfs : (List.range N).map (fun j => defaultValue (ty j)) = fs) (hc1 : 1 ≤ nc) (hs1 : N ≤ ns) (hdg : decode M.2.1 pc = .ok (.new i, 3))
    (k : mn_R E M d w (nc - 1) (ns - N) (pc + 3) ls (.ref g.1 :: st) (mn_push g (.inr (ci, fs))) Q) : mn_R E M d w nc ns pc ls st g Q := by
  intro p e s m args below meth c H locs cells slots lsr R X Y hl hr
  obtain ⟨R1, R2, R3, R4⟩ := id hr
  have hKn := X.K.1.1 ci _ oc.1
  refine W.newcK X.1 X.2.1 X.own (X.hts _ lk) (X.hts _ hi) (X.hts _ hini) rfl hdg (by omega) (by omega) hKn.2.1 Y.2.1 fun H1 kC hkC e1 z1 o1 => ?_
  have hb := u_born ty X.hts oc.2.1 hKn hkC e1 oc.2.2.1
  have hY : mn_Y E (mn_push g (.inr (ci, fs))) s H1 locs := Y.push (by rw [z1, Y.2.1]) (by rw [Y.2.1]; exact o1) ⟨_, oc.1, hb.to (fun j hj => by
    subst hfs
    show _ = vp_V (((List.range N).map (fun j => defaultValue (ty j))).map (mn_v E)) j
    unfold vp_V
    rw [List.getD_eq_getElem?_getD, List.getElem?_map, List.getElem?_map, List.getElem?_range hj]
    show _ = mn_v E (defaultValue (ty j))
    rw [mn_v_def])⟩
  have hk := k p e s m args below meth c H1 locs (cells + 1) (slots + N) lsr R X hY hl ⟨R1, R2, by omega, by omega⟩
  rw [← mn_ad_pos (E := E) Y.2.2.1]
  exact hk
theorem mn_newa {t N : Nat} {n : Int32} (ht : mn_T[t]? = some .int) (harr : Cond.arrayClass .int ∈ mn_W) (hn : ¬ n < 0) (hN : n.toNatClampNeg = N) (hby : N * 4 ≤ 536870912) (hc1 : 1 ≤ nc) (hs1 : N ≤ ns) (hdg : decode M.2.1 pc = .ok (.newarray .int, 2))
    (k : mn_R E M d w (nc - 1) (ns - N) (pc + 2) ls (.ref g.1 :: st) (mn_push g (.inl (t, N, .inl (fun _ => 0)))) Q) : mn_R E M d w nc ns pc ls (.int n :: st) g Q := by
  intro p e s m args below meth c H locs cells slots lsr R X Y hl hr
  obtain ⟨R1, R2, R3, R4⟩ := id hr
  refine va_newaK X.1 X.2.1 (atype := .int) (X.hts _ harr) rfl hdg rfl hn hN hby (by omega) (by omega) Y.2.1 fun H1 cA e1 z1 o1 hAr hNm => ?_
  have hid : E.2.2.1 t = cA := by
    have h1 : s.vm.findClass ("[" ++ (FieldType.int).toString) = some (E.2.2.1 t) := (X.K.1.2 t _ (mn_ty_get ht)).2
    exact Option.some.inj (h1.symm.trans hNm)
  have hY : mn_Y E (mn_push g (.inl (t, N, .inl (fun _ => 0)))) s H1 locs := Y.push (by rw [z1, Y.2.1]) (by rw [Y.2.1]; exact o1) (by
    show H1[mn_Z E + g.1]? = some (vp_cell (E.2.2.1 t) (N, .inl (fun _ => 0)))
    rw [hid]
    exact e1)
  have hk := k p e s m args below meth c H1 locs (cells + 1) (slots + N) lsr R X hY hl ⟨R1, R2, by omega, by omega⟩
  rw [← mn_ad_pos (E := E) Y.2.2.1]
  exact hk
theorem mn_newq {t N : Nat} {C : String} {n : Int32} (ht : mn_T[t]? = some (.object C)) (lk : Cond.classLink M.1.cls i C ∈ mn_W) (hov : Cond.arrayOver (.object C) ∈ mn_NW) (hn : ¬ n < 0) (hN : n.toNatClampNeg = N) (hby : N * 4 ≤ 536870912) (hc1 : 1 ≤ nc) (hs1 : N ≤ ns) (hdg : decode M.2.1 pc = .ok (.anewarray i, 3))
    (k : mn_R E M d w (nc - 1) (ns - N) (pc + 3) ls (.ref g.1 :: st) (mn_push g (.inl (t, N, .inr (.inr (.inr (.inr (fun _ => none))))))) Q) : mn_R E M d w nc ns pc ls (.int n :: st) g Q := by
  intro p e s m args below meth c H locs cells slots lsr R X Y hl hr
  obtain ⟨R1, R2, R3, R4⟩ := id hr
  subst hN
  refine W.anew X.1 X.2.1 X.own (X.hts _ lk) (va_AO.use (X.K.2 _ hov)) rfl hdg rfl hn hby (by omega) (by omega) fun cA kA comp f1 f2 f3 f4 => ?_
  have hid : E.2.2.1 t = cA := by
    obtain ⟨_, _, _, _, _, h1⟩ := (X.K.1.2 t _ (mn_ty_get ht)).2
    exact Option.some.inj (h1.symm.trans f1)
  generalize hH1 : H.push ({ cls := cA, slots := Array.replicate n.toNatClampNeg .null, vm := .none } : Cell) = H1
  have z1 : H1.size = H.size + 1 := by rw [← hH1, Array.size_push]
  have e1 : H1[H.size]? = some (arrV cA n.toNatClampNeg (fun _ => .null)) := by rw [← hH1, Array.getElem?_push_size, ← arrV_new]
  have o1 : ∀ q : Nat, q < H.size → H1[q]? = H[q]? := fun q hq => by rw [← hH1, Array.getElem?_push, if_neg (Nat.ne_of_lt hq)]
  have hY : mn_Y E (mn_push g (.inl (t, n.toNatClampNeg, .inr (.inr (.inr (.inr (fun _ => none))))))) s H1 locs := Y.push z1 o1 (by
    show H1[mn_Z E + g.1]? = some (vp_cell (E.2.2.1 t) (n.toNatClampNeg, .inr (.inr (.inr (.inr (fun _ => none))))))
    rw [hid, ← Y.2.1]
    exact e1)
  have hk := k p e s m args below meth c H1 locs (cells + 1) (slots + n.toNatClampNeg) lsr R X hY hl ⟨R1, R2, by omega, by omega⟩
  rw [Y.2.1, ← mn_ad_pos (E := E) Y.2.2.1]
  exact hk
theorem mn_max {x y z : Int32} (hv : (if x < y then y else x) = z) (lk : Cond.methodLink M.1.cls i Lib.Math.max.name ∈ mn_W) (hst : Cond.static Lib.Math.max.name ∈ mn_W) (hin : Cond.initialized "java/lang/Math" ∈ mn_W) (hco : Cond.code Lib.Math.max.name Lib.Math.max.code 2 (some .int) ∈ mn_W) (hcat : (st.map fun v => v.category).sum ≤ 8) (hd : 1 ≤ d) (hw : 21 ≤ w) (hdg : decode M.2.1 pc = .ok (.invokestatic i, 3)) (k : mn_R E M d w nc ns (pc + 3) ls (.int z :: st) g Q) : mn_R E M d w nc ns pc ls (.int y :: .int x :: st) g Q := by
  subst hv
  intro p e s m args below meth c H locs cells slots lsr R X Y hl hr
  obtain ⟨R1, R2, R3, R4⟩ := id hr
  exact va_mmax X.1 X.2.1 (X.2.2.1.trans hl.1.symm) X.own (X.hts _ lk) (X.hts _ hst) (X.hts _ hin) (X.hts _ hco) (by omega) (by rw [mn_cats]; omega) (by omega) (by omega) hdg (k p e s m args below meth c H locs cells slots lsr R X Y hl hr)
theorem mn_min {x y z : Int32} (hv : (if y < x then y else x) = z) (lk : Cond.methodLink M.1.cls i Lib.Math.min.name ∈ mn_W) (hst : Cond.static Lib.Math.min.name ∈ mn_W) (hin : Cond.initialized "java/lang/Math" ∈ mn_W) (hco : Cond.code Lib.Math.min.name Lib.Math.min.code 2 (some .int) ∈ mn_W) (hcat : (st.map fun v => v.category).sum ≤ 8) (hd : 1 ≤ d) (hw : 21 ≤ w) (hdg : decode M.2.1 pc = .ok (.invokestatic i, 3)) (k : mn_R E M d w nc ns (pc + 3) ls (.int z :: st) g Q) : mn_R E M d w nc ns pc ls (.int y :: .int x :: st) g Q := by
  subst hv
  intro p e s m args below meth c H locs cells slots lsr R X Y hl hr
  obtain ⟨R1, R2, R3, R4⟩ := id hr
  exact va_mmin X.1 X.2.1 (X.2.2.1.trans hl.1.symm) X.own (X.hts _ lk) (X.hts _ hst) (X.hts _ hin) (X.hts _ hco) (by omega) (by rw [mn_cats]; omega) (by omega) (by omega) hdg (k p e s m args below meth c H locs cells slots lsr R X Y hl hr)
/-- System.arraycopy over arrays of ints -/
theorem mn_copy {a0 t n0 n1 : Nat} {f0 f1 : Nat → Int32} {sp dp n : Int32} (lk : Cond.methodLink M.1.cls i arraycopyName ∈ mn_W) (hnat : Cond.native arraycopyName ∈ mn_W) (hst : Cond.static arraycopyName ∈ mn_W) (hini : Cond.initialized "java/lang/System" ∈ mn_W) (ht : mn_T[t]? = some .int) (hat0 : mn_at g a0 (.inl (t, n0, .inl f0))) (hat : mn_at g a (.inl (t, n1, .inl f1)))
    (h1 : ¬ sp < 0) (h2 : ¬ dp < 0) (h3 : ¬ n < 0) (h4 : sp.toNatClampNeg + n.toNatClampNeg ≤ n0) (h5 : dp.toNatClampNeg + n.toNatClampNeg ≤ n1) (hcat : (st.map fun v => v.category).sum ≤ 8) (hd : 1 ≤ d) (hw : 26 ≤ w) (hdg : decode M.2.1 pc = .ok (.invokestatic i, 3))
    (k : mn_R E M d w nc ns (pc + 3) ls st (mn_set g a (.inl (t, n1, .inl (va_cpy f0 f1 sp.toNatClampNeg dp.toNatClampNeg n.toNatClampNeg)))) Q) : mn_R E M d w nc ns pc ls (.int n :: .int dp :: .ref a :: .int sp :: .ref a0 :: st) g Q := by
  intro p e s m args below meth c H locs cells slots lsr R X Y hl hr
  obtain ⟨R1, R2, R3, R4⟩ := id hr
  have nn : ∀ z : Int32, ¬ z < 0 → z.toInt = (z.toNatClampNeg : Int) := by
    intro z hz
    have hz0 : (0 : Int) ≤ z.toInt := by
      have := Int32.not_lt.mp hz
      simpa using Int32.le_iff_toInt_le.mp this
    show z.toInt = ((z.toInt.toNat : Nat) : Int)
    omega
  intro T hT XX
  have hc0 : H[mn_ad E a0]? = some (vp_cell (E.2.2.1 t) (n0, .inl f0)) := Y.1 (a0 - 1) _ (mn_ws_get hat0)
  have hc1 : H[mn_ad E a]? = some (vp_cell (E.2.2.1 t) (n1, .inl f1)) := Y.1 (a - 1) _ (mn_ws_get hat)
  obtain ⟨-, k0, hk0, cm0, hkk0⟩ := (X.K.1.2 t _ (mn_ty_get ht)).1 n0 (fun j => .int (f0 j))
  obtain ⟨-, k1, hk1, cm1, hkk1⟩ := (X.K.1.2 t _ (mn_ty_get ht)).1 n1 (fun j => .int (f1 j))
  obtain ⟨vm', X', step⟩ := XX.arraycopy X.1 X.own (X.hts _ lk) (X.hts _ hnat) (X.hts _ hst) (X.hts _ hini) (src := mn_ad E a0) (dst := mn_ad E a) (cs := vp_cell (E.2.2.1 t) (n0, .inl f0)) (cd := vp_cell (E.2.2.1 t) (n1, .inl f1)) (srcPos := sp) (destPos := dp) (n := n) (by rw [hT]; exact hc0) (by rw [hT]; exact hc1)
    (fun _ h => by cases h) (fun _ h => by cases h) (fun h => by cases h) (fun h => by cases h) hk0 hk1 hkk0 hkk1 rfl h1 h2 h3
    (by rw [nn sp h1, nn n h3]; show ¬ _ > ((arrV _ n0 (fun j => .int (f0 j))).slots.size : Int); rw [arrV_size]; omega)
    (by rw [nn dp h2, nn n h3]; show ¬ _ > ((arrV _ n1 (fun j => .int (f1 j))).slots.size : Int); rw [arrV_size]; omega)
    (fun vm₁ _ j hj => by
      have e : (vp_cell (E.2.2.1 t) (n0, .inl f0)).slots.getD (sp.toNatClampNeg + j) .null = .int (f0 (sp.toNatClampNeg + j)) := by
        show (arrV _ n0 (fun j => .int (f0 j))).slots.getD _ _ = _
        rw [Array.getD_eq_getD_getElem?, arrV_read _ _ (by omega)]
        rfl
      refine ⟨?_, ?_⟩
      · rw [e]
        rfl
      · rw [e]
        exact trivial)
    (g := F0 m pc lsr (.int n :: .int dp :: .ref (mn_ad E a) :: .int sp :: .ref (mn_ad E a0) :: st.map (mn_v E))) rfl (hl.1.trans X.2.2.1.symm) (rest := st.map (mn_v E)) rfl (by rw [X.2.1]; exact hdg) (by omega) (by show 2 * 0 + _ + (nativeFrameWords "java/lang/System" "arraycopy" 5 + 11) ≤ _; rw [mn_cats, show nativeFrameWords "java/lang/System" "arraycopy" 5 = 7 by decide +kernel]; omega)
  have e1 : copied (vp_cell (E.2.2.1 t) (n0, .inl f0)) (vp_cell (E.2.2.1 t) (n1, .inl f1)) sp dp n = vp_cell (E.2.2.1 t) (n1, .inl (va_cpy f0 f1 sp.toNatClampNeg dp.toNatClampNeg n.toNatClampNeg)) := va_copied (fun z => .int z) _ _ f0 f1 h4
  rw [e1] at X' step
  have hlt : mn_ad E a < H.size := (Array.getElem?_eq_some_iff.mp hc1).1
  have hheap : ((T.setVm vm').setCell (mn_ad E a) (vp_cell (E.2.2.1 t) (n1, .inl (va_cpy f0 f1 sp.toNatClampNeg dp.toNatClampNeg n.toNatClampNeg)))).heap = H.setIfInBounds (mn_ad E a) (vp_cell (E.2.2.1 t) (n1, .inl (va_cpy f0 f1 sp.toNatClampNeg dp.toNatClampNeg n.toNatClampNeg))) := by rw [← hT]; rfl
  generalize hH1 : H.setIfInBounds (mn_ad E a) (vp_cell (E.2.2.1 t) (n1, .inl (va_cpy f0 f1 sp.toNatClampNeg dp.toNatClampNeg n.toNatClampNeg))) = H1 at hheap
  have oq : ∀ q : Nat, q ≠ mn_ad E a → H1[q]? = H[q]? := fun q hq => by rw [← hH1]; simp [Array.getElem?_setIfInBounds, Ne.symm hq]
  have z : H1.size = H.size := by rw [← hH1]; simp
  have hP' := (Y.1).set (H1 := H1) (e := mn_E E (.inl (t, n1, .inl (va_cpy f0 f1 sp.toNatClampNeg dp.toNatClampNeg n.toNatClampNeg)))) mn_ws_D (mn_ws_get hat) (by
    show H1[mn_ad E a]? = some (vp_cell _ (n1, .inl (va_cpy f0 f1 sp.toNatClampNeg dp.toNatClampNeg n.toNatClampNeg)))
    rw [← hH1]; simp [Array.getElem?_setIfInBounds, hlt]) oq
  rw [mn_ws_set hat] at hP'
  have hS := Y.2.2.2
  obtain ⟨t2, a1, b1⟩ := k p e s m args below meth c H1 _ cells slots lsr R X ⟨hP', z.trans Y.2.1, Y.2.2.1, by rw [z]; exact hS.1, fun q g1 g2 => by
      rw [oq q (fun e => g2 (by rw [e]; exact mn_in hat))]
      exact hS.2.1 q g1 g2, fun q hq => by
      rcases List.mem_append.mp hq with h | h
      · exact hS.2.2 q h
      · obtain ⟨z, -, hz⟩ := List.mem_map.mp h
        rw [← hz]
        exact mn_in hat⟩ hl hr _ hheap X'
  exact ⟨t2, step t2 a1, b1⟩
end MNPUT
section MNNAT
variable {E : mn_En} {M : mn_M} {d w nc ns pc i a ci : Nat} {ls : List (Nat × Value)} {st : List Value} {g : mn_H} {Q : Option Value → mn_H → Prop}
theorem mn_ialdN {t n j : Nat} {f : Nat → Int32} (hat : mn_at g a (.inl (t, n, .inl f))) (ht : mn_T[t]? = some .int) (hj : j < n) (hn : n < 2 ^ 31) (hdg : decode M.2.1 pc = .ok (.iaload, 1)) (k : mn_R E M d w nc ns (pc + 1) ls (.int (f j) :: st) g Q) : mn_R E M d w nc ns pc ls (.int (nI j) :: .ref a :: st) g Q :=
  mn_iald hat ht (vp_in_nI hj hn) hdg (by rw [nI_clamp (by omega)]; exact k)
theorem mn_iastN {t n j : Nat} {f : Nat → Int32} {x : Int32} (hat : mn_at g a (.inl (t, n, .inl f))) (ht : mn_T[t]? = some .int) (hj : j < n) (hn : n < 2 ^ 31) (hdg : decode M.2.1 pc = .ok (.iastore, 1)) (k : mn_R E M d w nc ns (pc + 1) ls st (mn_set g a (.inl (t, n, .inl (upd f j x)))) Q) : mn_R E M d w nc ns pc ls (.int x :: .int (nI j) :: .ref a :: st) g Q :=
  mn_iast hat ht (vp_in_nI hj hn) hdg (by rw [nI_clamp (by omega)]; exact k)
theorem mn_aaldN {t n y j : Nat} {f : Nat → Option Nat} {ty : FieldType} (hat : mn_at g a (.inl (t, n, .inr (.inr (.inr (.inr f)))))) (ht : mn_T[t]? = some ty) (hty : ty.isReference = true) (hj : j < n) (hn : n < 2 ^ 31) (hy : f j = some y) (hdg : decode M.2.1 pc = .ok (.aaload, 1)) (k : mn_R E M d w nc ns (pc + 1) ls (.ref y :: st) g Q) : mn_R E M d w nc ns pc ls (.int (nI j) :: .ref a :: st) g Q :=
  mn_aald hat ht hty (vp_in_nI hj hn) (by rw [nI_clamp (by omega)]; exact hy) hdg k
theorem mn_sldN {j : Nat} (hj : j < E.2.2.2.2.2.1) (hn : E.2.2.2.2.2.1 < 2 ^ 31) (hdg : decode M.2.1 pc = .ok (.iaload, 1)) (k : mn_R E M d w nc ns (pc + 1) ls (.int (E.2.2.2.2.2.2 j) :: st) g Q) : mn_R E M d w nc ns pc ls (.int (nI j) :: .ref 0 :: st) g Q :=
  mn_sld (vp_in_nI hj hn) hdg (by rw [nI_clamp (by omega)]; exact k)
end MNNAT
/-- an answer and a world that are known -/
def mn_is (v : Option Value) (g : mn_H) : Option Value → mn_H → Prop := fun v' g' => v' = v ∧ g' = g
section MNIS
variable {E : mn_En} {M M' : mn_M} {d w nc ns pc d' w' n i a ci : Nat} {ls : List (Nat × Value)} {st As : List Value} {g g1 : mn_H} {Q : Option Value → mn_H → Prop} {v : Option Value}
theorem mn_cV {r : vw_C} {fs stk stk' : List Value} (ok : mn_okV M' n) (lk : Cond.methodLink M.1.cls i M'.1 ∈ mn_W) (hdg : decode M.2.1 pc = .ok (.invokevirtual i, 3)) (hat : mn_at g a (.inr (ci, fs))) (hc : vwCl[ci]? = some r) (hr1 : r.1 = M'.1.cls) (hs : stk = As.reverse ++ .ref a :: st) (hn : As.length = n) (hlen : (lg_sl (.ref a :: As)).length ≤ M'.2.2.1) (hcat : (st.map fun v => v.category).sum ≤ 8) (hrm : mn_rm M' d w nc ns d' w' 0 0)
    (hM : mn_R E M' d' w' 0 0 0 (lv_args 0 (.ref a :: As)) [] g (mn_is v g1)) (hs' : v.toList ++ st = stk') (k : mn_R E M d w nc ns (pc + 3) ls stk' g1 Q) : mn_R E M d w nc ns pc ls stk g Q :=
  mn_callV ok lk hdg hat hc hr1 hs hn hlen hcat hrm hM (fun v' g' hq => by obtain ⟨rfl, rfl⟩ := hq; subst hs'; exact k)
theorem mn_cS {stk stk' : List Value} (ok : mn_okS M' n) (lk : Cond.methodLink M.1.cls i M'.1 ∈ mn_W) (hdg : decode M.2.1 pc = .ok (.invokestatic i, 3)) (hs : stk = As.reverse ++ st) (hn : As.length = n) (hlen : (lg_sl As).length ≤ M'.2.2.1) (hcat : (st.map fun v => v.category).sum ≤ 8) (hrm : mn_rm M' d w nc ns d' w' 0 0)
    (hM : mn_R E M' d' w' 0 0 0 (lv_args 0 As) [] g (mn_is v g1)) (hs' : v.toList ++ st = stk') (k : mn_R E M d w nc ns (pc + 3) ls stk' g1 Q) : mn_R E M d w nc ns pc ls stk g Q :=
  mn_callS ok lk hdg hs hn hlen hcat hrm hM (fun v' g' hq => by obtain ⟨rfl, rfl⟩ := hq; subst hs'; exact k)
end MNIS
theorem mn_lit {x M : Int32} {n : Nat} (h0 : ¬ x < 0) (h1 : ¬ M ≤ x) (hM : M.toInt = (n : Int)) : vp_in x n := vp_in_iff.mpr ⟨by
  have h := Int32.not_lt.mp h0
  simpa using Int32.le_iff_toInt_le.mp h, by
  have h := Int32.not_le.mp h1
  rw [← hM]; exact Int32.lt_iff_toInt_lt.mp h⟩
theorem mn_max0 {a : Nat} (h : a < 2 ^ 31) : (if (0 : Int32) < nI a then nI a else 0) = nI a := by
  by_cases h0 : a = 0
  · subst h0; rfl
  · exact if_pos ((nI_ltI (a := 0) (b := a) (by omega) h).mpr (by omega))
theorem mn_maxN {a b : Nat} (ha : a < 2 ^ 31) (hb : b < 2 ^ 31) : (if nI a < nI b then nI b else nI a) = nI (max a b) := by
  by_cases h : a < b
  · rw [if_pos ((nI_ltI ha hb).mpr h), Nat.max_eq_right (by omega)]
  · rw [if_neg (fun q => h ((nI_ltI ha hb).mp q)), Nat.max_eq_left (by omega)]
theorem mn_minN {a b : Nat} (ha : a < 2 ^ 31) (hb : b < 2 ^ 31) : (if nI b < nI a then nI b else nI a) = nI (min a b) := by
  by_cases h : b < a
  · rw [if_pos ((nI_ltI hb ha).mpr h), Nat.min_eq_right (by omega)]
  · rw [if_neg (fun q => h ((nI_ltI hb ha).mp q)), Nat.min_eq_left (by omega)]
end
section
theorem okEq : mn_okC 0 "VolumeSets$Equations" T_Eq 4 ty_Eq := ⟨rfl, mn_uws _ (by decide +kernel), by decide +kernel, by decide +kernel⟩
theorem inst_Eq : Cond.instantiable "VolumeSets$Equations" 4 ∈ mn_W := mn_inW 202 (by decide +kernel) (by decide +kernel)
theorem okOp : mn_okC 1 "VolumeSets$Opening" T_Op 4 ty_Op := ⟨rfl, mn_uws _ (by decide +kernel), by decide +kernel, by decide +kernel⟩
theorem inst_Op : Cond.instantiable "VolumeSets$Opening" 4 ∈ mn_W := mn_inW 255 (by decide +kernel) (by decide +kernel)
theorem okPc : mn_okC 2 "VolumeSets$Pieces" T_Pc 5 ty_Pc := ⟨rfl, mn_uws _ (by decide +kernel), by decide +kernel, by decide +kernel⟩
theorem inst_Pc : Cond.instantiable "VolumeSets$Pieces" 5 ∈ mn_W := mn_inW 83 (by decide +kernel) (by decide +kernel)
theorem okRd : mn_okC 3 "VolumeSets$Reading" T_Rd 8 ty_Rd := ⟨rfl, mn_uws _ (by decide +kernel), by decide +kernel, by decide +kernel⟩
theorem inst_Rd : Cond.instantiable "VolumeSets$Reading" 8 ∈ mn_W := mn_inW 194 (by decide +kernel) (by decide +kernel)
theorem okRu : mn_okC 4 "VolumeSets$Rules" T_Ru 3 ty_Ru := ⟨rfl, mn_uws _ (by decide +kernel), by decide +kernel, by decide +kernel⟩
theorem inst_Ru : Cond.instantiable "VolumeSets$Rules" 3 ∈ mn_W := mn_inW 130 (by decide +kernel) (by decide +kernel)
theorem okSl : mn_okC 5 "VolumeSets$Slots" T_Sl 1 ty_Sl := ⟨rfl, mn_uws _ (by decide +kernel), by decide +kernel, by decide +kernel⟩
theorem inst_Sl : Cond.instantiable "VolumeSets$Slots" 1 ∈ mn_W := mn_inW 181 (by decide +kernel) (by decide +kernel)
theorem okSt : mn_okC 6 "VolumeSets$Stream" T_St 4 ty_St := ⟨rfl, mn_uws _ (by decide +kernel), by decide +kernel, by decide +kernel⟩
theorem inst_St : Cond.instantiable "VolumeSets$Stream" 4 ∈ mn_W := mn_inW 77 (by decide +kernel) (by decide +kernel)
theorem okTa : mn_okC 7 "VolumeSets$Tape" T_Ta 2 ty_Ta := ⟨rfl, mn_uws _ (by decide +kernel), by decide +kernel, by decide +kernel⟩
theorem inst_Ta : Cond.instantiable "VolumeSets$Tape" 2 ∈ mn_W := mn_inW 61 (by decide +kernel) (by decide +kernel)
theorem okVo : mn_okC 8 "VolumeSets$Volume" T_Vo 2 ty_Vo := ⟨rfl, mn_uws _ (by decide +kernel), by decide +kernel, by decide +kernel⟩
theorem inst_Vo : Cond.instantiable "VolumeSets$Volume" 2 ∈ mn_W := mn_inW 158 (by decide +kernel) (by decide +kernel)
theorem okWr : mn_okC 9 "VolumeSets$Writer" T_Wr 1 ty_Wr := ⟨rfl, mn_uws _ (by decide +kernel), by decide +kernel, by decide +kernel⟩
theorem inst_Wr : Cond.instantiable "VolumeSets$Writer" 1 ∈ mn_W := mn_inW 152 (by decide +kernel) (by decide +kernel)
theorem okVS : mn_okC 10 "VolumeSets" T_VS 7 ty_VS := ⟨rfl, mn_uws _ (by decide +kernel), by decide +kernel, by decide +kernel⟩
theorem inst_VS : Cond.instantiable "VolumeSets" 7 ∈ mn_W := mn_inW 53 (by decide +kernel) (by decide +kernel)
theorem okMo : mn_okC 11 "VolumeSetsModel" T_Mo 29 ty_Mo := ⟨rfl, mn_uws _ (by decide +kernel), by decide +kernel, by decide +kernel⟩
theorem inst_Mo : Cond.instantiable "VolumeSetsModel" 29 ∈ mn_W := mn_inW 710 (by decide +kernel) (by decide +kernel)
theorem ini_By : Cond.initialized "VolumeSets$Bytes" ∈ mn_W := mn_inW 49 (by decide +kernel) (by decide +kernel)
theorem ini_Eq : Cond.initialized "VolumeSets$Equations" ∈ mn_W := mn_inW 46 (by decide +kernel) (by decide +kernel)
theorem ini_Op : Cond.initialized "VolumeSets$Opening" ∈ mn_W := mn_inW 47 (by decide +kernel) (by decide +kernel)
theorem ini_Pc : Cond.initialized "VolumeSets$Pieces" ∈ mn_W := mn_inW 39 (by decide +kernel) (by decide +kernel)
theorem ini_Rd : Cond.initialized "VolumeSets$Reading" ∈ mn_W := mn_inW 45 (by decide +kernel) (by decide +kernel)
theorem ini_Ru : Cond.initialized "VolumeSets$Rules" ∈ mn_W := mn_inW 41 (by decide +kernel) (by decide +kernel)
theorem ini_Sl : Cond.initialized "VolumeSets$Slots" ∈ mn_W := mn_inW 44 (by decide +kernel) (by decide +kernel)
theorem ini_St : Cond.initialized "VolumeSets$Stream" ∈ mn_W := mn_inW 38 (by decide +kernel) (by decide +kernel)
theorem ini_Ta : Cond.initialized "VolumeSets$Tape" ∈ mn_W := mn_inW 37 (by decide +kernel) (by decide +kernel)
theorem ini_Vo : Cond.initialized "VolumeSets$Volume" ∈ mn_W := mn_inW 43 (by decide +kernel) (by decide +kernel)
theorem ini_Wr : Cond.initialized "VolumeSets$Writer" ∈ mn_W := mn_inW 42 (by decide +kernel) (by decide +kernel)
theorem ini_VS : Cond.initialized "VolumeSets" ∈ mn_W := mn_inW 36 (by decide +kernel) (by decide +kernel)
theorem ini_Mo : Cond.initialized "VolumeSetsModel" ∈ mn_W := mn_inW 48 (by decide +kernel) (by decide +kernel)
theorem ini_La : Cond.initialized "VolumeSetsLaw" ∈ mn_W := mn_inW 35 (by decide +kernel) (by decide +kernel)
theorem ini_Ar : Cond.initialized "java/util/Arrays" ∈ mn_W := mn_inW 50 (by decide +kernel) (by decide +kernel)
theorem ini_Math : Cond.initialized "java/lang/Math" ∈ mn_W := mn_inW 40 (by decide +kernel) (by decide +kernel)
theorem ini_System : Cond.initialized "java/lang/System" ∈ mn_W := mn_inW 51 (by decide +kernel) (by decide +kernel)
theorem okVS_init : mn_okI MVS_init 0 := ⟨⟨by decide +kernel, mn_inW 56 (by decide +kernel) (by decide +kernel), ini_VS, ⟨by decide +kernel, by decide +kernel⟩, by decide +kernel⟩, rfl, mn_inW 55 (by decide +kernel) (by decide +kernel), rfl⟩
theorem okTa_init : mn_okI MTa_init 0 := ⟨⟨by decide +kernel, mn_inW 64 (by decide +kernel) (by decide +kernel), ini_Ta, ⟨by decide +kernel, by decide +kernel⟩, by decide +kernel⟩, rfl, mn_inW 63 (by decide +kernel) (by decide +kernel), rfl⟩
theorem okSt_init : mn_okI MSt_init 0 := ⟨⟨by decide +kernel, mn_inW 80 (by decide +kernel) (by decide +kernel), ini_St, ⟨by decide +kernel, by decide +kernel⟩, by decide +kernel⟩, rfl, mn_inW 79 (by decide +kernel) (by decide +kernel), rfl⟩
theorem okPc_init : mn_okI MPc_init 1 := ⟨⟨by decide +kernel, mn_inW 86 (by decide +kernel) (by decide +kernel), ini_Pc, ⟨by decide +kernel, by decide +kernel⟩, by decide +kernel⟩, rfl, mn_inW 85 (by decide +kernel) (by decide +kernel), rfl⟩
theorem okRu_init : mn_okI MRu_init 0 := ⟨⟨by decide +kernel, mn_inW 133 (by decide +kernel) (by decide +kernel), ini_Ru, ⟨by decide +kernel, by decide +kernel⟩, by decide +kernel⟩, rfl, mn_inW 132 (by decide +kernel) (by decide +kernel), rfl⟩
theorem okWr_init : mn_okI MWr_init 0 := ⟨⟨by decide +kernel, mn_inW 155 (by decide +kernel) (by decide +kernel), ini_Wr, ⟨by decide +kernel, by decide +kernel⟩, by decide +kernel⟩, rfl, mn_inW 154 (by decide +kernel) (by decide +kernel), rfl⟩
theorem okVo_init : mn_okI MVo_init 0 := ⟨⟨by decide +kernel, mn_inW 161 (by decide +kernel) (by decide +kernel), ini_Vo, ⟨by decide +kernel, by decide +kernel⟩, by decide +kernel⟩, rfl, mn_inW 160 (by decide +kernel) (by decide +kernel), rfl⟩
theorem okSl_init : mn_okI MSl_init 0 := ⟨⟨by decide +kernel, mn_inW 184 (by decide +kernel) (by decide +kernel), ini_Sl, ⟨by decide +kernel, by decide +kernel⟩, by decide +kernel⟩, rfl, mn_inW 183 (by decide +kernel) (by decide +kernel), rfl⟩
theorem okRd_init : mn_okI MRd_init 0 := ⟨⟨by decide +kernel, mn_inW 197 (by decide +kernel) (by decide +kernel), ini_Rd, ⟨by decide +kernel, by decide +kernel⟩, by decide +kernel⟩, rfl, mn_inW 196 (by decide +kernel) (by decide +kernel), rfl⟩
theorem okEq_init : mn_okI MEq_init 0 := ⟨⟨by decide +kernel, mn_inW 205 (by decide +kernel) (by decide +kernel), ini_Eq, ⟨by decide +kernel, by decide +kernel⟩, by decide +kernel⟩, rfl, mn_inW 204 (by decide +kernel) (by decide +kernel), rfl⟩
theorem okOp_init : mn_okI MOp_init 0 := ⟨⟨by decide +kernel, mn_inW 258 (by decide +kernel) (by decide +kernel), ini_Op, ⟨by decide +kernel, by decide +kernel⟩, by decide +kernel⟩, rfl, mn_inW 257 (by decide +kernel) (by decide +kernel), rfl⟩
theorem okVS_feed : mn_okV MVS_feed 5 := ⟨⟨by decide +kernel, mn_inW 299 (by decide +kernel) (by decide +kernel), ini_VS, ⟨by decide +kernel, by decide +kernel⟩, by decide +kernel⟩, mn_inW 297 (by decide +kernel) (by decide +kernel), mn_inW 298 (by decide +kernel) (by decide +kernel)⟩
theorem okTa_addNumber : mn_okV MTa_addNumber 1 := ⟨⟨by decide +kernel, mn_inW 303 (by decide +kernel) (by decide +kernel), ini_Ta, ⟨by decide +kernel, by decide +kernel⟩, by decide +kernel⟩, mn_inW 301 (by decide +kernel) (by decide +kernel), mn_inW 302 (by decide +kernel) (by decide +kernel)⟩
theorem okTa_add : mn_okV MTa_add 1 := ⟨⟨by decide +kernel, mn_inW 307 (by decide +kernel) (by decide +kernel), ini_Ta, ⟨by decide +kernel, by decide +kernel⟩, by decide +kernel⟩, mn_inW 306 (by decide +kernel) (by decide +kernel), mn_inW 0 (by decide +kernel) (by decide +kernel)⟩
theorem okVS_end : mn_okV MVS_end 1 := ⟨⟨by decide +kernel, mn_inW 311 (by decide +kernel) (by decide +kernel), ini_VS, ⟨by decide +kernel, by decide +kernel⟩, by decide +kernel⟩, mn_inW 309 (by decide +kernel) (by decide +kernel), mn_inW 310 (by decide +kernel) (by decide +kernel)⟩
theorem okVS_entry : mn_okV MVS_entry 0 := ⟨⟨by decide +kernel, mn_inW 315 (by decide +kernel) (by decide +kernel), ini_VS, ⟨by decide +kernel, by decide +kernel⟩, by decide +kernel⟩, mn_inW 313 (by decide +kernel) (by decide +kernel), mn_inW 314 (by decide +kernel) (by decide +kernel)⟩
theorem okSt_append : mn_okV MSt_append 1 := ⟨⟨by decide +kernel, mn_inW 319 (by decide +kernel) (by decide +kernel), ini_St, ⟨by decide +kernel, by decide +kernel⟩, by decide +kernel⟩, mn_inW 317 (by decide +kernel) (by decide +kernel), mn_inW 318 (by decide +kernel) (by decide +kernel)⟩
theorem okTa_sum : mn_okV MTa_sum 0 := ⟨⟨by decide +kernel, mn_inW 323 (by decide +kernel) (by decide +kernel), ini_Ta, ⟨by decide +kernel, by decide +kernel⟩, by decide +kernel⟩, mn_inW 321 (by decide +kernel) (by decide +kernel), mn_inW 322 (by decide +kernel) (by decide +kernel)⟩
theorem okBy_sum : mn_okS MBy_sum 3 := ⟨⟨by decide +kernel, mn_inW 326 (by decide +kernel) (by decide +kernel), ini_By, ⟨by decide +kernel, by decide +kernel⟩, by decide +kernel⟩, mn_inW 325 (by decide +kernel) (by decide +kernel)⟩
theorem okSt_add : mn_okV MSt_add 1 := ⟨⟨by decide +kernel, mn_inW 332 (by decide +kernel) (by decide +kernel), ini_St, ⟨by decide +kernel, by decide +kernel⟩, by decide +kernel⟩, mn_inW 331 (by decide +kernel) (by decide +kernel), mn_inW 1 (by decide +kernel) (by decide +kernel)⟩
theorem okPc_put : mn_okV MPc_put 2 := ⟨⟨by decide +kernel, mn_inW 336 (by decide +kernel) (by decide +kernel), ini_Pc, ⟨by decide +kernel, by decide +kernel⟩, by decide +kernel⟩, mn_inW 334 (by decide +kernel) (by decide +kernel), mn_inW 335 (by decide +kernel) (by decide +kernel)⟩
theorem okTa_byteAt : mn_okV MTa_byteAt 1 := ⟨⟨by decide +kernel, mn_inW 340 (by decide +kernel) (by decide +kernel), ini_Ta, ⟨by decide +kernel, by decide +kernel⟩, by decide +kernel⟩, mn_inW 338 (by decide +kernel) (by decide +kernel), mn_inW 339 (by decide +kernel) (by decide +kernel)⟩
theorem okVS_clear : mn_okV MVS_clear 0 := ⟨⟨by decide +kernel, mn_inW 344 (by decide +kernel) (by decide +kernel), ini_VS, ⟨by decide +kernel, by decide +kernel⟩, by decide +kernel⟩, mn_inW 342 (by decide +kernel) (by decide +kernel), mn_inW 343 (by decide +kernel) (by decide +kernel)⟩
theorem okSt_forgetAll : mn_okV MSt_forgetAll 0 := ⟨⟨by decide +kernel, mn_inW 348 (by decide +kernel) (by decide +kernel), ini_St, ⟨by decide +kernel, by decide +kernel⟩, by decide +kernel⟩, mn_inW 346 (by decide +kernel) (by decide +kernel), mn_inW 347 (by decide +kernel) (by decide +kernel)⟩
theorem okPc_blank : mn_okV MPc_blank 0 := ⟨⟨by decide +kernel, mn_inW 352 (by decide +kernel) (by decide +kernel), ini_Pc, ⟨by decide +kernel, by decide +kernel⟩, by decide +kernel⟩, mn_inW 350 (by decide +kernel) (by decide +kernel), mn_inW 351 (by decide +kernel) (by decide +kernel)⟩
theorem okAr_fill : mn_okS MAr_fill 2 := ⟨⟨by decide +kernel, mn_inW 355 (by decide +kernel) (by decide +kernel), ini_Ar, ⟨by decide +kernel, by decide +kernel⟩, by decide +kernel⟩, mn_inW 354 (by decide +kernel) (by decide +kernel)⟩
theorem okVS_rule : mn_okV MVS_rule 2 := ⟨⟨by decide +kernel, mn_inW 359 (by decide +kernel) (by decide +kernel), ini_VS, ⟨by decide +kernel, by decide +kernel⟩, by decide +kernel⟩, mn_inW 357 (by decide +kernel) (by decide +kernel), mn_inW 358 (by decide +kernel) (by decide +kernel)⟩
theorem okRu_change : mn_okV MRu_change 2 := ⟨⟨by decide +kernel, mn_inW 363 (by decide +kernel) (by decide +kernel), ini_Ru, ⟨by decide +kernel, by decide +kernel⟩, by decide +kernel⟩, mn_inW 361 (by decide +kernel) (by decide +kernel), mn_inW 362 (by decide +kernel) (by decide +kernel)⟩
theorem okRu_changeSize : mn_okV MRu_changeSize 1 := ⟨⟨by decide +kernel, mn_inW 367 (by decide +kernel) (by decide +kernel), ini_Ru, ⟨by decide +kernel, by decide +kernel⟩, by decide +kernel⟩, mn_inW 366 (by decide +kernel) (by decide +kernel), mn_inW 2 (by decide +kernel) (by decide +kernel)⟩
theorem okRu_changeRepairs : mn_okV MRu_changeRepairs 1 := ⟨⟨by decide +kernel, mn_inW 371 (by decide +kernel) (by decide +kernel), ini_Ru, ⟨by decide +kernel, by decide +kernel⟩, by decide +kernel⟩, mn_inW 370 (by decide +kernel) (by decide +kernel), mn_inW 3 (by decide +kernel) (by decide +kernel)⟩
theorem okRu_changeSet : mn_okV MRu_changeSet 1 := ⟨⟨by decide +kernel, mn_inW 375 (by decide +kernel) (by decide +kernel), ini_Ru, ⟨by decide +kernel, by decide +kernel⟩, by decide +kernel⟩, mn_inW 374 (by decide +kernel) (by decide +kernel), mn_inW 4 (by decide +kernel) (by decide +kernel)⟩
theorem okVS_volumes : mn_okV MVS_volumes 0 := ⟨⟨by decide +kernel, mn_inW 379 (by decide +kernel) (by decide +kernel), ini_VS, ⟨by decide +kernel, by decide +kernel⟩, by decide +kernel⟩, mn_inW 377 (by decide +kernel) (by decide +kernel), mn_inW 378 (by decide +kernel) (by decide +kernel)⟩
theorem okRu_width : mn_okV MRu_width 0 := ⟨⟨by decide +kernel, mn_inW 383 (by decide +kernel) (by decide +kernel), ini_Ru, ⟨by decide +kernel, by decide +kernel⟩, by decide +kernel⟩, mn_inW 381 (by decide +kernel) (by decide +kernel), mn_inW 382 (by decide +kernel) (by decide +kernel)⟩
theorem okSt_pieceCount : mn_okV MSt_pieceCount 1 := ⟨⟨by decide +kernel, mn_inW 387 (by decide +kernel) (by decide +kernel), ini_St, ⟨by decide +kernel, by decide +kernel⟩, by decide +kernel⟩, mn_inW 385 (by decide +kernel) (by decide +kernel), mn_inW 386 (by decide +kernel) (by decide +kernel)⟩
theorem okBy_quotient : mn_okS MBy_quotient 2 := ⟨⟨by decide +kernel, mn_inW 390 (by decide +kernel) (by decide +kernel), ini_By, ⟨by decide +kernel, by decide +kernel⟩, by decide +kernel⟩, mn_inW 389 (by decide +kernel) (by decide +kernel)⟩
theorem okVS_byteOf : mn_okV MVS_byteOf 2 := ⟨⟨by decide +kernel, mn_inW 395 (by decide +kernel) (by decide +kernel), ini_VS, ⟨by decide +kernel, by decide +kernel⟩, by decide +kernel⟩, mn_inW 393 (by decide +kernel) (by decide +kernel), mn_inW 394 (by decide +kernel) (by decide +kernel)⟩
theorem okSt_divide : mn_okV MSt_divide 1 := ⟨⟨by decide +kernel, mn_inW 400 (by decide +kernel) (by decide +kernel), ini_St, ⟨by decide +kernel, by decide +kernel⟩, by decide +kernel⟩, mn_inW 398 (by decide +kernel) (by decide +kernel), mn_inW 399 (by decide +kernel) (by decide +kernel)⟩
theorem okPc_putPart : mn_okV MPc_putPart 3 := ⟨⟨by decide +kernel, mn_inW 408 (by decide +kernel) (by decide +kernel), ini_Pc, ⟨by decide +kernel, by decide +kernel⟩, by decide +kernel⟩, mn_inW 406 (by decide +kernel) (by decide +kernel), mn_inW 407 (by decide +kernel) (by decide +kernel)⟩
theorem okSt_startIn : mn_okV MSt_startIn 2 := ⟨⟨by decide +kernel, mn_inW 413 (by decide +kernel) (by decide +kernel), ini_St, ⟨by decide +kernel, by decide +kernel⟩, by decide +kernel⟩, mn_inW 412 (by decide +kernel) (by decide +kernel), mn_inW 5 (by decide +kernel) (by decide +kernel)⟩
theorem okWr_make : mn_okV MWr_make 3 := ⟨⟨by decide +kernel, mn_inW 417 (by decide +kernel) (by decide +kernel), ini_Wr, ⟨by decide +kernel, by decide +kernel⟩, by decide +kernel⟩, mn_inW 415 (by decide +kernel) (by decide +kernel), mn_inW 416 (by decide +kernel) (by decide +kernel)⟩
theorem okVo_put : mn_okV MVo_put 2 := ⟨⟨by decide +kernel, mn_inW 421 (by decide +kernel) (by decide +kernel), ini_Vo, ⟨by decide +kernel, by decide +kernel⟩, by decide +kernel⟩, mn_inW 419 (by decide +kernel) (by decide +kernel), mn_inW 420 (by decide +kernel) (by decide +kernel)⟩
theorem okPc_part : mn_okV MPc_part 2 := ⟨⟨by decide +kernel, mn_inW 425 (by decide +kernel) (by decide +kernel), ini_Pc, ⟨by decide +kernel, by decide +kernel⟩, by decide +kernel⟩, mn_inW 423 (by decide +kernel) (by decide +kernel), mn_inW 424 (by decide +kernel) (by decide +kernel)⟩
theorem okPc_byteAt : mn_okV MPc_byteAt 1 := ⟨⟨by decide +kernel, mn_inW 429 (by decide +kernel) (by decide +kernel), ini_Pc, ⟨by decide +kernel, by decide +kernel⟩, by decide +kernel⟩, mn_inW 427 (by decide +kernel) (by decide +kernel), mn_inW 428 (by decide +kernel) (by decide +kernel)⟩
theorem okPc_mixed : mn_okV MPc_mixed 2 := ⟨⟨by decide +kernel, mn_inW 433 (by decide +kernel) (by decide +kernel), ini_Pc, ⟨by decide +kernel, by decide +kernel⟩, by decide +kernel⟩, mn_inW 431 (by decide +kernel) (by decide +kernel), mn_inW 432 (by decide +kernel) (by decide +kernel)⟩
theorem okBy_raised : mn_okS MBy_raised 2 := ⟨⟨by decide +kernel, mn_inW 436 (by decide +kernel) (by decide +kernel), ini_By, ⟨by decide +kernel, by decide +kernel⟩, by decide +kernel⟩, mn_inW 435 (by decide +kernel) (by decide +kernel)⟩
theorem okBy_twice : mn_okS MBy_twice 1 := ⟨⟨by decide +kernel, mn_inW 439 (by decide +kernel) (by decide +kernel), ini_By, ⟨by decide +kernel, by decide +kernel⟩, by decide +kernel⟩, mn_inW 438 (by decide +kernel) (by decide +kernel)⟩
theorem okVo_seal : mn_okV MVo_seal 0 := ⟨⟨by decide +kernel, mn_inW 444 (by decide +kernel) (by decide +kernel), ini_Vo, ⟨by decide +kernel, by decide +kernel⟩, by decide +kernel⟩, mn_inW 442 (by decide +kernel) (by decide +kernel), mn_inW 443 (by decide +kernel) (by decide +kernel)⟩
theorem okVo_putSum : mn_okV MVo_putSum 2 := ⟨⟨by decide +kernel, mn_inW 449 (by decide +kernel) (by decide +kernel), ini_Vo, ⟨by decide +kernel, by decide +kernel⟩, by decide +kernel⟩, mn_inW 448 (by decide +kernel) (by decide +kernel), mn_inW 6 (by decide +kernel) (by decide +kernel)⟩
theorem okVo_byteAt : mn_okV MVo_byteAt 1 := ⟨⟨by decide +kernel, mn_inW 454 (by decide +kernel) (by decide +kernel), ini_Vo, ⟨by decide +kernel, by decide +kernel⟩, by decide +kernel⟩, mn_inW 452 (by decide +kernel) (by decide +kernel), mn_inW 453 (by decide +kernel) (by decide +kernel)⟩
theorem okVS_write : mn_okV MVS_write 1 := ⟨⟨by decide +kernel, mn_inW 458 (by decide +kernel) (by decide +kernel), ini_VS, ⟨by decide +kernel, by decide +kernel⟩, by decide +kernel⟩, mn_inW 456 (by decide +kernel) (by decide +kernel), mn_inW 457 (by decide +kernel) (by decide +kernel)⟩
theorem okWr_missingIn : mn_okV MWr_missingIn 3 := ⟨⟨by decide +kernel, mn_inW 462 (by decide +kernel) (by decide +kernel), ini_Wr, ⟨by decide +kernel, by decide +kernel⟩, by decide +kernel⟩, mn_inW 460 (by decide +kernel) (by decide +kernel), mn_inW 461 (by decide +kernel) (by decide +kernel)⟩
theorem okSl_hold : mn_okV MSl_hold 1 := ⟨⟨by decide +kernel, mn_inW 467 (by decide +kernel) (by decide +kernel), ini_Sl, ⟨by decide +kernel, by decide +kernel⟩, by decide +kernel⟩, mn_inW 465 (by decide +kernel) (by decide +kernel), mn_inW 466 (by decide +kernel) (by decide +kernel)⟩
theorem okVo_hasJustTheBytesOf : mn_okV MVo_hasJustTheBytesOf 1 := ⟨⟨by decide +kernel, mn_inW 471 (by decide +kernel) (by decide +kernel), ini_Vo, ⟨by decide +kernel, by decide +kernel⟩, by decide +kernel⟩, mn_inW 469 (by decide +kernel) (by decide +kernel), mn_inW 470 (by decide +kernel) (by decide +kernel)⟩
theorem okSl_filled : mn_okV MSl_filled 0 := ⟨⟨by decide +kernel, mn_inW 477 (by decide +kernel) (by decide +kernel), ini_Sl, ⟨by decide +kernel, by decide +kernel⟩, by decide +kernel⟩, mn_inW 475 (by decide +kernel) (by decide +kernel), mn_inW 476 (by decide +kernel) (by decide +kernel)⟩
theorem okWr_fill : mn_okV MWr_fill 4 := ⟨⟨by decide +kernel, mn_inW 481 (by decide +kernel) (by decide +kernel), ini_Wr, ⟨by decide +kernel, by decide +kernel⟩, by decide +kernel⟩, mn_inW 479 (by decide +kernel) (by decide +kernel), mn_inW 480 (by decide +kernel) (by decide +kernel)⟩
theorem okVo_cutOff : mn_okV MVo_cutOff 0 := ⟨⟨by decide +kernel, mn_inW 485 (by decide +kernel) (by decide +kernel), ini_Vo, ⟨by decide +kernel, by decide +kernel⟩, by decide +kernel⟩, mn_inW 483 (by decide +kernel) (by decide +kernel), mn_inW 484 (by decide +kernel) (by decide +kernel)⟩
theorem okSl_putIntoLeastEmpty : mn_okV MSl_putIntoLeastEmpty 1 := ⟨⟨by decide +kernel, mn_inW 489 (by decide +kernel) (by decide +kernel), ini_Sl, ⟨by decide +kernel, by decide +kernel⟩, by decide +kernel⟩, mn_inW 487 (by decide +kernel) (by decide +kernel), mn_inW 488 (by decide +kernel) (by decide +kernel)⟩
theorem okVo_become : mn_okV MVo_become 1 := ⟨⟨by decide +kernel, mn_inW 493 (by decide +kernel) (by decide +kernel), ini_Vo, ⟨by decide +kernel, by decide +kernel⟩, by decide +kernel⟩, mn_inW 491 (by decide +kernel) (by decide +kernel), mn_inW 492 (by decide +kernel) (by decide +kernel)⟩
theorem okVS_lose : mn_okV MVS_lose 1 := ⟨⟨by decide +kernel, mn_inW 500 (by decide +kernel) (by decide +kernel), ini_VS, ⟨by decide +kernel, by decide +kernel⟩, by decide +kernel⟩, mn_inW 498 (by decide +kernel) (by decide +kernel), mn_inW 499 (by decide +kernel) (by decide +kernel)⟩
theorem okSl_at : mn_okV MSl_at 1 := ⟨⟨by decide +kernel, mn_inW 504 (by decide +kernel) (by decide +kernel), ini_Sl, ⟨by decide +kernel, by decide +kernel⟩, by decide +kernel⟩, mn_inW 502 (by decide +kernel) (by decide +kernel), mn_inW 503 (by decide +kernel) (by decide +kernel)⟩
theorem okVS_poke : mn_okV MVS_poke 3 := ⟨⟨by decide +kernel, mn_inW 508 (by decide +kernel) (by decide +kernel), ini_VS, ⟨by decide +kernel, by decide +kernel⟩, by decide +kernel⟩, mn_inW 506 (by decide +kernel) (by decide +kernel), mn_inW 507 (by decide +kernel) (by decide +kernel)⟩
theorem okVS_swap : mn_okV MVS_swap 2 := ⟨⟨by decide +kernel, mn_inW 513 (by decide +kernel) (by decide +kernel), ini_VS, ⟨by decide +kernel, by decide +kernel⟩, by decide +kernel⟩, mn_inW 511 (by decide +kernel) (by decide +kernel), mn_inW 512 (by decide +kernel) (by decide +kernel)⟩
theorem okSl_exchange : mn_okV MSl_exchange 2 := ⟨⟨by decide +kernel, mn_inW 517 (by decide +kernel) (by decide +kernel), ini_Sl, ⟨by decide +kernel, by decide +kernel⟩, by decide +kernel⟩, mn_inW 515 (by decide +kernel) (by decide +kernel), mn_inW 516 (by decide +kernel) (by decide +kernel)⟩
theorem okVS_copy : mn_okV MVS_copy 2 := ⟨⟨by decide +kernel, mn_inW 522 (by decide +kernel) (by decide +kernel), ini_VS, ⟨by decide +kernel, by decide +kernel⟩, by decide +kernel⟩, mn_inW 520 (by decide +kernel) (by decide +kernel), mn_inW 521 (by decide +kernel) (by decide +kernel)⟩
theorem okVS_slot : mn_okV MVS_slot 2 := ⟨⟨by decide +kernel, mn_inW 527 (by decide +kernel) (by decide +kernel), ini_VS, ⟨by decide +kernel, by decide +kernel⟩, by decide +kernel⟩, mn_inW 525 (by decide +kernel) (by decide +kernel), mn_inW 526 (by decide +kernel) (by decide +kernel)⟩
theorem okVo_state : mn_okV MVo_state 0 := ⟨⟨by decide +kernel, mn_inW 531 (by decide +kernel) (by decide +kernel), ini_Vo, ⟨by decide +kernel, by decide +kernel⟩, by decide +kernel⟩, mn_inW 529 (by decide +kernel) (by decide +kernel), mn_inW 530 (by decide +kernel) (by decide +kernel)⟩
theorem okVo_hasHead : mn_okV MVo_hasHead 0 := ⟨⟨by decide +kernel, mn_inW 535 (by decide +kernel) (by decide +kernel), ini_Vo, ⟨by decide +kernel, by decide +kernel⟩, by decide +kernel⟩, mn_inW 533 (by decide +kernel) (by decide +kernel), mn_inW 534 (by decide +kernel) (by decide +kernel)⟩
theorem okVo_sumAt : mn_okV MVo_sumAt 1 := ⟨⟨by decide +kernel, mn_inW 539 (by decide +kernel) (by decide +kernel), ini_Vo, ⟨by decide +kernel, by decide +kernel⟩, by decide +kernel⟩, mn_inW 538 (by decide +kernel) (by decide +kernel), mn_inW 7 (by decide +kernel) (by decide +kernel)⟩
theorem okVS_read : mn_okV MVS_read 1 := ⟨⟨by decide +kernel, mn_inW 544 (by decide +kernel) (by decide +kernel), ini_VS, ⟨by decide +kernel, by decide +kernel⟩, by decide +kernel⟩, mn_inW 542 (by decide +kernel) (by decide +kernel), mn_inW 543 (by decide +kernel) (by decide +kernel)⟩
theorem okRd_gather : mn_okV MRd_gather 2 := ⟨⟨by decide +kernel, mn_inW 548 (by decide +kernel) (by decide +kernel), ini_Rd, ⟨by decide +kernel, by decide +kernel⟩, by decide +kernel⟩, mn_inW 546 (by decide +kernel) (by decide +kernel), mn_inW 547 (by decide +kernel) (by decide +kernel)⟩
theorem okSl_firstGood : mn_okV MSl_firstGood 1 := ⟨⟨by decide +kernel, mn_inW 552 (by decide +kernel) (by decide +kernel), ini_Sl, ⟨by decide +kernel, by decide +kernel⟩, by decide +kernel⟩, mn_inW 550 (by decide +kernel) (by decide +kernel), mn_inW 551 (by decide +kernel) (by decide +kernel)⟩
theorem okVo_isGoodOf : mn_okV MVo_isGoodOf 1 := ⟨⟨by decide +kernel, mn_inW 556 (by decide +kernel) (by decide +kernel), ini_Vo, ⟨by decide +kernel, by decide +kernel⟩, by decide +kernel⟩, mn_inW 554 (by decide +kernel) (by decide +kernel), mn_inW 555 (by decide +kernel) (by decide +kernel)⟩
theorem okRd_begin : mn_okV MRd_begin 1 := ⟨⟨by decide +kernel, mn_inW 561 (by decide +kernel) (by decide +kernel), ini_Rd, ⟨by decide +kernel, by decide +kernel⟩, by decide +kernel⟩, mn_inW 560 (by decide +kernel) (by decide +kernel), mn_inW 8 (by decide +kernel) (by decide +kernel)⟩
theorem okVo_isAsWideAndManyAs : mn_okV MVo_isAsWideAndManyAs 1 := ⟨⟨by decide +kernel, mn_inW 570 (by decide +kernel) (by decide +kernel), ini_Vo, ⟨by decide +kernel, by decide +kernel⟩, by decide +kernel⟩, mn_inW 568 (by decide +kernel) (by decide +kernel), mn_inW 569 (by decide +kernel) (by decide +kernel)⟩
theorem okRd_take : mn_okV MRd_take 2 := ⟨⟨by decide +kernel, mn_inW 574 (by decide +kernel) (by decide +kernel), ini_Rd, ⟨by decide +kernel, by decide +kernel⟩, by decide +kernel⟩, mn_inW 573 (by decide +kernel) (by decide +kernel), mn_inW 9 (by decide +kernel) (by decide +kernel)⟩
theorem okRd_placeOf : mn_okV MRd_placeOf 1 := ⟨⟨by decide +kernel, mn_inW 578 (by decide +kernel) (by decide +kernel), ini_Rd, ⟨by decide +kernel, by decide +kernel⟩, by decide +kernel⟩, mn_inW 576 (by decide +kernel) (by decide +kernel), mn_inW 577 (by decide +kernel) (by decide +kernel)⟩
theorem okRd_setPlace : mn_okV MRd_setPlace 2 := ⟨⟨by decide +kernel, mn_inW 582 (by decide +kernel) (by decide +kernel), ini_Rd, ⟨by decide +kernel, by decide +kernel⟩, by decide +kernel⟩, mn_inW 581 (by decide +kernel) (by decide +kernel), mn_inW 10 (by decide +kernel) (by decide +kernel)⟩
theorem okRd_makeAgain : mn_okV MRd_makeAgain 1 := ⟨⟨by decide +kernel, mn_inW 587 (by decide +kernel) (by decide +kernel), ini_Rd, ⟨by decide +kernel, by decide +kernel⟩, by decide +kernel⟩, mn_inW 586 (by decide +kernel) (by decide +kernel), mn_inW 11 (by decide +kernel) (by decide +kernel)⟩
theorem okRd_repairsOfIt : mn_okV MRd_repairsOfIt 0 := ⟨⟨by decide +kernel, mn_inW 591 (by decide +kernel) (by decide +kernel), ini_Rd, ⟨by decide +kernel, by decide +kernel⟩, by decide +kernel⟩, mn_inW 590 (by decide +kernel) (by decide +kernel), mn_inW 12 (by decide +kernel) (by decide +kernel)⟩
theorem okEq_forgetAll : mn_okV MEq_forgetAll 0 := ⟨⟨by decide +kernel, mn_inW 595 (by decide +kernel) (by decide +kernel), ini_Eq, ⟨by decide +kernel, by decide +kernel⟩, by decide +kernel⟩, mn_inW 593 (by decide +kernel) (by decide +kernel), mn_inW 594 (by decide +kernel) (by decide +kernel)⟩
theorem okEq_addUnknown : mn_okV MEq_addUnknown 1 := ⟨⟨by decide +kernel, mn_inW 599 (by decide +kernel) (by decide +kernel), ini_Eq, ⟨by decide +kernel, by decide +kernel⟩, by decide +kernel⟩, mn_inW 597 (by decide +kernel) (by decide +kernel), mn_inW 598 (by decide +kernel) (by decide +kernel)⟩
theorem okEq_addRepair : mn_okV MEq_addRepair 3 := ⟨⟨by decide +kernel, mn_inW 603 (by decide +kernel) (by decide +kernel), ini_Eq, ⟨by decide +kernel, by decide +kernel⟩, by decide +kernel⟩, mn_inW 601 (by decide +kernel) (by decide +kernel), mn_inW 602 (by decide +kernel) (by decide +kernel)⟩
theorem okEq_solve : mn_okV MEq_solve 0 := ⟨⟨by decide +kernel, mn_inW 610 (by decide +kernel) (by decide +kernel), ini_Eq, ⟨by decide +kernel, by decide +kernel⟩, by decide +kernel⟩, mn_inW 608 (by decide +kernel) (by decide +kernel), mn_inW 609 (by decide +kernel) (by decide +kernel)⟩
theorem okBy_inverse : mn_okS MBy_inverse 1 := ⟨⟨by decide +kernel, mn_inW 613 (by decide +kernel) (by decide +kernel), ini_By, ⟨by decide +kernel, by decide +kernel⟩, by decide +kernel⟩, mn_inW 612 (by decide +kernel) (by decide +kernel)⟩
theorem okBy_product : mn_okS MBy_product 2 := ⟨⟨by decide +kernel, mn_inW 616 (by decide +kernel) (by decide +kernel), ini_By, ⟨by decide +kernel, by decide +kernel⟩, by decide +kernel⟩, mn_inW 615 (by decide +kernel) (by decide +kernel)⟩
theorem okEq_scale : mn_okV MEq_scale 2 := ⟨⟨by decide +kernel, mn_inW 620 (by decide +kernel) (by decide +kernel), ini_Eq, ⟨by decide +kernel, by decide +kernel⟩, by decide +kernel⟩, mn_inW 619 (by decide +kernel) (by decide +kernel), mn_inW 13 (by decide +kernel) (by decide +kernel)⟩
theorem okEq_addTo : mn_okV MEq_addTo 3 := ⟨⟨by decide +kernel, mn_inW 625 (by decide +kernel) (by decide +kernel), ini_Eq, ⟨by decide +kernel, by decide +kernel⟩, by decide +kernel⟩, mn_inW 624 (by decide +kernel) (by decide +kernel), mn_inW 14 (by decide +kernel) (by decide +kernel)⟩
theorem okRd_takeUnknowns : mn_okV MRd_takeUnknowns 0 := ⟨⟨by decide +kernel, mn_inW 629 (by decide +kernel) (by decide +kernel), ini_Rd, ⟨by decide +kernel, by decide +kernel⟩, by decide +kernel⟩, mn_inW 628 (by decide +kernel) (by decide +kernel), mn_inW 15 (by decide +kernel) (by decide +kernel)⟩
theorem okEq_numberOf : mn_okV MEq_numberOf 1 := ⟨⟨by decide +kernel, mn_inW 633 (by decide +kernel) (by decide +kernel), ini_Eq, ⟨by decide +kernel, by decide +kernel⟩, by decide +kernel⟩, mn_inW 631 (by decide +kernel) (by decide +kernel), mn_inW 632 (by decide +kernel) (by decide +kernel)⟩
theorem okEq_byteOfUnknown : mn_okV MEq_byteOfUnknown 2 := ⟨⟨by decide +kernel, mn_inW 637 (by decide +kernel) (by decide +kernel), ini_Eq, ⟨by decide +kernel, by decide +kernel⟩, by decide +kernel⟩, mn_inW 635 (by decide +kernel) (by decide +kernel), mn_inW 636 (by decide +kernel) (by decide +kernel)⟩
theorem okOp_open : mn_okV MOp_open 1 := ⟨⟨by decide +kernel, mn_inW 641 (by decide +kernel) (by decide +kernel), ini_Op, ⟨by decide +kernel, by decide +kernel⟩, by decide +kernel⟩, mn_inW 639 (by decide +kernel) (by decide +kernel), mn_inW 640 (by decide +kernel) (by decide +kernel)⟩
theorem okPc_nextKnown : mn_okV MPc_nextKnown 1 := ⟨⟨by decide +kernel, mn_inW 645 (by decide +kernel) (by decide +kernel), ini_Pc, ⟨by decide +kernel, by decide +kernel⟩, by decide +kernel⟩, mn_inW 643 (by decide +kernel) (by decide +kernel), mn_inW 644 (by decide +kernel) (by decide +kernel)⟩
theorem okPc_isKnown : mn_okV MPc_isKnown 1 := ⟨⟨by decide +kernel, mn_inW 649 (by decide +kernel) (by decide +kernel), ini_Pc, ⟨by decide +kernel, by decide +kernel⟩, by decide +kernel⟩, mn_inW 647 (by decide +kernel) (by decide +kernel), mn_inW 648 (by decide +kernel) (by decide +kernel)⟩
theorem okPc_room : mn_okV MPc_room 0 := ⟨⟨by decide +kernel, mn_inW 653 (by decide +kernel) (by decide +kernel), ini_Pc, ⟨by decide +kernel, by decide +kernel⟩, by decide +kernel⟩, mn_inW 651 (by decide +kernel) (by decide +kernel), mn_inW 652 (by decide +kernel) (by decide +kernel)⟩
theorem okPc_startBehind : mn_okV MPc_startBehind 1 := ⟨⟨by decide +kernel, mn_inW 658 (by decide +kernel) (by decide +kernel), ini_Pc, ⟨by decide +kernel, by decide +kernel⟩, by decide +kernel⟩, mn_inW 657 (by decide +kernel) (by decide +kernel), mn_inW 16 (by decide +kernel) (by decide +kernel)⟩
theorem okOp_isWhole : mn_okS MOp_isWhole 3 := ⟨⟨by decide +kernel, mn_inW 662 (by decide +kernel) (by decide +kernel), ini_Op, ⟨by decide +kernel, by decide +kernel⟩, by decide +kernel⟩, mn_inW 661 (by decide +kernel) (by decide +kernel)⟩
theorem okPc_areKnown : mn_okV MPc_areKnown 2 := ⟨⟨by decide +kernel, mn_inW 666 (by decide +kernel) (by decide +kernel), ini_Pc, ⟨by decide +kernel, by decide +kernel⟩, by decide +kernel⟩, mn_inW 664 (by decide +kernel) (by decide +kernel), mn_inW 665 (by decide +kernel) (by decide +kernel)⟩
theorem okPc_sum : mn_okV MPc_sum 2 := ⟨⟨by decide +kernel, mn_inW 670 (by decide +kernel) (by decide +kernel), ini_Pc, ⟨by decide +kernel, by decide +kernel⟩, by decide +kernel⟩, mn_inW 668 (by decide +kernel) (by decide +kernel), mn_inW 669 (by decide +kernel) (by decide +kernel)⟩
theorem okVS_found : mn_okV MVS_found 1 := ⟨⟨by decide +kernel, mn_inW 675 (by decide +kernel) (by decide +kernel), ini_VS, ⟨by decide +kernel, by decide +kernel⟩, by decide +kernel⟩, mn_inW 673 (by decide +kernel) (by decide +kernel), mn_inW 674 (by decide +kernel) (by decide +kernel)⟩
theorem okOp_openedOnes : mn_okV MOp_openedOnes 0 := ⟨⟨by decide +kernel, mn_inW 679 (by decide +kernel) (by decide +kernel), ini_Op, ⟨by decide +kernel, by decide +kernel⟩, by decide +kernel⟩, mn_inW 677 (by decide +kernel) (by decide +kernel), mn_inW 678 (by decide +kernel) (by decide +kernel)⟩
theorem okVS_where : mn_okV MVS_where 1 := ⟨⟨by decide +kernel, mn_inW 683 (by decide +kernel) (by decide +kernel), ini_VS, ⟨by decide +kernel, by decide +kernel⟩, by decide +kernel⟩, mn_inW 681 (by decide +kernel) (by decide +kernel), mn_inW 682 (by decide +kernel) (by decide +kernel)⟩
theorem okVS_got : mn_okV MVS_got 1 := ⟨⟨by decide +kernel, mn_inW 688 (by decide +kernel) (by decide +kernel), ini_VS, ⟨by decide +kernel, by decide +kernel⟩, by decide +kernel⟩, mn_inW 686 (by decide +kernel) (by decide +kernel), mn_inW 687 (by decide +kernel) (by decide +kernel)⟩
theorem okVS_opened : mn_okV MVS_opened 2 := ⟨⟨by decide +kernel, mn_inW 695 (by decide +kernel) (by decide +kernel), ini_VS, ⟨by decide +kernel, by decide +kernel⟩, by decide +kernel⟩, mn_inW 693 (by decide +kernel) (by decide +kernel), mn_inW 694 (by decide +kernel) (by decide +kernel)⟩
theorem okOp_tellOf : mn_okV MOp_tellOf 2 := ⟨⟨by decide +kernel, mn_inW 699 (by decide +kernel) (by decide +kernel), ini_Op, ⟨by decide +kernel, by decide +kernel⟩, by decide +kernel⟩, mn_inW 697 (by decide +kernel) (by decide +kernel), mn_inW 698 (by decide +kernel) (by decide +kernel)⟩
theorem okVS_count : mn_okV MVS_count 1 := ⟨⟨by decide +kernel, mn_inW 703 (by decide +kernel) (by decide +kernel), ini_VS, ⟨by decide +kernel, by decide +kernel⟩, by decide +kernel⟩, mn_inW 701 (by decide +kernel) (by decide +kernel), mn_inW 702 (by decide +kernel) (by decide +kernel)⟩
theorem okSl_inState : mn_okV MSl_inState 1 := ⟨⟨by decide +kernel, mn_inW 707 (by decide +kernel) (by decide +kernel), ini_Sl, ⟨by decide +kernel, by decide +kernel⟩, by decide +kernel⟩, mn_inW 705 (by decide +kernel) (by decide +kernel), mn_inW 706 (by decide +kernel) (by decide +kernel)⟩
theorem okMo_init : mn_okI MMo_init 0 := ⟨⟨by decide +kernel, mn_inW 713 (by decide +kernel) (by decide +kernel), ini_Mo, ⟨by decide +kernel, by decide +kernel⟩, by decide +kernel⟩, rfl, mn_inW 712 (by decide +kernel) (by decide +kernel), rfl⟩
theorem okMo_feed : mn_okV MMo_feed 5 := ⟨⟨by decide +kernel, mn_inW 806 (by decide +kernel) (by decide +kernel), ini_Mo, ⟨by decide +kernel, by decide +kernel⟩, by decide +kernel⟩, mn_inW 804 (by decide +kernel) (by decide +kernel), mn_inW 805 (by decide +kernel) (by decide +kernel)⟩
theorem okMo_end : mn_okV MMo_end 1 := ⟨⟨by decide +kernel, mn_inW 810 (by decide +kernel) (by decide +kernel), ini_Mo, ⟨by decide +kernel, by decide +kernel⟩, by decide +kernel⟩, mn_inW 808 (by decide +kernel) (by decide +kernel), mn_inW 809 (by decide +kernel) (by decide +kernel)⟩
theorem okMo_in : mn_okS MMo_in 3 := ⟨⟨by decide +kernel, mn_inW 813 (by decide +kernel) (by decide +kernel), ini_Mo, ⟨by decide +kernel, by decide +kernel⟩, by decide +kernel⟩, mn_inW 812 (by decide +kernel) (by decide +kernel)⟩
theorem okMo_entry : mn_okV MMo_entry 0 := ⟨⟨by decide +kernel, mn_inW 817 (by decide +kernel) (by decide +kernel), ini_Mo, ⟨by decide +kernel, by decide +kernel⟩, by decide +kernel⟩, mn_inW 815 (by decide +kernel) (by decide +kernel), mn_inW 816 (by decide +kernel) (by decide +kernel)⟩
theorem okMo_sum : mn_okS MMo_sum 3 := ⟨⟨by decide +kernel, mn_inW 820 (by decide +kernel) (by decide +kernel), ini_Mo, ⟨by decide +kernel, by decide +kernel⟩, by decide +kernel⟩, mn_inW 819 (by decide +kernel) (by decide +kernel)⟩
theorem okMo_step : mn_okS MMo_step 2 := ⟨⟨by decide +kernel, mn_inW 823 (by decide +kernel) (by decide +kernel), ini_Mo, ⟨by decide +kernel, by decide +kernel⟩, by decide +kernel⟩, mn_inW 822 (by decide +kernel) (by decide +kernel)⟩
theorem okMo_clear : mn_okV MMo_clear 0 := ⟨⟨by decide +kernel, mn_inW 828 (by decide +kernel) (by decide +kernel), ini_Mo, ⟨by decide +kernel, by decide +kernel⟩, by decide +kernel⟩, mn_inW 826 (by decide +kernel) (by decide +kernel), mn_inW 827 (by decide +kernel) (by decide +kernel)⟩
theorem okMo_rule : mn_okV MMo_rule 2 := ⟨⟨by decide +kernel, mn_inW 832 (by decide +kernel) (by decide +kernel), ini_Mo, ⟨by decide +kernel, by decide +kernel⟩, by decide +kernel⟩, mn_inW 830 (by decide +kernel) (by decide +kernel), mn_inW 831 (by decide +kernel) (by decide +kernel)⟩
theorem okMo_volumes : mn_okV MMo_volumes 0 := ⟨⟨by decide +kernel, mn_inW 836 (by decide +kernel) (by decide +kernel), ini_Mo, ⟨by decide +kernel, by decide +kernel⟩, by decide +kernel⟩, mn_inW 834 (by decide +kernel) (by decide +kernel), mn_inW 835 (by decide +kernel) (by decide +kernel)⟩
theorem okMo_pieces : mn_okV MMo_pieces 0 := ⟨⟨by decide +kernel, mn_inW 840 (by decide +kernel) (by decide +kernel), ini_Mo, ⟨by decide +kernel, by decide +kernel⟩, by decide +kernel⟩, mn_inW 839 (by decide +kernel) (by decide +kernel), mn_inW 17 (by decide +kernel) (by decide +kernel)⟩
theorem okMo_length : mn_okV MMo_length 0 := ⟨⟨by decide +kernel, mn_inW 844 (by decide +kernel) (by decide +kernel), ini_Mo, ⟨by decide +kernel, by decide +kernel⟩, by decide +kernel⟩, mn_inW 843 (by decide +kernel) (by decide +kernel), mn_inW 18 (by decide +kernel) (by decide +kernel)⟩
theorem okMo_piece : mn_okV MMo_piece 0 := ⟨⟨by decide +kernel, mn_inW 848 (by decide +kernel) (by decide +kernel), ini_Mo, ⟨by decide +kernel, by decide +kernel⟩, by decide +kernel⟩, mn_inW 847 (by decide +kernel) (by decide +kernel), mn_inW 19 (by decide +kernel) (by decide +kernel)⟩
theorem okMo_byteOf : mn_okV MMo_byteOf 2 := ⟨⟨by decide +kernel, mn_inW 852 (by decide +kernel) (by decide +kernel), ini_Mo, ⟨by decide +kernel, by decide +kernel⟩, by decide +kernel⟩, mn_inW 850 (by decide +kernel) (by decide +kernel), mn_inW 851 (by decide +kernel) (by decide +kernel)⟩
theorem okMo_make : mn_okV MMo_make 1 := ⟨⟨by decide +kernel, mn_inW 857 (by decide +kernel) (by decide +kernel), ini_Mo, ⟨by decide +kernel, by decide +kernel⟩, by decide +kernel⟩, mn_inW 856 (by decide +kernel) (by decide +kernel), mn_inW 20 (by decide +kernel) (by decide +kernel)⟩
theorem okMo_ofVolume : mn_okV MMo_ofVolume 2 := ⟨⟨by decide +kernel, mn_inW 861 (by decide +kernel) (by decide +kernel), ini_Mo, ⟨by decide +kernel, by decide +kernel⟩, by decide +kernel⟩, mn_inW 860 (by decide +kernel) (by decide +kernel), mn_inW 21 (by decide +kernel) (by decide +kernel)⟩
theorem okMo_ofPiece : mn_okV MMo_ofPiece 2 := ⟨⟨by decide +kernel, mn_inW 865 (by decide +kernel) (by decide +kernel), ini_Mo, ⟨by decide +kernel, by decide +kernel⟩, by decide +kernel⟩, mn_inW 864 (by decide +kernel) (by decide +kernel), mn_inW 22 (by decide +kernel) (by decide +kernel)⟩
theorem okMo_power : mn_okS MMo_power 1 := ⟨⟨by decide +kernel, mn_inW 868 (by decide +kernel) (by decide +kernel), ini_Mo, ⟨by decide +kernel, by decide +kernel⟩, by decide +kernel⟩, mn_inW 867 (by decide +kernel) (by decide +kernel)⟩
theorem okMo_times : mn_okS MMo_times 2 := ⟨⟨by decide +kernel, mn_inW 871 (by decide +kernel) (by decide +kernel), ini_Mo, ⟨by decide +kernel, by decide +kernel⟩, by decide +kernel⟩, mn_inW 870 (by decide +kernel) (by decide +kernel)⟩
theorem okMo_write : mn_okV MMo_write 1 := ⟨⟨by decide +kernel, mn_inW 875 (by decide +kernel) (by decide +kernel), ini_Mo, ⟨by decide +kernel, by decide +kernel⟩, by decide +kernel⟩, mn_inW 873 (by decide +kernel) (by decide +kernel), mn_inW 874 (by decide +kernel) (by decide +kernel)⟩
theorem okMo_isThere : mn_okV MMo_isThere 0 := ⟨⟨by decide +kernel, mn_inW 879 (by decide +kernel) (by decide +kernel), ini_Mo, ⟨by decide +kernel, by decide +kernel⟩, by decide +kernel⟩, mn_inW 878 (by decide +kernel) (by decide +kernel), mn_inW 23 (by decide +kernel) (by decide +kernel)⟩
theorem okMo_emptySlots : mn_okV MMo_emptySlots 0 := ⟨⟨by decide +kernel, mn_inW 883 (by decide +kernel) (by decide +kernel), ini_Mo, ⟨by decide +kernel, by decide +kernel⟩, by decide +kernel⟩, mn_inW 882 (by decide +kernel) (by decide +kernel), mn_inW 24 (by decide +kernel) (by decide +kernel)⟩
theorem okMo_lay : mn_okV MMo_lay 1 := ⟨⟨by decide +kernel, mn_inW 887 (by decide +kernel) (by decide +kernel), ini_Mo, ⟨by decide +kernel, by decide +kernel⟩, by decide +kernel⟩, mn_inW 886 (by decide +kernel) (by decide +kernel), mn_inW 25 (by decide +kernel) (by decide +kernel)⟩
theorem okMo_lose : mn_okV MMo_lose 1 := ⟨⟨by decide +kernel, mn_inW 891 (by decide +kernel) (by decide +kernel), ini_Mo, ⟨by decide +kernel, by decide +kernel⟩, by decide +kernel⟩, mn_inW 889 (by decide +kernel) (by decide +kernel), mn_inW 890 (by decide +kernel) (by decide +kernel)⟩
theorem okMo_noSlot : mn_okV MMo_noSlot 1 := ⟨⟨by decide +kernel, mn_inW 895 (by decide +kernel) (by decide +kernel), ini_Mo, ⟨by decide +kernel, by decide +kernel⟩, by decide +kernel⟩, mn_inW 894 (by decide +kernel) (by decide +kernel), mn_inW 26 (by decide +kernel) (by decide +kernel)⟩
theorem okMo_poke : mn_okV MMo_poke 3 := ⟨⟨by decide +kernel, mn_inW 899 (by decide +kernel) (by decide +kernel), ini_Mo, ⟨by decide +kernel, by decide +kernel⟩, by decide +kernel⟩, mn_inW 897 (by decide +kernel) (by decide +kernel), mn_inW 898 (by decide +kernel) (by decide +kernel)⟩
theorem okMo_swap : mn_okV MMo_swap 2 := ⟨⟨by decide +kernel, mn_inW 903 (by decide +kernel) (by decide +kernel), ini_Mo, ⟨by decide +kernel, by decide +kernel⟩, by decide +kernel⟩, mn_inW 901 (by decide +kernel) (by decide +kernel), mn_inW 902 (by decide +kernel) (by decide +kernel)⟩
theorem okMo_copy : mn_okV MMo_copy 2 := ⟨⟨by decide +kernel, mn_inW 907 (by decide +kernel) (by decide +kernel), ini_Mo, ⟨by decide +kernel, by decide +kernel⟩, by decide +kernel⟩, mn_inW 905 (by decide +kernel) (by decide +kernel), mn_inW 906 (by decide +kernel) (by decide +kernel)⟩
theorem okMo_slot : mn_okV MMo_slot 2 := ⟨⟨by decide +kernel, mn_inW 911 (by decide +kernel) (by decide +kernel), ini_Mo, ⟨by decide +kernel, by decide +kernel⟩, by decide +kernel⟩, mn_inW 909 (by decide +kernel) (by decide +kernel), mn_inW 910 (by decide +kernel) (by decide +kernel)⟩
theorem okMo_state : mn_okV MMo_state 1 := ⟨⟨by decide +kernel, mn_inW 915 (by decide +kernel) (by decide +kernel), ini_Mo, ⟨by decide +kernel, by decide +kernel⟩, by decide +kernel⟩, mn_inW 914 (by decide +kernel) (by decide +kernel), mn_inW 27 (by decide +kernel) (by decide +kernel)⟩
theorem okMo_two : mn_okV MMo_two 1 := ⟨⟨by decide +kernel, mn_inW 919 (by decide +kernel) (by decide +kernel), ini_Mo, ⟨by decide +kernel, by decide +kernel⟩, by decide +kernel⟩, mn_inW 918 (by decide +kernel) (by decide +kernel), mn_inW 28 (by decide +kernel) (by decide +kernel)⟩
theorem okMo_read : mn_okV MMo_read 1 := ⟨⟨by decide +kernel, mn_inW 923 (by decide +kernel) (by decide +kernel), ini_Mo, ⟨by decide +kernel, by decide +kernel⟩, by decide +kernel⟩, mn_inW 921 (by decide +kernel) (by decide +kernel), mn_inW 922 (by decide +kernel) (by decide +kernel)⟩
theorem okMo_makeAgain : mn_okV MMo_makeAgain 0 := ⟨⟨by decide +kernel, mn_inW 927 (by decide +kernel) (by decide +kernel), ini_Mo, ⟨by decide +kernel, by decide +kernel⟩, by decide +kernel⟩, mn_inW 926 (by decide +kernel) (by decide +kernel), mn_inW 29 (by decide +kernel) (by decide +kernel)⟩
theorem okMo_solve : mn_okV MMo_solve 2 := ⟨⟨by decide +kernel, mn_inW 931 (by decide +kernel) (by decide +kernel), ini_Mo, ⟨by decide +kernel, by decide +kernel⟩, by decide +kernel⟩, mn_inW 930 (by decide +kernel) (by decide +kernel), mn_inW 30 (by decide +kernel) (by decide +kernel)⟩
theorem okMo_known : mn_okV MMo_known 2 := ⟨⟨by decide +kernel, mn_inW 935 (by decide +kernel) (by decide +kernel), ini_Mo, ⟨by decide +kernel, by decide +kernel⟩, by decide +kernel⟩, mn_inW 934 (by decide +kernel) (by decide +kernel), mn_inW 31 (by decide +kernel) (by decide +kernel)⟩
theorem okMo_over : mn_okS MMo_over 1 := ⟨⟨by decide +kernel, mn_inW 938 (by decide +kernel) (by decide +kernel), ini_Mo, ⟨by decide +kernel, by decide +kernel⟩, by decide +kernel⟩, mn_inW 937 (by decide +kernel) (by decide +kernel)⟩
theorem okMo_open : mn_okV MMo_open 0 := ⟨⟨by decide +kernel, mn_inW 942 (by decide +kernel) (by decide +kernel), ini_Mo, ⟨by decide +kernel, by decide +kernel⟩, by decide +kernel⟩, mn_inW 941 (by decide +kernel) (by decide +kernel), mn_inW 32 (by decide +kernel) (by decide +kernel)⟩
theorem okMo_isKnown : mn_okV MMo_isKnown 1 := ⟨⟨by decide +kernel, mn_inW 946 (by decide +kernel) (by decide +kernel), ini_Mo, ⟨by decide +kernel, by decide +kernel⟩, by decide +kernel⟩, mn_inW 945 (by decide +kernel) (by decide +kernel), mn_inW 33 (by decide +kernel) (by decide +kernel)⟩
theorem okMo_isWhole : mn_okV MMo_isWhole 2 := ⟨⟨by decide +kernel, mn_inW 950 (by decide +kernel) (by decide +kernel), ini_Mo, ⟨by decide +kernel, by decide +kernel⟩, by decide +kernel⟩, mn_inW 949 (by decide +kernel) (by decide +kernel), mn_inW 34 (by decide +kernel) (by decide +kernel)⟩
theorem okMo_found : mn_okV MMo_found 1 := ⟨⟨by decide +kernel, mn_inW 954 (by decide +kernel) (by decide +kernel), ini_Mo, ⟨by decide +kernel, by decide +kernel⟩, by decide +kernel⟩, mn_inW 952 (by decide +kernel) (by decide +kernel), mn_inW 953 (by decide +kernel) (by decide +kernel)⟩
theorem okMo_where : mn_okV MMo_where 1 := ⟨⟨by decide +kernel, mn_inW 958 (by decide +kernel) (by decide +kernel), ini_Mo, ⟨by decide +kernel, by decide +kernel⟩, by decide +kernel⟩, mn_inW 956 (by decide +kernel) (by decide +kernel), mn_inW 957 (by decide +kernel) (by decide +kernel)⟩
theorem okMo_got : mn_okV MMo_got 1 := ⟨⟨by decide +kernel, mn_inW 962 (by decide +kernel) (by decide +kernel), ini_Mo, ⟨by decide +kernel, by decide +kernel⟩, by decide +kernel⟩, mn_inW 960 (by decide +kernel) (by decide +kernel), mn_inW 961 (by decide +kernel) (by decide +kernel)⟩
theorem okMo_opened : mn_okV MMo_opened 2 := ⟨⟨by decide +kernel, mn_inW 966 (by decide +kernel) (by decide +kernel), ini_Mo, ⟨by decide +kernel, by decide +kernel⟩, by decide +kernel⟩, mn_inW 964 (by decide +kernel) (by decide +kernel), mn_inW 965 (by decide +kernel) (by decide +kernel)⟩
theorem okMo_count : mn_okV MMo_count 1 := ⟨⟨by decide +kernel, mn_inW 970 (by decide +kernel) (by decide +kernel), ini_Mo, ⟨by decide +kernel, by decide +kernel⟩, by decide +kernel⟩, mn_inW 968 (by decide +kernel) (by decide +kernel), mn_inW 969 (by decide +kernel) (by decide +kernel)⟩
theorem oi_inst : Cond.instanceMethod Lib.objectInit ∈ mn_W := mn_inW 58 (by decide +kernel) (by decide +kernel)
theorem oi_code : Cond.code Lib.objectInit ⟨#[0xb1]⟩ 1 none ∈ mn_W := mn_inW 59 (by decide +kernel) (by decide +kernel)
theorem max_st : Cond.static Lib.Math.max.name ∈ mn_W := mn_inW 89 (by decide +kernel) (by decide +kernel)
theorem max_code : Cond.code Lib.Math.max.name Lib.Math.max.code 2 (some .int) ∈ mn_W := mn_inW 90 (by decide +kernel) (by decide +kernel)
theorem min_st : Cond.static Lib.Math.min.name ∈ mn_W := mn_inW 403 (by decide +kernel) (by decide +kernel)
theorem min_code : Cond.code Lib.Math.min.name Lib.Math.min.code 2 (some .int) ∈ mn_W := mn_inW 404 (by decide +kernel) (by decide +kernel)
theorem math_ini : Cond.initialized "java/lang/Math" ∈ mn_W := ini_Math
theorem sys_ini : Cond.initialized "java/lang/System" ∈ mn_W := ini_System
theorem ac_nat : Cond.native arraycopyName ∈ mn_W := mn_inW 496 (by decide +kernel) (by decide +kernel)
theorem ac_st : Cond.static arraycopyName ∈ mn_W := mn_inW 495 (by decide +kernel) (by decide +kernel)
theorem arr_int : Cond.arrayClass .int ∈ mn_W := mn_inW 75 (by decide +kernel) (by decide +kernel)
theorem over_Vo : Cond.arrayOver (.object "VolumeSets$Volume") ∈ mn_NW := mn_inN 187 (by decide +kernel) (by decide +kernel)
theorem over_int : Cond.arrayOver (.array .int) ∈ mn_NW := mn_inN 208 (by decide +kernel) (by decide +kernel)
theorem lLa_7 : Cond.classLink "VolumeSetsLaw" 7 "VolumeSets" ∈ mn_W := mn_inW 52 (by decide +kernel) (by decide +kernel)
theorem lLa_9 : Cond.methodLink "VolumeSetsLaw" 9 ⟨"VolumeSets", "<init>", "()V"⟩ ∈ mn_W := mn_inW 54 (by decide +kernel) (by decide +kernel)
theorem lVS_1 : Cond.methodLink "VolumeSets" 1 ⟨"java/lang/Object", "<init>", "()V"⟩ ∈ mn_W := mn_inW 57 (by decide +kernel) (by decide +kernel)
theorem lVS_7 : Cond.classLink "VolumeSets" 7 "VolumeSets$Tape" ∈ mn_W := mn_inW 60 (by decide +kernel) (by decide +kernel)
theorem lVS_9 : Cond.methodLinkNest "VolumeSets" 9 ⟨"VolumeSets$Tape", "<init>", "()V"⟩ "VolumeSets" ∈ mn_NW := mn_inN 62 (by decide +kernel) (by decide +kernel)
theorem lTa_3 : Cond.methodLink "VolumeSets$Tape" 3 ⟨"java/lang/Object", "<init>", "()V"⟩ ∈ mn_W := mn_inW 65 (by decide +kernel) (by decide +kernel)
theorem lTa_9 : Cond.fieldLink "VolumeSets$Tape" 9 "VolumeSets$Tape" "bytes" "[I" ∈ mn_W := mn_inW 66 (by decide +kernel) (by decide +kernel)
theorem lVS_58 : Cond.fieldLink "VolumeSets" 58 "VolumeSets$Tape" "length" "I" ∈ mn_W := mn_inW 67 (by decide +kernel) (by decide +kernel)
theorem lSt_37 : Cond.fieldLink "VolumeSets$Stream" 37 "VolumeSets$Tape" "length" "I" ∈ mn_W := mn_inW 68 (by decide +kernel) (by decide +kernel)
theorem lTa_19 : Cond.fieldLink "VolumeSets$Tape" 19 "VolumeSets$Tape" "length" "I" ∈ mn_W := mn_inW 69 (by decide +kernel) (by decide +kernel)
theorem lVS_16 : Cond.classLink "VolumeSets" 16 "VolumeSets$Stream" ∈ mn_W := mn_inW 76 (by decide +kernel) (by decide +kernel)
theorem lVS_18 : Cond.methodLinkNest "VolumeSets" 18 ⟨"VolumeSets$Stream", "<init>", "()V"⟩ "VolumeSets" ∈ mn_NW := mn_inN 78 (by decide +kernel) (by decide +kernel)
theorem lSt_3 : Cond.methodLink "VolumeSets$Stream" 3 ⟨"java/lang/Object", "<init>", "()V"⟩ ∈ mn_W := mn_inW 81 (by decide +kernel) (by decide +kernel)
theorem lSt_9 : Cond.classLink "VolumeSets$Stream" 9 "VolumeSets$Pieces" ∈ mn_W := mn_inW 82 (by decide +kernel) (by decide +kernel)
theorem lSt_13 : Cond.methodLink "VolumeSets$Stream" 13 ⟨"VolumeSets$Pieces", "<init>", "(I)V"⟩ ∈ mn_W := mn_inW 84 (by decide +kernel) (by decide +kernel)
theorem lPc_3 : Cond.methodLink "VolumeSets$Pieces" 3 ⟨"java/lang/Object", "<init>", "()V"⟩ ∈ mn_W := mn_inW 87 (by decide +kernel) (by decide +kernel)
theorem lPc_18 : Cond.methodLink "VolumeSets$Pieces" 18 ⟨"java/lang/Math", "max", "(II)I"⟩ ∈ mn_W := mn_inW 88 (by decide +kernel) (by decide +kernel)
theorem lPc_24 : Cond.fieldLink "VolumeSets$Pieces" 24 "VolumeSets$Pieces" "bytes" "[I" ∈ mn_W := mn_inW 91 (by decide +kernel) (by decide +kernel)
theorem lPc_9 : Cond.fieldLink "VolumeSets$Pieces" 9 "VolumeSets$Pieces" "lengths" "[I" ∈ mn_W := mn_inW 92 (by decide +kernel) (by decide +kernel)
theorem lPc_15 : Cond.fieldLink "VolumeSets$Pieces" 15 "VolumeSets$Pieces" "starts" "[I" ∈ mn_W := mn_inW 93 (by decide +kernel) (by decide +kernel)
theorem lWr_32 : Cond.fieldLink "VolumeSets$Writer" 32 "VolumeSets$Pieces" "many" "I" ∈ mn_W := mn_inW 94 (by decide +kernel) (by decide +kernel)
theorem lPc_33 : Cond.fieldLink "VolumeSets$Pieces" 33 "VolumeSets$Pieces" "many" "I" ∈ mn_W := mn_inW 95 (by decide +kernel) (by decide +kernel)
theorem lRd_93 : Cond.fieldLink "VolumeSets$Reading" 93 "VolumeSets$Pieces" "many" "I" ∈ mn_W := mn_inW 96 (by decide +kernel) (by decide +kernel)
theorem lSt_69 : Cond.fieldLink "VolumeSets$Stream" 69 "VolumeSets$Pieces" "many" "I" ∈ mn_W := mn_inW 97 (by decide +kernel) (by decide +kernel)
theorem lVS_172 : Cond.fieldLink "VolumeSets" 172 "VolumeSets$Pieces" "many" "I" ∈ mn_W := mn_inW 98 (by decide +kernel) (by decide +kernel)
theorem lPc_37 : Cond.fieldLink "VolumeSets$Pieces" 37 "VolumeSets$Pieces" "width" "I" ∈ mn_W := mn_inW 99 (by decide +kernel) (by decide +kernel)
theorem lRd_96 : Cond.fieldLink "VolumeSets$Reading" 96 "VolumeSets$Pieces" "width" "I" ∈ mn_W := mn_inW 100 (by decide +kernel) (by decide +kernel)
theorem lSt_72 : Cond.fieldLink "VolumeSets$Stream" 72 "VolumeSets$Pieces" "width" "I" ∈ mn_W := mn_inW 101 (by decide +kernel) (by decide +kernel)
theorem lSt_16 : Cond.fieldLink "VolumeSets$Stream" 16 "VolumeSets$Stream" "pieces" "LVolumeSets$Pieces;" ∈ mn_W := mn_inW 113 (by decide +kernel) (by decide +kernel)
theorem lVS_100 : Cond.fieldLink "VolumeSets" 100 "VolumeSets$Stream" "pieces" "LVolumeSets$Pieces;" ∈ mn_W := mn_inW 114 (by decide +kernel) (by decide +kernel)
theorem lSt_20 : Cond.fieldLink "VolumeSets$Stream" 20 "VolumeSets$Stream" "beginnings" "[I" ∈ mn_W := mn_inW 115 (by decide +kernel) (by decide +kernel)
theorem lSt_24 : Cond.fieldLink "VolumeSets$Stream" 24 "VolumeSets$Stream" "entries" "I" ∈ mn_W := mn_inW 116 (by decide +kernel) (by decide +kernel)
theorem lVS_66 : Cond.fieldLink "VolumeSets" 66 "VolumeSets$Stream" "entries" "I" ∈ mn_W := mn_inW 117 (by decide +kernel) (by decide +kernel)
theorem lSt_28 : Cond.fieldLink "VolumeSets$Stream" 28 "VolumeSets$Stream" "length" "I" ∈ mn_W := mn_inW 118 (by decide +kernel) (by decide +kernel)
theorem lVS_199 : Cond.fieldLink "VolumeSets" 199 "VolumeSets$Stream" "length" "I" ∈ mn_W := mn_inW 119 (by decide +kernel) (by decide +kernel)
theorem lVS_23 : Cond.classLink "VolumeSets" 23 "VolumeSets$Rules" ∈ mn_W := mn_inW 129 (by decide +kernel) (by decide +kernel)
theorem lVS_25 : Cond.methodLinkNest "VolumeSets" 25 ⟨"VolumeSets$Rules", "<init>", "()V"⟩ "VolumeSets" ∈ mn_NW := mn_inN 131 (by decide +kernel) (by decide +kernel)
theorem lRu_3 : Cond.methodLink "VolumeSets$Rules" 3 ⟨"java/lang/Object", "<init>", "()V"⟩ ∈ mn_W := mn_inW 134 (by decide +kernel) (by decide +kernel)
theorem lRu_9 : Cond.fieldLink "VolumeSets$Rules" 9 "VolumeSets$Rules" "size" "I" ∈ mn_W := mn_inW 135 (by decide +kernel) (by decide +kernel)
theorem lWr_18 : Cond.fieldLink "VolumeSets$Writer" 18 "VolumeSets$Rules" "size" "I" ∈ mn_W := mn_inW 136 (by decide +kernel) (by decide +kernel)
theorem lVS_94 : Cond.fieldLink "VolumeSets" 94 "VolumeSets$Rules" "size" "I" ∈ mn_W := mn_inW 137 (by decide +kernel) (by decide +kernel)
theorem lWr_37 : Cond.fieldLink "VolumeSets$Writer" 37 "VolumeSets$Rules" "repairs" "I" ∈ mn_W := mn_inW 138 (by decide +kernel) (by decide +kernel)
theorem lRu_25 : Cond.fieldLink "VolumeSets$Rules" 25 "VolumeSets$Rules" "repairs" "I" ∈ mn_W := mn_inW 139 (by decide +kernel) (by decide +kernel)
theorem lVS_88 : Cond.fieldLink "VolumeSets" 88 "VolumeSets$Rules" "repairs" "I" ∈ mn_W := mn_inW 140 (by decide +kernel) (by decide +kernel)
theorem lWr_29 : Cond.fieldLink "VolumeSets$Writer" 29 "VolumeSets$Rules" "set" "I" ∈ mn_W := mn_inW 141 (by decide +kernel) (by decide +kernel)
theorem lRu_28 : Cond.fieldLink "VolumeSets$Rules" 28 "VolumeSets$Rules" "set" "I" ∈ mn_W := mn_inW 142 (by decide +kernel) (by decide +kernel)
theorem lVS_203 : Cond.fieldLink "VolumeSets" 203 "VolumeSets$Rules" "set" "I" ∈ mn_W := mn_inW 143 (by decide +kernel) (by decide +kernel)
theorem lVS_30 : Cond.classLink "VolumeSets" 30 "VolumeSets$Writer" ∈ mn_W := mn_inW 151 (by decide +kernel) (by decide +kernel)
theorem lVS_32 : Cond.methodLinkNest "VolumeSets" 32 ⟨"VolumeSets$Writer", "<init>", "()V"⟩ "VolumeSets" ∈ mn_NW := mn_inN 153 (by decide +kernel) (by decide +kernel)
theorem lWr_3 : Cond.methodLink "VolumeSets$Writer" 3 ⟨"java/lang/Object", "<init>", "()V"⟩ ∈ mn_W := mn_inW 156 (by decide +kernel) (by decide +kernel)
theorem lWr_9 : Cond.classLink "VolumeSets$Writer" 9 "VolumeSets$Volume" ∈ mn_W := mn_inW 157 (by decide +kernel) (by decide +kernel)
theorem lWr_11 : Cond.methodLinkNest "VolumeSets$Writer" 11 ⟨"VolumeSets$Volume", "<init>", "()V"⟩ "VolumeSets" ∈ mn_NW := mn_inN 159 (by decide +kernel) (by decide +kernel)
theorem lVo_3 : Cond.methodLink "VolumeSets$Volume" 3 ⟨"java/lang/Object", "<init>", "()V"⟩ ∈ mn_W := mn_inW 162 (by decide +kernel) (by decide +kernel)
theorem lVo_9 : Cond.fieldLink "VolumeSets$Volume" 9 "VolumeSets$Volume" "bytes" "[I" ∈ mn_W := mn_inW 163 (by decide +kernel) (by decide +kernel)
theorem lWr_24 : Cond.fieldLink "VolumeSets$Writer" 24 "VolumeSets$Volume" "size" "I" ∈ mn_W := mn_inW 164 (by decide +kernel) (by decide +kernel)
theorem lRd_82 : Cond.fieldLink "VolumeSets$Reading" 82 "VolumeSets$Volume" "size" "I" ∈ mn_W := mn_inW 165 (by decide +kernel) (by decide +kernel)
theorem lSl_22 : Cond.fieldLink "VolumeSets$Slots" 22 "VolumeSets$Volume" "size" "I" ∈ mn_W := mn_inW 166 (by decide +kernel) (by decide +kernel)
theorem lEq_33 : Cond.fieldLink "VolumeSets$Equations" 33 "VolumeSets$Volume" "size" "I" ∈ mn_W := mn_inW 167 (by decide +kernel) (by decide +kernel)
theorem lVo_23 : Cond.fieldLink "VolumeSets$Volume" 23 "VolumeSets$Volume" "size" "I" ∈ mn_W := mn_inW 168 (by decide +kernel) (by decide +kernel)
theorem lVS_137 : Cond.fieldLink "VolumeSets" 137 "VolumeSets$Volume" "size" "I" ∈ mn_W := mn_inW 169 (by decide +kernel) (by decide +kernel)
theorem lWr_12 : Cond.fieldLink "VolumeSets$Writer" 12 "VolumeSets$Writer" "volume" "LVolumeSets$Volume;" ∈ mn_W := mn_inW 175 (by decide +kernel) (by decide +kernel)
theorem lVS_108 : Cond.fieldLink "VolumeSets" 108 "VolumeSets$Writer" "volume" "LVolumeSets$Volume;" ∈ mn_W := mn_inW 176 (by decide +kernel) (by decide +kernel)
theorem lVS_37 : Cond.classLink "VolumeSets" 37 "VolumeSets$Slots" ∈ mn_W := mn_inW 180 (by decide +kernel) (by decide +kernel)
theorem lVS_39 : Cond.methodLink "VolumeSets" 39 ⟨"VolumeSets$Slots", "<init>", "()V"⟩ ∈ mn_W := mn_inW 182 (by decide +kernel) (by decide +kernel)
theorem lSl_3 : Cond.methodLink "VolumeSets$Slots" 3 ⟨"java/lang/Object", "<init>", "()V"⟩ ∈ mn_W := mn_inW 185 (by decide +kernel) (by decide +kernel)
theorem lSl_9 : Cond.classLink "VolumeSets$Slots" 9 "VolumeSets$Volume" ∈ mn_W := mn_inW 186 (by decide +kernel) (by decide +kernel)
theorem lSl_17 : Cond.methodLinkNest "VolumeSets$Slots" 17 ⟨"VolumeSets$Volume", "<init>", "()V"⟩ "VolumeSets" ∈ mn_NW := mn_inN 188 (by decide +kernel) (by decide +kernel)
theorem lSl_11 : Cond.fieldLink "VolumeSets$Slots" 11 "VolumeSets$Slots" "volumes" "[LVolumeSets$Volume;" ∈ mn_W := mn_inW 189 (by decide +kernel) (by decide +kernel)
theorem lVS_44 : Cond.classLink "VolumeSets" 44 "VolumeSets$Reading" ∈ mn_W := mn_inW 193 (by decide +kernel) (by decide +kernel)
theorem lVS_46 : Cond.methodLinkNest "VolumeSets" 46 ⟨"VolumeSets$Reading", "<init>", "()V"⟩ "VolumeSets" ∈ mn_NW := mn_inN 195 (by decide +kernel) (by decide +kernel)
theorem lRd_3 : Cond.methodLink "VolumeSets$Reading" 3 ⟨"java/lang/Object", "<init>", "()V"⟩ ∈ mn_W := mn_inW 198 (by decide +kernel) (by decide +kernel)
theorem lRd_9 : Cond.classLink "VolumeSets$Reading" 9 "VolumeSets$Pieces" ∈ mn_W := mn_inW 199 (by decide +kernel) (by decide +kernel)
theorem lRd_11 : Cond.methodLink "VolumeSets$Reading" 11 ⟨"VolumeSets$Pieces", "<init>", "(I)V"⟩ ∈ mn_W := mn_inW 200 (by decide +kernel) (by decide +kernel)
theorem lRd_24 : Cond.classLink "VolumeSets$Reading" 24 "VolumeSets$Equations" ∈ mn_W := mn_inW 201 (by decide +kernel) (by decide +kernel)
theorem lRd_26 : Cond.methodLinkNest "VolumeSets$Reading" 26 ⟨"VolumeSets$Equations", "<init>", "()V"⟩ "VolumeSets" ∈ mn_NW := mn_inN 203 (by decide +kernel) (by decide +kernel)
theorem lEq_3 : Cond.methodLink "VolumeSets$Equations" 3 ⟨"java/lang/Object", "<init>", "()V"⟩ ∈ mn_W := mn_inW 206 (by decide +kernel) (by decide +kernel)
theorem lEq_9 : Cond.classLink "VolumeSets$Equations" 9 "[[I" ∈ mn_W := mn_inW 207 (by decide +kernel) (by decide +kernel)
theorem lEq_11 : Cond.fieldLink "VolumeSets$Equations" 11 "VolumeSets$Equations" "rows" "[[I" ∈ mn_W := mn_inW 209 (by decide +kernel) (by decide +kernel)
theorem lEq_16 : Cond.fieldLink "VolumeSets$Equations" 16 "VolumeSets$Equations" "numbers" "[I" ∈ mn_W := mn_inW 210 (by decide +kernel) (by decide +kernel)
theorem lEq_20 : Cond.fieldLink "VolumeSets$Equations" 20 "VolumeSets$Equations" "unknowns" "I" ∈ mn_W := mn_inW 211 (by decide +kernel) (by decide +kernel)
theorem lRd_133 : Cond.fieldLink "VolumeSets$Reading" 133 "VolumeSets$Equations" "unknowns" "I" ∈ mn_W := mn_inW 212 (by decide +kernel) (by decide +kernel)
theorem lEq_24 : Cond.fieldLink "VolumeSets$Equations" 24 "VolumeSets$Equations" "given" "I" ∈ mn_W := mn_inW 213 (by decide +kernel) (by decide +kernel)
theorem lRd_120 : Cond.fieldLink "VolumeSets$Reading" 120 "VolumeSets$Equations" "given" "I" ∈ mn_W := mn_inW 214 (by decide +kernel) (by decide +kernel)
theorem lRd_14 : Cond.fieldLink "VolumeSets$Reading" 14 "VolumeSets$Reading" "pieces" "LVolumeSets$Pieces;" ∈ mn_W := mn_inW 224 (by decide +kernel) (by decide +kernel)
theorem lVS_164 : Cond.fieldLink "VolumeSets" 164 "VolumeSets$Reading" "pieces" "LVolumeSets$Pieces;" ∈ mn_W := mn_inW 225 (by decide +kernel) (by decide +kernel)
theorem lRd_20 : Cond.fieldLink "VolumeSets$Reading" 20 "VolumeSets$Reading" "places" "[I" ∈ mn_W := mn_inW 226 (by decide +kernel) (by decide +kernel)
theorem lRd_27 : Cond.fieldLink "VolumeSets$Reading" 27 "VolumeSets$Reading" "equations" "LVolumeSets$Equations;" ∈ mn_W := mn_inW 227 (by decide +kernel) (by decide +kernel)
theorem lRd_37 : Cond.fieldLink "VolumeSets$Reading" 37 "VolumeSets$Reading" "done" "Z" ∈ mn_W := mn_inW 228 (by decide +kernel) (by decide +kernel)
theorem lVS_160 : Cond.fieldLink "VolumeSets" 160 "VolumeSets$Reading" "done" "Z" ∈ mn_W := mn_inW 229 (by decide +kernel) (by decide +kernel)
theorem lRd_85 : Cond.fieldLink "VolumeSets$Reading" 85 "VolumeSets$Reading" "size" "I" ∈ mn_W := mn_inW 230 (by decide +kernel) (by decide +kernel)
theorem lVS_178 : Cond.fieldLink "VolumeSets" 178 "VolumeSets$Reading" "size" "I" ∈ mn_W := mn_inW 231 (by decide +kernel) (by decide +kernel)
theorem lRd_90 : Cond.fieldLink "VolumeSets$Reading" 90 "VolumeSets$Reading" "repairs" "I" ∈ mn_W := mn_inW 232 (by decide +kernel) (by decide +kernel)
theorem lVS_177 : Cond.fieldLink "VolumeSets" 177 "VolumeSets$Reading" "repairs" "I" ∈ mn_W := mn_inW 233 (by decide +kernel) (by decide +kernel)
theorem lRd_66 : Cond.fieldLink "VolumeSets$Reading" 66 "VolumeSets$Reading" "present" "I" ∈ mn_W := mn_inW 234 (by decide +kernel) (by decide +kernel)
theorem lRd_70 : Cond.fieldLink "VolumeSets$Reading" 70 "VolumeSets$Reading" "madeAgain" "I" ∈ mn_W := mn_inW 235 (by decide +kernel) (by decide +kernel)
theorem lVS_179 : Cond.fieldLink "VolumeSets" 179 "VolumeSets$Reading" "madeAgain" "I" ∈ mn_W := mn_inW 236 (by decide +kernel) (by decide +kernel)
theorem lVS_51 : Cond.classLink "VolumeSets" 51 "VolumeSets$Opening" ∈ mn_W := mn_inW 254 (by decide +kernel) (by decide +kernel)
theorem lVS_53 : Cond.methodLinkNest "VolumeSets" 53 ⟨"VolumeSets$Opening", "<init>", "()V"⟩ "VolumeSets" ∈ mn_NW := mn_inN 256 (by decide +kernel) (by decide +kernel)
theorem lOp_3 : Cond.methodLink "VolumeSets$Opening" 3 ⟨"java/lang/Object", "<init>", "()V"⟩ ∈ mn_W := mn_inW 259 (by decide +kernel) (by decide +kernel)
theorem lOp_9 : Cond.fieldLink "VolumeSets$Opening" 9 "VolumeSets$Opening" "places" "[I" ∈ mn_W := mn_inW 260 (by decide +kernel) (by decide +kernel)
theorem lOp_15 : Cond.fieldLink "VolumeSets$Opening" 15 "VolumeSets$Opening" "lengths" "[I" ∈ mn_W := mn_inW 261 (by decide +kernel) (by decide +kernel)
theorem lOp_18 : Cond.fieldLink "VolumeSets$Opening" 18 "VolumeSets$Opening" "whole" "[I" ∈ mn_W := mn_inW 262 (by decide +kernel) (by decide +kernel)
theorem lOp_21 : Cond.fieldLink "VolumeSets$Opening" 21 "VolumeSets$Opening" "told" "I" ∈ mn_W := mn_inW 263 (by decide +kernel) (by decide +kernel)
theorem lVS_169 : Cond.fieldLink "VolumeSets" 169 "VolumeSets$Opening" "told" "I" ∈ mn_W := mn_inW 264 (by decide +kernel) (by decide +kernel)
theorem lVS_10 : Cond.fieldLink "VolumeSets" 10 "VolumeSets" "tape" "LVolumeSets$Tape;" ∈ mn_W := mn_inW 274 (by decide +kernel) (by decide +kernel)
theorem lVS_19 : Cond.fieldLink "VolumeSets" 19 "VolumeSets" "stream" "LVolumeSets$Stream;" ∈ mn_W := mn_inW 275 (by decide +kernel) (by decide +kernel)
theorem lVS_26 : Cond.fieldLink "VolumeSets" 26 "VolumeSets" "rules" "LVolumeSets$Rules;" ∈ mn_W := mn_inW 276 (by decide +kernel) (by decide +kernel)
theorem lVS_33 : Cond.fieldLink "VolumeSets" 33 "VolumeSets" "writer" "LVolumeSets$Writer;" ∈ mn_W := mn_inW 277 (by decide +kernel) (by decide +kernel)
theorem lVS_40 : Cond.fieldLink "VolumeSets" 40 "VolumeSets" "slots" "LVolumeSets$Slots;" ∈ mn_W := mn_inW 278 (by decide +kernel) (by decide +kernel)
theorem lVS_47 : Cond.fieldLink "VolumeSets" 47 "VolumeSets" "reading" "LVolumeSets$Reading;" ∈ mn_W := mn_inW 279 (by decide +kernel) (by decide +kernel)
theorem lVS_54 : Cond.fieldLink "VolumeSets" 54 "VolumeSets" "opening" "LVolumeSets$Opening;" ∈ mn_W := mn_inW 280 (by decide +kernel) (by decide +kernel)
theorem lLa_13 : Cond.methodLink "VolumeSetsLaw" 13 ⟨"VolumeSets", "feed", "(IIIII)I"⟩ ∈ mn_W := mn_inW 296 (by decide +kernel) (by decide +kernel)
theorem lVS_62 : Cond.methodLink "VolumeSets" 62 ⟨"VolumeSets$Tape", "addNumber", "(I)V"⟩ ∈ mn_W := mn_inW 300 (by decide +kernel) (by decide +kernel)
theorem lTa_15 : Cond.methodLink "VolumeSets$Tape" 15 ⟨"VolumeSets$Tape", "add", "(I)V"⟩ ∈ mn_W := mn_inW 304 (by decide +kernel) (by decide +kernel)
theorem lLa_18 : Cond.methodLink "VolumeSetsLaw" 18 ⟨"VolumeSets", "end", "(I)I"⟩ ∈ mn_W := mn_inW 308 (by decide +kernel) (by decide +kernel)
theorem lLa_23 : Cond.methodLink "VolumeSetsLaw" 23 ⟨"VolumeSets", "entry", "()I"⟩ ∈ mn_W := mn_inW 312 (by decide +kernel) (by decide +kernel)
theorem lVS_69 : Cond.methodLink "VolumeSets" 69 ⟨"VolumeSets$Stream", "append", "(LVolumeSets$Tape;)V"⟩ ∈ mn_W := mn_inW 316 (by decide +kernel) (by decide +kernel)
theorem lSt_31 : Cond.methodLink "VolumeSets$Stream" 31 ⟨"VolumeSets$Tape", "sum", "()I"⟩ ∈ mn_W := mn_inW 320 (by decide +kernel) (by decide +kernel)
theorem lTa_23 : Cond.methodLink "VolumeSets$Tape" 23 ⟨"VolumeSets$Bytes", "sum", "([III)I"⟩ ∈ mn_W := mn_inW 324 (by decide +kernel) (by decide +kernel)
theorem lBy_7 : Cond.methodLink "VolumeSets$Bytes" 7 ⟨"java/lang/Math", "max", "(II)I"⟩ ∈ mn_W := mn_inW 327 (by decide +kernel) (by decide +kernel)
theorem lBy_13 : Cond.constant "VolumeSets$Bytes" 13 65535 ∈ mn_W := mn_inW 328 (by decide +kernel) (by decide +kernel)
theorem lSt_38 : Cond.methodLink "VolumeSets$Stream" 38 ⟨"VolumeSets$Stream", "add", "(I)V"⟩ ∈ mn_W := mn_inW 329 (by decide +kernel) (by decide +kernel)
theorem lSt_45 : Cond.methodLink "VolumeSets$Stream" 45 ⟨"VolumeSets$Pieces", "put", "(II)V"⟩ ∈ mn_W := mn_inW 333 (by decide +kernel) (by decide +kernel)
theorem lSt_41 : Cond.methodLink "VolumeSets$Stream" 41 ⟨"VolumeSets$Tape", "byteAt", "(I)I"⟩ ∈ mn_W := mn_inW 337 (by decide +kernel) (by decide +kernel)
theorem lLa_28 : Cond.methodLink "VolumeSetsLaw" 28 ⟨"VolumeSets", "clear", "()I"⟩ ∈ mn_W := mn_inW 341 (by decide +kernel) (by decide +kernel)
theorem lVS_73 : Cond.methodLink "VolumeSets" 73 ⟨"VolumeSets$Stream", "forgetAll", "()V"⟩ ∈ mn_W := mn_inW 345 (by decide +kernel) (by decide +kernel)
theorem lSt_49 : Cond.methodLink "VolumeSets$Stream" 49 ⟨"VolumeSets$Pieces", "blank", "()V"⟩ ∈ mn_W := mn_inW 349 (by decide +kernel) (by decide +kernel)
theorem lPc_27 : Cond.methodLink "VolumeSets$Pieces" 27 ⟨"java/util/Arrays", "fill", "([II)V"⟩ ∈ mn_W := mn_inW 353 (by decide +kernel) (by decide +kernel)
theorem lLa_32 : Cond.methodLink "VolumeSetsLaw" 32 ⟨"VolumeSets", "rule", "(II)I"⟩ ∈ mn_W := mn_inW 356 (by decide +kernel) (by decide +kernel)
theorem lVS_76 : Cond.methodLink "VolumeSets" 76 ⟨"VolumeSets$Rules", "change", "(II)I"⟩ ∈ mn_W := mn_inW 360 (by decide +kernel) (by decide +kernel)
theorem lRu_15 : Cond.methodLink "VolumeSets$Rules" 15 ⟨"VolumeSets$Rules", "changeSize", "(I)I"⟩ ∈ mn_W := mn_inW 364 (by decide +kernel) (by decide +kernel)
theorem lRu_19 : Cond.methodLink "VolumeSets$Rules" 19 ⟨"VolumeSets$Rules", "changeRepairs", "(I)I"⟩ ∈ mn_W := mn_inW 368 (by decide +kernel) (by decide +kernel)
theorem lRu_22 : Cond.methodLink "VolumeSets$Rules" 22 ⟨"VolumeSets$Rules", "changeSet", "(I)I"⟩ ∈ mn_W := mn_inW 372 (by decide +kernel) (by decide +kernel)
theorem lLa_37 : Cond.methodLink "VolumeSetsLaw" 37 ⟨"VolumeSets", "volumes", "()I"⟩ ∈ mn_W := mn_inW 376 (by decide +kernel) (by decide +kernel)
theorem lVS_80 : Cond.methodLink "VolumeSets" 80 ⟨"VolumeSets$Rules", "width", "()I"⟩ ∈ mn_W := mn_inW 380 (by decide +kernel) (by decide +kernel)
theorem lVS_84 : Cond.methodLink "VolumeSets" 84 ⟨"VolumeSets$Stream", "pieceCount", "(I)I"⟩ ∈ mn_W := mn_inW 384 (by decide +kernel) (by decide +kernel)
theorem lSt_52 : Cond.methodLink "VolumeSets$Stream" 52 ⟨"VolumeSets$Bytes", "quotient", "(II)I"⟩ ∈ mn_W := mn_inW 388 (by decide +kernel) (by decide +kernel)
theorem lSt_58 : Cond.methodLink "VolumeSets$Stream" 58 ⟨"java/lang/Math", "max", "(II)I"⟩ ∈ mn_W := mn_inW 391 (by decide +kernel) (by decide +kernel)
theorem lLa_41 : Cond.methodLink "VolumeSetsLaw" 41 ⟨"VolumeSets", "byteOf", "(II)I"⟩ ∈ mn_W := mn_inW 392 (by decide +kernel) (by decide +kernel)
theorem lVS_91 : Cond.methodLink "VolumeSets" 91 ⟨"VolumeSets", "volumes", "()I"⟩ ∈ mn_W := mn_inW 396 (by decide +kernel) (by decide +kernel)
theorem lVS_97 : Cond.methodLink "VolumeSets" 97 ⟨"VolumeSets$Stream", "divide", "(I)V"⟩ ∈ mn_W := mn_inW 397 (by decide +kernel) (by decide +kernel)
theorem lSt_63 : Cond.methodLink "VolumeSets$Stream" 63 ⟨"VolumeSets$Stream", "pieceCount", "(I)I"⟩ ∈ mn_W := mn_inW 401 (by decide +kernel) (by decide +kernel)
theorem lSt_66 : Cond.methodLink "VolumeSets$Stream" 66 ⟨"java/lang/Math", "min", "(II)I"⟩ ∈ mn_W := mn_inW 402 (by decide +kernel) (by decide +kernel)
theorem lSt_75 : Cond.methodLink "VolumeSets$Stream" 75 ⟨"VolumeSets$Pieces", "putPart", "(III)V"⟩ ∈ mn_W := mn_inW 405 (by decide +kernel) (by decide +kernel)
theorem lPc_50 : Cond.methodLink "VolumeSets$Pieces" 50 ⟨"VolumeSets$Pieces", "put", "(II)V"⟩ ∈ mn_W := mn_inW 409 (by decide +kernel) (by decide +kernel)
theorem lSt_79 : Cond.methodLink "VolumeSets$Stream" 79 ⟨"VolumeSets$Stream", "startIn", "(II)I"⟩ ∈ mn_W := mn_inW 410 (by decide +kernel) (by decide +kernel)
theorem lVS_104 : Cond.methodLink "VolumeSets" 104 ⟨"VolumeSets$Writer", "make", "(ILVolumeSets$Pieces;LVolumeSets$Rules;)V"⟩ ∈ mn_W := mn_inW 414 (by decide +kernel) (by decide +kernel)
theorem lWr_25 : Cond.methodLink "VolumeSets$Writer" 25 ⟨"VolumeSets$Volume", "put", "(II)V"⟩ ∈ mn_W := mn_inW 418 (by decide +kernel) (by decide +kernel)
theorem lWr_40 : Cond.methodLink "VolumeSets$Writer" 40 ⟨"VolumeSets$Pieces", "part", "(II)I"⟩ ∈ mn_W := mn_inW 422 (by decide +kernel) (by decide +kernel)
theorem lPc_46 : Cond.methodLink "VolumeSets$Pieces" 46 ⟨"VolumeSets$Pieces", "byteAt", "(I)I"⟩ ∈ mn_W := mn_inW 426 (by decide +kernel) (by decide +kernel)
theorem lWr_44 : Cond.methodLink "VolumeSets$Writer" 44 ⟨"VolumeSets$Pieces", "mixed", "(II)I"⟩ ∈ mn_W := mn_inW 430 (by decide +kernel) (by decide +kernel)
theorem lPc_54 : Cond.methodLink "VolumeSets$Pieces" 54 ⟨"VolumeSets$Bytes", "raised", "(II)I"⟩ ∈ mn_W := mn_inW 434 (by decide +kernel) (by decide +kernel)
theorem lBy_16 : Cond.methodLink "VolumeSets$Bytes" 16 ⟨"VolumeSets$Bytes", "twice", "(I)I"⟩ ∈ mn_W := mn_inW 437 (by decide +kernel) (by decide +kernel)
theorem lPc_57 : Cond.methodLink "VolumeSets$Pieces" 57 ⟨"VolumeSets$Pieces", "part", "(II)I"⟩ ∈ mn_W := mn_inW 440 (by decide +kernel) (by decide +kernel)
theorem lWr_47 : Cond.methodLink "VolumeSets$Writer" 47 ⟨"VolumeSets$Volume", "seal", "()V"⟩ ∈ mn_W := mn_inW 441 (by decide +kernel) (by decide +kernel)
theorem lVo_27 : Cond.methodLink "VolumeSets$Volume" 27 ⟨"VolumeSets$Bytes", "sum", "([III)I"⟩ ∈ mn_W := mn_inW 445 (by decide +kernel) (by decide +kernel)
theorem lVo_33 : Cond.methodLink "VolumeSets$Volume" 33 ⟨"VolumeSets$Volume", "putSum", "(II)V"⟩ ∈ mn_W := mn_inW 446 (by decide +kernel) (by decide +kernel)
theorem lVo_15 : Cond.methodLink "VolumeSets$Volume" 15 ⟨"VolumeSets$Volume", "put", "(II)V"⟩ ∈ mn_W := mn_inW 450 (by decide +kernel) (by decide +kernel)
theorem lVS_112 : Cond.methodLink "VolumeSets" 112 ⟨"VolumeSets$Volume", "byteAt", "(I)I"⟩ ∈ mn_W := mn_inW 451 (by decide +kernel) (by decide +kernel)
theorem lLa_45 : Cond.methodLink "VolumeSetsLaw" 45 ⟨"VolumeSets", "write", "(I)I"⟩ ∈ mn_W := mn_inW 455 (by decide +kernel) (by decide +kernel)
theorem lVS_117 : Cond.methodLink "VolumeSets" 117 ⟨"VolumeSets$Writer", "missingIn", "(LVolumeSets$Slots;LVolumeSets$Pieces;LVolumeSets$Rules;)I"⟩ ∈ mn_W := mn_inW 459 (by decide +kernel) (by decide +kernel)
theorem lWr_50 : Cond.methodLink "VolumeSets$Writer" 50 ⟨"VolumeSets$Writer", "make", "(ILVolumeSets$Pieces;LVolumeSets$Rules;)V"⟩ ∈ mn_W := mn_inW 463 (by decide +kernel) (by decide +kernel)
theorem lWr_54 : Cond.methodLink "VolumeSets$Writer" 54 ⟨"VolumeSets$Slots", "hold", "(LVolumeSets$Volume;)Z"⟩ ∈ mn_W := mn_inW 464 (by decide +kernel) (by decide +kernel)
theorem lSl_34 : Cond.methodLink "VolumeSets$Slots" 34 ⟨"VolumeSets$Volume", "hasJustTheBytesOf", "(LVolumeSets$Volume;)Z"⟩ ∈ mn_W := mn_inW 468 (by decide +kernel) (by decide +kernel)
theorem lVo_19 : Cond.methodLink "VolumeSets$Volume" 19 ⟨"VolumeSets$Volume", "byteAt", "(I)I"⟩ ∈ mn_W := mn_inW 472 (by decide +kernel) (by decide +kernel)
theorem lVS_121 : Cond.methodLink "VolumeSets" 121 ⟨"java/lang/Math", "min", "(II)I"⟩ ∈ mn_W := mn_inW 473 (by decide +kernel) (by decide +kernel)
theorem lVS_126 : Cond.methodLink "VolumeSets" 126 ⟨"VolumeSets$Slots", "filled", "()I"⟩ ∈ mn_W := mn_inW 474 (by decide +kernel) (by decide +kernel)
theorem lVS_129 : Cond.methodLink "VolumeSets" 129 ⟨"VolumeSets$Writer", "fill", "(LVolumeSets$Slots;LVolumeSets$Pieces;LVolumeSets$Rules;I)I"⟩ ∈ mn_W := mn_inW 478 (by decide +kernel) (by decide +kernel)
theorem lWr_60 : Cond.methodLink "VolumeSets$Writer" 60 ⟨"VolumeSets$Volume", "cutOff", "()V"⟩ ∈ mn_W := mn_inW 482 (by decide +kernel) (by decide +kernel)
theorem lWr_63 : Cond.methodLink "VolumeSets$Writer" 63 ⟨"VolumeSets$Slots", "putIntoLeastEmpty", "(LVolumeSets$Volume;)V"⟩ ∈ mn_W := mn_inW 486 (by decide +kernel) (by decide +kernel)
theorem lSl_38 : Cond.methodLink "VolumeSets$Slots" 38 ⟨"VolumeSets$Volume", "become", "(LVolumeSets$Volume;)V"⟩ ∈ mn_W := mn_inW 490 (by decide +kernel) (by decide +kernel)
theorem lVo_36 : Cond.methodLink "VolumeSets$Volume" 36 ⟨"java/lang/System", "arraycopy", "(Ljava/lang/Object;ILjava/lang/Object;II)V"⟩ ∈ mn_W := mn_inW 494 (by decide +kernel) (by decide +kernel)
theorem lLa_49 : Cond.methodLink "VolumeSetsLaw" 49 ⟨"VolumeSets", "lose", "(I)I"⟩ ∈ mn_W := mn_inW 497 (by decide +kernel) (by decide +kernel)
theorem lVS_133 : Cond.methodLink "VolumeSets" 133 ⟨"VolumeSets$Slots", "at", "(I)LVolumeSets$Volume;"⟩ ∈ mn_W := mn_inW 501 (by decide +kernel) (by decide +kernel)
theorem lLa_53 : Cond.methodLink "VolumeSetsLaw" 53 ⟨"VolumeSets", "poke", "(III)I"⟩ ∈ mn_W := mn_inW 505 (by decide +kernel) (by decide +kernel)
theorem lVS_138 : Cond.methodLink "VolumeSets" 138 ⟨"VolumeSets$Volume", "put", "(II)V"⟩ ∈ mn_W := mn_inW 509 (by decide +kernel) (by decide +kernel)
theorem lLa_58 : Cond.methodLink "VolumeSetsLaw" 58 ⟨"VolumeSets", "swap", "(II)I"⟩ ∈ mn_W := mn_inW 510 (by decide +kernel) (by decide +kernel)
theorem lVS_142 : Cond.methodLink "VolumeSets" 142 ⟨"VolumeSets$Slots", "exchange", "(II)V"⟩ ∈ mn_W := mn_inW 514 (by decide +kernel) (by decide +kernel)
theorem lSl_18 : Cond.methodLink "VolumeSets$Slots" 18 ⟨"VolumeSets$Slots", "at", "(I)LVolumeSets$Volume;"⟩ ∈ mn_W := mn_inW 518 (by decide +kernel) (by decide +kernel)
theorem lLa_62 : Cond.methodLink "VolumeSetsLaw" 62 ⟨"VolumeSets", "copy", "(II)I"⟩ ∈ mn_W := mn_inW 519 (by decide +kernel) (by decide +kernel)
theorem lVS_145 : Cond.methodLink "VolumeSets" 145 ⟨"VolumeSets$Volume", "become", "(LVolumeSets$Volume;)V"⟩ ∈ mn_W := mn_inW 523 (by decide +kernel) (by decide +kernel)
theorem lLa_66 : Cond.methodLink "VolumeSetsLaw" 66 ⟨"VolumeSets", "slot", "(II)I"⟩ ∈ mn_W := mn_inW 524 (by decide +kernel) (by decide +kernel)
theorem lVS_149 : Cond.methodLink "VolumeSets" 149 ⟨"VolumeSets$Volume", "state", "()I"⟩ ∈ mn_W := mn_inW 528 (by decide +kernel) (by decide +kernel)
theorem lVo_45 : Cond.methodLink "VolumeSets$Volume" 45 ⟨"VolumeSets$Volume", "hasHead", "()Z"⟩ ∈ mn_W := mn_inW 532 (by decide +kernel) (by decide +kernel)
theorem lVo_42 : Cond.methodLink "VolumeSets$Volume" 42 ⟨"VolumeSets$Volume", "sumAt", "(I)I"⟩ ∈ mn_W := mn_inW 536 (by decide +kernel) (by decide +kernel)
theorem lVS_152 : Cond.methodLink "VolumeSets" 152 ⟨"VolumeSets$Volume", "hasHead", "()Z"⟩ ∈ mn_W := mn_inW 540 (by decide +kernel) (by decide +kernel)
theorem lLa_70 : Cond.methodLink "VolumeSetsLaw" 70 ⟨"VolumeSets", "read", "(I)I"⟩ ∈ mn_W := mn_inW 541 (by decide +kernel) (by decide +kernel)
theorem lVS_156 : Cond.methodLink "VolumeSets" 156 ⟨"VolumeSets$Reading", "gather", "(LVolumeSets$Slots;I)I"⟩ ∈ mn_W := mn_inW 545 (by decide +kernel) (by decide +kernel)
theorem lRd_31 : Cond.methodLink "VolumeSets$Reading" 31 ⟨"VolumeSets$Slots", "firstGood", "(I)LVolumeSets$Volume;"⟩ ∈ mn_W := mn_inW 549 (by decide +kernel) (by decide +kernel)
theorem lSl_30 : Cond.methodLink "VolumeSets$Slots" 30 ⟨"VolumeSets$Volume", "isGoodOf", "(I)Z"⟩ ∈ mn_W := mn_inW 553 (by decide +kernel) (by decide +kernel)
theorem lVo_49 : Cond.methodLink "VolumeSets$Volume" 49 ⟨"VolumeSets$Volume", "state", "()I"⟩ ∈ mn_W := mn_inW 557 (by decide +kernel) (by decide +kernel)
theorem lRd_41 : Cond.methodLink "VolumeSets$Reading" 41 ⟨"VolumeSets$Reading", "begin", "(LVolumeSets$Volume;)V"⟩ ∈ mn_W := mn_inW 558 (by decide +kernel) (by decide +kernel)
theorem lRd_73 : Cond.methodLink "VolumeSets$Reading" 73 ⟨"VolumeSets$Pieces", "blank", "()V"⟩ ∈ mn_W := mn_inW 562 (by decide +kernel) (by decide +kernel)
theorem lRd_76 : Cond.methodLink "VolumeSets$Reading" 76 ⟨"java/util/Arrays", "fill", "([II)V"⟩ ∈ mn_W := mn_inW 563 (by decide +kernel) (by decide +kernel)
theorem lRd_86 : Cond.methodLink "VolumeSets$Reading" 86 ⟨"VolumeSets$Volume", "byteAt", "(I)I"⟩ ∈ mn_W := mn_inW 564 (by decide +kernel) (by decide +kernel)
theorem lRd_45 : Cond.methodLink "VolumeSets$Reading" 45 ⟨"VolumeSets$Slots", "at", "(I)LVolumeSets$Volume;"⟩ ∈ mn_W := mn_inW 565 (by decide +kernel) (by decide +kernel)
theorem lRd_48 : Cond.methodLink "VolumeSets$Reading" 48 ⟨"VolumeSets$Volume", "isGoodOf", "(I)Z"⟩ ∈ mn_W := mn_inW 566 (by decide +kernel) (by decide +kernel)
theorem lRd_54 : Cond.methodLink "VolumeSets$Reading" 54 ⟨"VolumeSets$Volume", "isAsWideAndManyAs", "(LVolumeSets$Volume;)Z"⟩ ∈ mn_W := mn_inW 567 (by decide +kernel) (by decide +kernel)
theorem lRd_58 : Cond.methodLink "VolumeSets$Reading" 58 ⟨"VolumeSets$Reading", "take", "(LVolumeSets$Volume;I)V"⟩ ∈ mn_W := mn_inW 571 (by decide +kernel) (by decide +kernel)
theorem lRd_99 : Cond.methodLink "VolumeSets$Reading" 99 ⟨"VolumeSets$Reading", "placeOf", "(I)I"⟩ ∈ mn_W := mn_inW 575 (by decide +kernel) (by decide +kernel)
theorem lRd_102 : Cond.methodLink "VolumeSets$Reading" 102 ⟨"VolumeSets$Reading", "setPlace", "(II)V"⟩ ∈ mn_W := mn_inW 579 (by decide +kernel) (by decide +kernel)
theorem lRd_106 : Cond.methodLink "VolumeSets$Reading" 106 ⟨"VolumeSets$Pieces", "putPart", "(III)V"⟩ ∈ mn_W := mn_inW 583 (by decide +kernel) (by decide +kernel)
theorem lRd_62 : Cond.methodLink "VolumeSets$Reading" 62 ⟨"VolumeSets$Reading", "makeAgain", "(LVolumeSets$Slots;)V"⟩ ∈ mn_W := mn_inW 584 (by decide +kernel) (by decide +kernel)
theorem lRd_110 : Cond.methodLink "VolumeSets$Reading" 110 ⟨"VolumeSets$Reading", "repairsOfIt", "()I"⟩ ∈ mn_W := mn_inW 588 (by decide +kernel) (by decide +kernel)
theorem lRd_114 : Cond.methodLink "VolumeSets$Reading" 114 ⟨"VolumeSets$Equations", "forgetAll", "()V"⟩ ∈ mn_W := mn_inW 592 (by decide +kernel) (by decide +kernel)
theorem lRd_117 : Cond.methodLink "VolumeSets$Reading" 117 ⟨"VolumeSets$Equations", "addUnknown", "(I)V"⟩ ∈ mn_W := mn_inW 596 (by decide +kernel) (by decide +kernel)
theorem lRd_123 : Cond.methodLink "VolumeSets$Reading" 123 ⟨"VolumeSets$Equations", "addRepair", "(ILVolumeSets$Volume;LVolumeSets$Pieces;)V"⟩ ∈ mn_W := mn_inW 600 (by decide +kernel) (by decide +kernel)
theorem lEq_27 : Cond.methodLink "VolumeSets$Equations" 27 ⟨"VolumeSets$Bytes", "raised", "(II)I"⟩ ∈ mn_W := mn_inW 604 (by decide +kernel) (by decide +kernel)
theorem lEq_38 : Cond.methodLink "VolumeSets$Equations" 38 ⟨"VolumeSets$Volume", "byteAt", "(I)I"⟩ ∈ mn_W := mn_inW 605 (by decide +kernel) (by decide +kernel)
theorem lEq_42 : Cond.methodLink "VolumeSets$Equations" 42 ⟨"VolumeSets$Pieces", "mixed", "(II)I"⟩ ∈ mn_W := mn_inW 606 (by decide +kernel) (by decide +kernel)
theorem lRd_127 : Cond.methodLink "VolumeSets$Reading" 127 ⟨"VolumeSets$Equations", "solve", "()V"⟩ ∈ mn_W := mn_inW 607 (by decide +kernel) (by decide +kernel)
theorem lEq_47 : Cond.methodLink "VolumeSets$Equations" 47 ⟨"VolumeSets$Bytes", "inverse", "(I)I"⟩ ∈ mn_W := mn_inW 611 (by decide +kernel) (by decide +kernel)
theorem lBy_20 : Cond.methodLink "VolumeSets$Bytes" 20 ⟨"VolumeSets$Bytes", "product", "(II)I"⟩ ∈ mn_W := mn_inW 614 (by decide +kernel) (by decide +kernel)
theorem lEq_50 : Cond.methodLink "VolumeSets$Equations" 50 ⟨"VolumeSets$Equations", "scale", "(II)V"⟩ ∈ mn_W := mn_inW 617 (by decide +kernel) (by decide +kernel)
theorem lEq_58 : Cond.methodLink "VolumeSets$Equations" 58 ⟨"VolumeSets$Bytes", "product", "(II)I"⟩ ∈ mn_W := mn_inW 621 (by decide +kernel) (by decide +kernel)
theorem lEq_54 : Cond.methodLink "VolumeSets$Equations" 54 ⟨"VolumeSets$Equations", "addTo", "(III)V"⟩ ∈ mn_W := mn_inW 622 (by decide +kernel) (by decide +kernel)
theorem lRd_130 : Cond.methodLink "VolumeSets$Reading" 130 ⟨"VolumeSets$Reading", "takeUnknowns", "()V"⟩ ∈ mn_W := mn_inW 626 (by decide +kernel) (by decide +kernel)
theorem lRd_136 : Cond.methodLink "VolumeSets$Reading" 136 ⟨"VolumeSets$Equations", "numberOf", "(I)I"⟩ ∈ mn_W := mn_inW 630 (by decide +kernel) (by decide +kernel)
theorem lRd_139 : Cond.methodLink "VolumeSets$Reading" 139 ⟨"VolumeSets$Equations", "byteOfUnknown", "(II)I"⟩ ∈ mn_W := mn_inW 634 (by decide +kernel) (by decide +kernel)
theorem lVS_165 : Cond.methodLink "VolumeSets" 165 ⟨"VolumeSets$Opening", "open", "(LVolumeSets$Pieces;)V"⟩ ∈ mn_W := mn_inW 638 (by decide +kernel) (by decide +kernel)
theorem lOp_25 : Cond.methodLink "VolumeSets$Opening" 25 ⟨"VolumeSets$Pieces", "nextKnown", "(I)I"⟩ ∈ mn_W := mn_inW 642 (by decide +kernel) (by decide +kernel)
theorem lPc_67 : Cond.methodLink "VolumeSets$Pieces" 67 ⟨"VolumeSets$Pieces", "isKnown", "(I)Z"⟩ ∈ mn_W := mn_inW 646 (by decide +kernel) (by decide +kernel)
theorem lPc_60 : Cond.methodLink "VolumeSets$Pieces" 60 ⟨"VolumeSets$Pieces", "room", "()I"⟩ ∈ mn_W := mn_inW 650 (by decide +kernel) (by decide +kernel)
theorem lPc_64 : Cond.methodLink "VolumeSets$Pieces" 64 ⟨"VolumeSets$Bytes", "quotient", "(II)I"⟩ ∈ mn_W := mn_inW 654 (by decide +kernel) (by decide +kernel)
theorem lPc_71 : Cond.methodLink "VolumeSets$Pieces" 71 ⟨"VolumeSets$Pieces", "startBehind", "(I)I"⟩ ∈ mn_W := mn_inW 655 (by decide +kernel) (by decide +kernel)
theorem lOp_31 : Cond.methodLink "VolumeSets$Opening" 31 ⟨"VolumeSets$Pieces", "byteAt", "(I)I"⟩ ∈ mn_W := mn_inW 659 (by decide +kernel) (by decide +kernel)
theorem lOp_34 : Cond.methodLink "VolumeSets$Opening" 34 ⟨"VolumeSets$Opening", "isWhole", "(LVolumeSets$Pieces;II)Z"⟩ ∈ mn_W := mn_inW 660 (by decide +kernel) (by decide +kernel)
theorem lOp_38 : Cond.methodLink "VolumeSets$Opening" 38 ⟨"VolumeSets$Pieces", "areKnown", "(II)Z"⟩ ∈ mn_W := mn_inW 663 (by decide +kernel) (by decide +kernel)
theorem lOp_42 : Cond.methodLink "VolumeSets$Opening" 42 ⟨"VolumeSets$Pieces", "sum", "(II)I"⟩ ∈ mn_W := mn_inW 667 (by decide +kernel) (by decide +kernel)
theorem lPc_40 : Cond.methodLink "VolumeSets$Pieces" 40 ⟨"VolumeSets$Bytes", "sum", "([III)I"⟩ ∈ mn_W := mn_inW 671 (by decide +kernel) (by decide +kernel)
theorem lLa_74 : Cond.methodLink "VolumeSetsLaw" 74 ⟨"VolumeSets", "found", "(I)I"⟩ ∈ mn_W := mn_inW 672 (by decide +kernel) (by decide +kernel)
theorem lVS_182 : Cond.methodLink "VolumeSets" 182 ⟨"VolumeSets$Opening", "openedOnes", "()I"⟩ ∈ mn_W := mn_inW 676 (by decide +kernel) (by decide +kernel)
theorem lLa_78 : Cond.methodLink "VolumeSetsLaw" 78 ⟨"VolumeSets", "where", "(I)I"⟩ ∈ mn_W := mn_inW 680 (by decide +kernel) (by decide +kernel)
theorem lVS_185 : Cond.methodLink "VolumeSets" 185 ⟨"VolumeSets$Reading", "placeOf", "(I)I"⟩ ∈ mn_W := mn_inW 684 (by decide +kernel) (by decide +kernel)
theorem lLa_82 : Cond.methodLink "VolumeSetsLaw" 82 ⟨"VolumeSets", "got", "(I)I"⟩ ∈ mn_W := mn_inW 685 (by decide +kernel) (by decide +kernel)
theorem lVS_188 : Cond.methodLink "VolumeSets" 188 ⟨"VolumeSets$Pieces", "room", "()I"⟩ ∈ mn_W := mn_inW 689 (by decide +kernel) (by decide +kernel)
theorem lVS_191 : Cond.methodLink "VolumeSets" 191 ⟨"VolumeSets$Pieces", "isKnown", "(I)Z"⟩ ∈ mn_W := mn_inW 690 (by decide +kernel) (by decide +kernel)
theorem lVS_195 : Cond.methodLink "VolumeSets" 195 ⟨"VolumeSets$Pieces", "byteAt", "(I)I"⟩ ∈ mn_W := mn_inW 691 (by decide +kernel) (by decide +kernel)
theorem lLa_86 : Cond.methodLink "VolumeSetsLaw" 86 ⟨"VolumeSets", "opened", "(II)I"⟩ ∈ mn_W := mn_inW 692 (by decide +kernel) (by decide +kernel)
theorem lVS_196 : Cond.methodLink "VolumeSets" 196 ⟨"VolumeSets$Opening", "tellOf", "(II)I"⟩ ∈ mn_W := mn_inW 696 (by decide +kernel) (by decide +kernel)
theorem lLa_90 : Cond.methodLink "VolumeSetsLaw" 90 ⟨"VolumeSets", "count", "(I)I"⟩ ∈ mn_W := mn_inW 700 (by decide +kernel) (by decide +kernel)
theorem lVS_200 : Cond.methodLink "VolumeSets" 200 ⟨"VolumeSets$Slots", "inState", "(I)I"⟩ ∈ mn_W := mn_inW 704 (by decide +kernel) (by decide +kernel)
theorem lSl_26 : Cond.methodLink "VolumeSets$Slots" 26 ⟨"VolumeSets$Volume", "state", "()I"⟩ ∈ mn_W := mn_inW 708 (by decide +kernel) (by decide +kernel)
theorem lLa_10 : Cond.classLink "VolumeSetsLaw" 10 "VolumeSetsModel" ∈ mn_W := mn_inW 709 (by decide +kernel) (by decide +kernel)
theorem lLa_12 : Cond.methodLink "VolumeSetsLaw" 12 ⟨"VolumeSetsModel", "<init>", "()V"⟩ ∈ mn_W := mn_inW 711 (by decide +kernel) (by decide +kernel)
theorem lMo_7 : Cond.methodLink "VolumeSetsModel" 7 ⟨"java/lang/Object", "<init>", "()V"⟩ ∈ mn_W := mn_inW 714 (by decide +kernel) (by decide +kernel)
theorem lMo_1 : Cond.fieldLink "VolumeSetsModel" 1 "VolumeSetsModel" "thrown" "I" ∈ mn_W := mn_inW 715 (by decide +kernel) (by decide +kernel)
theorem lMo_13 : Cond.fieldLink "VolumeSetsModel" 13 "VolumeSetsModel" "tape" "[I" ∈ mn_W := mn_inW 716 (by decide +kernel) (by decide +kernel)
theorem lMo_65 : Cond.fieldLink "VolumeSetsModel" 65 "VolumeSetsModel" "taped" "I" ∈ mn_W := mn_inW 717 (by decide +kernel) (by decide +kernel)
theorem lMo_17 : Cond.fieldLink "VolumeSetsModel" 17 "VolumeSetsModel" "stream" "[I" ∈ mn_W := mn_inW 718 (by decide +kernel) (by decide +kernel)
theorem lMo_20 : Cond.fieldLink "VolumeSetsModel" 20 "VolumeSetsModel" "begins" "[I" ∈ mn_W := mn_inW 719 (by decide +kernel) (by decide +kernel)
theorem lMo_77 : Cond.fieldLink "VolumeSetsModel" 77 "VolumeSetsModel" "entries" "I" ∈ mn_W := mn_inW 720 (by decide +kernel) (by decide +kernel)
theorem lMo_23 : Cond.fieldLink "VolumeSetsModel" 23 "VolumeSetsModel" "size" "I" ∈ mn_W := mn_inW 721 (by decide +kernel) (by decide +kernel)
theorem lMo_84 : Cond.fieldLink "VolumeSetsModel" 84 "VolumeSetsModel" "repairs" "I" ∈ mn_W := mn_inW 722 (by decide +kernel) (by decide +kernel)
theorem lMo_87 : Cond.fieldLink "VolumeSetsModel" 87 "VolumeSetsModel" "set" "I" ∈ mn_W := mn_inW 723 (by decide +kernel) (by decide +kernel)
theorem lMo_26 : Cond.fieldLink "VolumeSetsModel" 26 "VolumeSetsModel" "slot" "[I" ∈ mn_W := mn_inW 724 (by decide +kernel) (by decide +kernel)
theorem lMo_29 : Cond.fieldLink "VolumeSetsModel" 29 "VolumeSetsModel" "slotSize" "[I" ∈ mn_W := mn_inW 725 (by decide +kernel) (by decide +kernel)
theorem lMo_32 : Cond.fieldLink "VolumeSetsModel" 32 "VolumeSetsModel" "volume" "[I" ∈ mn_W := mn_inW 726 (by decide +kernel) (by decide +kernel)
theorem lMo_140 : Cond.fieldLink "VolumeSetsModel" 140 "VolumeSetsModel" "isRead" "Z" ∈ mn_W := mn_inW 727 (by decide +kernel) (by decide +kernel)
theorem lMo_144 : Cond.fieldLink "VolumeSetsModel" 144 "VolumeSetsModel" "m" "I" ∈ mn_W := mn_inW 728 (by decide +kernel) (by decide +kernel)
theorem lMo_147 : Cond.fieldLink "VolumeSetsModel" 147 "VolumeSetsModel" "\x72" "I" ∈ mn_W := mn_inW 729 (by decide +kernel) (by decide +kernel)
theorem lMo_150 : Cond.fieldLink "VolumeSetsModel" 150 "VolumeSetsModel" "wide" "I" ∈ mn_W := mn_inW 730 (by decide +kernel) (by decide +kernel)
theorem lMo_159 : Cond.fieldLink "VolumeSetsModel" 159 "VolumeSetsModel" "again" "I" ∈ mn_W := mn_inW 731 (by decide +kernel) (by decide +kernel)
theorem lMo_35 : Cond.fieldLink "VolumeSetsModel" 35 "VolumeSetsModel" "place" "[I" ∈ mn_W := mn_inW 732 (by decide +kernel) (by decide +kernel)
theorem lMo_38 : Cond.fieldLink "VolumeSetsModel" 38 "VolumeSetsModel" "lengths" "[I" ∈ mn_W := mn_inW 733 (by decide +kernel) (by decide +kernel)
theorem lMo_41 : Cond.fieldLink "VolumeSetsModel" 41 "VolumeSetsModel" "starts" "[I" ∈ mn_W := mn_inW 734 (by decide +kernel) (by decide +kernel)
theorem lMo_44 : Cond.fieldLink "VolumeSetsModel" 44 "VolumeSetsModel" "got" "[I" ∈ mn_W := mn_inW 735 (by decide +kernel) (by decide +kernel)
theorem lMo_175 : Cond.fieldLink "VolumeSetsModel" 175 "VolumeSetsModel" "told" "I" ∈ mn_W := mn_inW 736 (by decide +kernel) (by decide +kernel)
theorem lMo_178 : Cond.fieldLink "VolumeSetsModel" 178 "VolumeSetsModel" "openedMany" "I" ∈ mn_W := mn_inW 737 (by decide +kernel) (by decide +kernel)
theorem lMo_47 : Cond.fieldLink "VolumeSetsModel" 47 "VolumeSetsModel" "tellAt" "[I" ∈ mn_W := mn_inW 738 (by decide +kernel) (by decide +kernel)
theorem lMo_50 : Cond.fieldLink "VolumeSetsModel" 50 "VolumeSetsModel" "tellLength" "[I" ∈ mn_W := mn_inW 739 (by decide +kernel) (by decide +kernel)
theorem lMo_53 : Cond.fieldLink "VolumeSetsModel" 53 "VolumeSetsModel" "tellOpen" "[I" ∈ mn_W := mn_inW 740 (by decide +kernel) (by decide +kernel)
theorem lMo_56 : Cond.fieldLink "VolumeSetsModel" 56 "VolumeSetsModel" "lacks" "[I" ∈ mn_W := mn_inW 741 (by decide +kernel) (by decide +kernel)
theorem lMo_59 : Cond.fieldLink "VolumeSetsModel" 59 "VolumeSetsModel" "by" "[I" ∈ mn_W := mn_inW 742 (by decide +kernel) (by decide +kernel)
theorem lMo_62 : Cond.fieldLink "VolumeSetsModel" 62 "VolumeSetsModel" "grid" "[I" ∈ mn_W := mn_inW 743 (by decide +kernel) (by decide +kernel)
theorem lLa_17 : Cond.methodLink "VolumeSetsLaw" 17 ⟨"VolumeSetsModel", "feed", "(IIIII)I"⟩ ∈ mn_W := mn_inW 803 (by decide +kernel) (by decide +kernel)
theorem lLa_22 : Cond.methodLink "VolumeSetsLaw" 22 ⟨"VolumeSetsModel", "end", "(I)I"⟩ ∈ mn_W := mn_inW 807 (by decide +kernel) (by decide +kernel)
theorem lMo_68 : Cond.methodLink "VolumeSetsModel" 68 ⟨"VolumeSetsModel", "in", "(III)Z"⟩ ∈ mn_W := mn_inW 811 (by decide +kernel) (by decide +kernel)
theorem lLa_27 : Cond.methodLink "VolumeSetsLaw" 27 ⟨"VolumeSetsModel", "entry", "()I"⟩ ∈ mn_W := mn_inW 814 (by decide +kernel) (by decide +kernel)
theorem lMo_80 : Cond.methodLink "VolumeSetsModel" 80 ⟨"VolumeSetsModel", "sum", "([III)I"⟩ ∈ mn_W := mn_inW 818 (by decide +kernel) (by decide +kernel)
theorem lMo_73 : Cond.methodLink "VolumeSetsModel" 73 ⟨"VolumeSetsModel", "step", "(II)I"⟩ ∈ mn_W := mn_inW 821 (by decide +kernel) (by decide +kernel)
theorem lMo_72 : Cond.constant "VolumeSetsModel" 72 65535 ∈ mn_W := mn_inW 824 (by decide +kernel) (by decide +kernel)
theorem lLa_31 : Cond.methodLink "VolumeSetsLaw" 31 ⟨"VolumeSetsModel", "clear", "()I"⟩ ∈ mn_W := mn_inW 825 (by decide +kernel) (by decide +kernel)
theorem lLa_36 : Cond.methodLink "VolumeSetsLaw" 36 ⟨"VolumeSetsModel", "rule", "(II)I"⟩ ∈ mn_W := mn_inW 829 (by decide +kernel) (by decide +kernel)
theorem lLa_40 : Cond.methodLink "VolumeSetsLaw" 40 ⟨"VolumeSetsModel", "volumes", "()I"⟩ ∈ mn_W := mn_inW 833 (by decide +kernel) (by decide +kernel)
theorem lMo_97 : Cond.methodLink "VolumeSetsModel" 97 ⟨"VolumeSetsModel", "pieces", "()I"⟩ ∈ mn_W := mn_inW 837 (by decide +kernel) (by decide +kernel)
theorem lMo_90 : Cond.methodLink "VolumeSetsModel" 90 ⟨"VolumeSetsModel", "length", "()I"⟩ ∈ mn_W := mn_inW 841 (by decide +kernel) (by decide +kernel)
theorem lMo_94 : Cond.methodLink "VolumeSetsModel" 94 ⟨"VolumeSetsModel", "piece", "()I"⟩ ∈ mn_W := mn_inW 845 (by decide +kernel) (by decide +kernel)
theorem lLa_44 : Cond.methodLink "VolumeSetsLaw" 44 ⟨"VolumeSetsModel", "byteOf", "(II)I"⟩ ∈ mn_W := mn_inW 849 (by decide +kernel) (by decide +kernel)
theorem lMo_113 : Cond.methodLink "VolumeSetsModel" 113 ⟨"VolumeSetsModel", "volumes", "()I"⟩ ∈ mn_W := mn_inW 853 (by decide +kernel) (by decide +kernel)
theorem lMo_116 : Cond.methodLink "VolumeSetsModel" 116 ⟨"VolumeSetsModel", "make", "(I)V"⟩ ∈ mn_W := mn_inW 854 (by decide +kernel) (by decide +kernel)
theorem lMo_110 : Cond.methodLink "VolumeSetsModel" 110 ⟨"VolumeSetsModel", "ofVolume", "(II)I"⟩ ∈ mn_W := mn_inW 858 (by decide +kernel) (by decide +kernel)
theorem lMo_103 : Cond.methodLink "VolumeSetsModel" 103 ⟨"VolumeSetsModel", "ofPiece", "(II)I"⟩ ∈ mn_W := mn_inW 862 (by decide +kernel) (by decide +kernel)
theorem lMo_106 : Cond.methodLink "VolumeSetsModel" 106 ⟨"VolumeSetsModel", "power", "(I)I"⟩ ∈ mn_W := mn_inW 866 (by decide +kernel) (by decide +kernel)
theorem lMo_100 : Cond.methodLink "VolumeSetsModel" 100 ⟨"VolumeSetsModel", "times", "(II)I"⟩ ∈ mn_W := mn_inW 869 (by decide +kernel) (by decide +kernel)
theorem lLa_48 : Cond.methodLink "VolumeSetsLaw" 48 ⟨"VolumeSetsModel", "write", "(I)I"⟩ ∈ mn_W := mn_inW 872 (by decide +kernel) (by decide +kernel)
theorem lMo_120 : Cond.methodLink "VolumeSetsModel" 120 ⟨"VolumeSetsModel", "isThere", "()Z"⟩ ∈ mn_W := mn_inW 876 (by decide +kernel) (by decide +kernel)
theorem lMo_124 : Cond.methodLink "VolumeSetsModel" 124 ⟨"VolumeSetsModel", "emptySlots", "()I"⟩ ∈ mn_W := mn_inW 880 (by decide +kernel) (by decide +kernel)
theorem lMo_127 : Cond.methodLink "VolumeSetsModel" 127 ⟨"VolumeSetsModel", "lay", "(I)V"⟩ ∈ mn_W := mn_inW 884 (by decide +kernel) (by decide +kernel)
theorem lLa_52 : Cond.methodLink "VolumeSetsLaw" 52 ⟨"VolumeSetsModel", "lose", "(I)I"⟩ ∈ mn_W := mn_inW 888 (by decide +kernel) (by decide +kernel)
theorem lMo_130 : Cond.methodLink "VolumeSetsModel" 130 ⟨"VolumeSetsModel", "noSlot", "(I)Z"⟩ ∈ mn_W := mn_inW 892 (by decide +kernel) (by decide +kernel)
theorem lLa_57 : Cond.methodLink "VolumeSetsLaw" 57 ⟨"VolumeSetsModel", "poke", "(III)I"⟩ ∈ mn_W := mn_inW 896 (by decide +kernel) (by decide +kernel)
theorem lLa_61 : Cond.methodLink "VolumeSetsLaw" 61 ⟨"VolumeSetsModel", "swap", "(II)I"⟩ ∈ mn_W := mn_inW 900 (by decide +kernel) (by decide +kernel)
theorem lLa_65 : Cond.methodLink "VolumeSetsLaw" 65 ⟨"VolumeSetsModel", "copy", "(II)I"⟩ ∈ mn_W := mn_inW 904 (by decide +kernel) (by decide +kernel)
theorem lLa_69 : Cond.methodLink "VolumeSetsLaw" 69 ⟨"VolumeSetsModel", "slot", "(II)I"⟩ ∈ mn_W := mn_inW 908 (by decide +kernel) (by decide +kernel)
theorem lMo_137 : Cond.methodLink "VolumeSetsModel" 137 ⟨"VolumeSetsModel", "state", "(I)I"⟩ ∈ mn_W := mn_inW 912 (by decide +kernel) (by decide +kernel)
theorem lMo_134 : Cond.methodLink "VolumeSetsModel" 134 ⟨"VolumeSetsModel", "two", "(I)I"⟩ ∈ mn_W := mn_inW 916 (by decide +kernel) (by decide +kernel)
theorem lLa_73 : Cond.methodLink "VolumeSetsLaw" 73 ⟨"VolumeSetsModel", "read", "(I)I"⟩ ∈ mn_W := mn_inW 920 (by decide +kernel) (by decide +kernel)
theorem lMo_153 : Cond.methodLink "VolumeSetsModel" 153 ⟨"VolumeSetsModel", "makeAgain", "()V"⟩ ∈ mn_W := mn_inW 924 (by decide +kernel) (by decide +kernel)
theorem lMo_162 : Cond.methodLink "VolumeSetsModel" 162 ⟨"VolumeSetsModel", "solve", "(II)V"⟩ ∈ mn_W := mn_inW 928 (by decide +kernel) (by decide +kernel)
theorem lMo_166 : Cond.methodLink "VolumeSetsModel" 166 ⟨"VolumeSetsModel", "known", "(II)I"⟩ ∈ mn_W := mn_inW 932 (by decide +kernel) (by decide +kernel)
theorem lMo_169 : Cond.methodLink "VolumeSetsModel" 169 ⟨"VolumeSetsModel", "over", "(I)I"⟩ ∈ mn_W := mn_inW 936 (by decide +kernel) (by decide +kernel)
theorem lMo_156 : Cond.methodLink "VolumeSetsModel" 156 ⟨"VolumeSetsModel", "open", "()V"⟩ ∈ mn_W := mn_inW 939 (by decide +kernel) (by decide +kernel)
theorem lMo_172 : Cond.methodLink "VolumeSetsModel" 172 ⟨"VolumeSetsModel", "isKnown", "(I)Z"⟩ ∈ mn_W := mn_inW 943 (by decide +kernel) (by decide +kernel)
theorem lMo_181 : Cond.methodLink "VolumeSetsModel" 181 ⟨"VolumeSetsModel", "isWhole", "(II)Z"⟩ ∈ mn_W := mn_inW 947 (by decide +kernel) (by decide +kernel)
theorem lLa_77 : Cond.methodLink "VolumeSetsLaw" 77 ⟨"VolumeSetsModel", "found", "(I)I"⟩ ∈ mn_W := mn_inW 951 (by decide +kernel) (by decide +kernel)
theorem lLa_81 : Cond.methodLink "VolumeSetsLaw" 81 ⟨"VolumeSetsModel", "where", "(I)I"⟩ ∈ mn_W := mn_inW 955 (by decide +kernel) (by decide +kernel)
theorem lLa_85 : Cond.methodLink "VolumeSetsLaw" 85 ⟨"VolumeSetsModel", "got", "(I)I"⟩ ∈ mn_W := mn_inW 959 (by decide +kernel) (by decide +kernel)
theorem lLa_89 : Cond.methodLink "VolumeSetsLaw" 89 ⟨"VolumeSetsModel", "opened", "(II)I"⟩ ∈ mn_W := mn_inW 963 (by decide +kernel) (by decide +kernel)
theorem lLa_93 : Cond.methodLink "VolumeSetsLaw" 93 ⟨"VolumeSetsModel", "count", "(I)I"⟩ ∈ mn_W := mn_inW 967 (by decide +kernel) (by decide +kernel)
end
section
theorem dBy_sum_0 : decode kBy_sum 0 = .ok (.sipush 5381, 3) := by decide +kernel
theorem dBy_sum_3 : decode kBy_sum 3 = .ok (.istore_n 3, 1) := by decide +kernel
theorem dBy_sum_4 : decode kBy_sum 4 = .ok (.iconst 0, 1) := by decide +kernel
theorem dBy_sum_5 : decode kBy_sum 5 = .ok (.iload_n 1, 1) := by decide +kernel
theorem dBy_sum_6 : decode kBy_sum 6 = .ok (.invokestatic 7, 3) := by decide +kernel
theorem dBy_sum_9 : decode kBy_sum 9 = .ok (.istore 4, 2) := by decide +kernel
theorem dBy_sum_11 : decode kBy_sum 11 = .ok (.iload 4, 2) := by decide +kernel
theorem dBy_sum_13 : decode kBy_sum 13 = .ok (.iload_n 2, 1) := by decide +kernel
theorem dBy_sum_14 : decode kBy_sum 14 = .ok (.if_icmp .ge 29, 3) := by decide +kernel
theorem dBy_sum_17 : decode kBy_sum 17 = .ok (.iload 4, 2) := by decide +kernel
theorem dBy_sum_19 : decode kBy_sum 19 = .ok (.aload_n 0, 1) := by decide +kernel
theorem dBy_sum_20 : decode kBy_sum 20 = .ok (.arraylength, 1) := by decide +kernel
theorem dBy_sum_21 : decode kBy_sum 21 = .ok (.if_icmp .ge 22, 3) := by decide +kernel
theorem dBy_sum_24 : decode kBy_sum 24 = .ok (.bipush 33, 2) := by decide +kernel
theorem dBy_sum_26 : decode kBy_sum 26 = .ok (.iload_n 3, 1) := by decide +kernel
theorem dBy_sum_27 : decode kBy_sum 27 = .ok (.imul, 1) := by decide +kernel
theorem dBy_sum_28 : decode kBy_sum 28 = .ok (.aload_n 0, 1) := by decide +kernel
theorem dBy_sum_29 : decode kBy_sum 29 = .ok (.iload 4, 2) := by decide +kernel
theorem dBy_sum_31 : decode kBy_sum 31 = .ok (.iaload, 1) := by decide +kernel
theorem dBy_sum_32 : decode kBy_sum 32 = .ok (.ixor, 1) := by decide +kernel
theorem dBy_sum_33 : decode kBy_sum 33 = .ok (.ldc 13, 2) := by decide +kernel
theorem dBy_sum_35 : decode kBy_sum 35 = .ok (.iand, 1) := by decide +kernel
theorem dBy_sum_36 : decode kBy_sum 36 = .ok (.istore_n 3, 1) := by decide +kernel
theorem dBy_sum_37 : decode kBy_sum 37 = .ok (.iinc 4 1, 3) := by decide +kernel
theorem dBy_sum_40 : decode kBy_sum 40 = .ok (.goto (-29), 3) := by decide +kernel
theorem dBy_sum_43 : decode kBy_sum 43 = .ok (.iload_n 3, 1) := by decide +kernel
theorem dBy_sum_44 : decode kBy_sum 44 = .ok (.ireturn, 1) := by decide +kernel
theorem dBy_twice_0 : decode kBy_twice 0 = .ok (.iload_n 0, 1) := by decide +kernel
theorem dBy_twice_1 : decode kBy_twice 1 = .ok (.iconst 1, 1) := by decide +kernel
theorem dBy_twice_2 : decode kBy_twice 2 = .ok (.ishl, 1) := by decide +kernel
theorem dBy_twice_3 : decode kBy_twice 3 = .ok (.istore_n 1, 1) := by decide +kernel
theorem dBy_twice_4 : decode kBy_twice 4 = .ok (.iload_n 1, 1) := by decide +kernel
theorem dBy_twice_5 : decode kBy_twice 5 = .ok (.sipush 255, 3) := by decide +kernel
theorem dBy_twice_8 : decode kBy_twice 8 = .ok (.if_icmp .le 11, 3) := by decide +kernel
theorem dBy_twice_11 : decode kBy_twice 11 = .ok (.iload_n 1, 1) := by decide +kernel
theorem dBy_twice_12 : decode kBy_twice 12 = .ok (.sipush 285, 3) := by decide +kernel
theorem dBy_twice_15 : decode kBy_twice 15 = .ok (.ixor, 1) := by decide +kernel
theorem dBy_twice_16 : decode kBy_twice 16 = .ok (.goto 4, 3) := by decide +kernel
theorem dBy_twice_19 : decode kBy_twice 19 = .ok (.iload_n 1, 1) := by decide +kernel
theorem dBy_twice_20 : decode kBy_twice 20 = .ok (.ireturn, 1) := by decide +kernel
theorem dBy_product_0 : decode kBy_product 0 = .ok (.iconst 0, 1) := by decide +kernel
theorem dBy_product_1 : decode kBy_product 1 = .ok (.istore_n 2, 1) := by decide +kernel
theorem dBy_product_2 : decode kBy_product 2 = .ok (.iload_n 0, 1) := by decide +kernel
theorem dBy_product_3 : decode kBy_product 3 = .ok (.istore_n 3, 1) := by decide +kernel
theorem dBy_product_4 : decode kBy_product 4 = .ok (.iconst 0, 1) := by decide +kernel
theorem dBy_product_5 : decode kBy_product 5 = .ok (.istore 4, 2) := by decide +kernel
theorem dBy_product_7 : decode kBy_product 7 = .ok (.iload 4, 2) := by decide +kernel
theorem dBy_product_9 : decode kBy_product 9 = .ok (.bipush 8, 2) := by decide +kernel
theorem dBy_product_11 : decode kBy_product 11 = .ok (.if_icmp .ge 27, 3) := by decide +kernel
theorem dBy_product_14 : decode kBy_product 14 = .ok (.iload_n 1, 1) := by decide +kernel
theorem dBy_product_15 : decode kBy_product 15 = .ok (.iload 4, 2) := by decide +kernel
theorem dBy_product_17 : decode kBy_product 17 = .ok (.iushr, 1) := by decide +kernel
theorem dBy_product_18 : decode kBy_product 18 = .ok (.iconst 1, 1) := by decide +kernel
theorem dBy_product_19 : decode kBy_product 19 = .ok (.iand, 1) := by decide +kernel
theorem dBy_product_20 : decode kBy_product 20 = .ok (.ifCond .eq 7, 3) := by decide +kernel
theorem dBy_product_23 : decode kBy_product 23 = .ok (.iload_n 2, 1) := by decide +kernel
theorem dBy_product_24 : decode kBy_product 24 = .ok (.iload_n 3, 1) := by decide +kernel
theorem dBy_product_25 : decode kBy_product 25 = .ok (.ixor, 1) := by decide +kernel
theorem dBy_product_26 : decode kBy_product 26 = .ok (.istore_n 2, 1) := by decide +kernel
theorem dBy_product_27 : decode kBy_product 27 = .ok (.iload_n 3, 1) := by decide +kernel
theorem dBy_product_28 : decode kBy_product 28 = .ok (.invokestatic 16, 3) := by decide +kernel
theorem dBy_product_31 : decode kBy_product 31 = .ok (.istore_n 3, 1) := by decide +kernel
theorem dBy_product_32 : decode kBy_product 32 = .ok (.iinc 4 1, 3) := by decide +kernel
theorem dBy_product_35 : decode kBy_product 35 = .ok (.goto (-28), 3) := by decide +kernel
theorem dBy_product_38 : decode kBy_product 38 = .ok (.iload_n 2, 1) := by decide +kernel
theorem dBy_product_39 : decode kBy_product 39 = .ok (.ireturn, 1) := by decide +kernel
theorem dBy_raised_0 : decode kBy_raised 0 = .ok (.iload_n 0, 1) := by decide +kernel
theorem dBy_raised_1 : decode kBy_raised 1 = .ok (.istore_n 2, 1) := by decide +kernel
theorem dBy_raised_2 : decode kBy_raised 2 = .ok (.iconst 0, 1) := by decide +kernel
theorem dBy_raised_3 : decode kBy_raised 3 = .ok (.istore_n 3, 1) := by decide +kernel
theorem dBy_raised_4 : decode kBy_raised 4 = .ok (.iload_n 3, 1) := by decide +kernel
theorem dBy_raised_5 : decode kBy_raised 5 = .ok (.iload_n 1, 1) := by decide +kernel
theorem dBy_raised_6 : decode kBy_raised 6 = .ok (.if_icmp .ge 14, 3) := by decide +kernel
theorem dBy_raised_9 : decode kBy_raised 9 = .ok (.iload_n 2, 1) := by decide +kernel
theorem dBy_raised_10 : decode kBy_raised 10 = .ok (.invokestatic 16, 3) := by decide +kernel
theorem dBy_raised_13 : decode kBy_raised 13 = .ok (.istore_n 2, 1) := by decide +kernel
theorem dBy_raised_14 : decode kBy_raised 14 = .ok (.iinc 3 1, 3) := by decide +kernel
theorem dBy_raised_17 : decode kBy_raised 17 = .ok (.goto (-13), 3) := by decide +kernel
theorem dBy_raised_20 : decode kBy_raised 20 = .ok (.iload_n 2, 1) := by decide +kernel
theorem dBy_raised_21 : decode kBy_raised 21 = .ok (.ireturn, 1) := by decide +kernel
theorem dBy_inverse_0 : decode kBy_inverse 0 = .ok (.iconst 1, 1) := by decide +kernel
theorem dBy_inverse_1 : decode kBy_inverse 1 = .ok (.istore_n 1, 1) := by decide +kernel
theorem dBy_inverse_2 : decode kBy_inverse 2 = .ok (.iload_n 1, 1) := by decide +kernel
theorem dBy_inverse_3 : decode kBy_inverse 3 = .ok (.sipush 256, 3) := by decide +kernel
theorem dBy_inverse_6 : decode kBy_inverse 6 = .ok (.if_icmp .ge 20, 3) := by decide +kernel
theorem dBy_inverse_9 : decode kBy_inverse 9 = .ok (.iload_n 0, 1) := by decide +kernel
theorem dBy_inverse_10 : decode kBy_inverse 10 = .ok (.iload_n 1, 1) := by decide +kernel
theorem dBy_inverse_11 : decode kBy_inverse 11 = .ok (.invokestatic 20, 3) := by decide +kernel
theorem dBy_inverse_14 : decode kBy_inverse 14 = .ok (.iconst 1, 1) := by decide +kernel
theorem dBy_inverse_15 : decode kBy_inverse 15 = .ok (.if_icmp .ne 5, 3) := by decide +kernel
theorem dBy_inverse_18 : decode kBy_inverse 18 = .ok (.iload_n 1, 1) := by decide +kernel
theorem dBy_inverse_19 : decode kBy_inverse 19 = .ok (.ireturn, 1) := by decide +kernel
theorem dBy_inverse_20 : decode kBy_inverse 20 = .ok (.iinc 1 1, 3) := by decide +kernel
theorem dBy_inverse_23 : decode kBy_inverse 23 = .ok (.goto (-21), 3) := by decide +kernel
theorem dBy_inverse_26 : decode kBy_inverse 26 = .ok (.iconst 0, 1) := by decide +kernel
theorem dBy_inverse_27 : decode kBy_inverse 27 = .ok (.ireturn, 1) := by decide +kernel
theorem dBy_quotient_0 : decode kBy_quotient 0 = .ok (.iload_n 1, 1) := by decide +kernel
theorem dBy_quotient_1 : decode kBy_quotient 1 = .ok (.ifCond .gt 7, 3) := by decide +kernel
theorem dBy_quotient_4 : decode kBy_quotient 4 = .ok (.iconst 0, 1) := by decide +kernel
theorem dBy_quotient_5 : decode kBy_quotient 5 = .ok (.goto 6, 3) := by decide +kernel
theorem dBy_quotient_8 : decode kBy_quotient 8 = .ok (.iload_n 0, 1) := by decide +kernel
theorem dBy_quotient_9 : decode kBy_quotient 9 = .ok (.iload_n 1, 1) := by decide +kernel
theorem dBy_quotient_10 : decode kBy_quotient 10 = .ok (.idiv, 1) := by decide +kernel
theorem dBy_quotient_11 : decode kBy_quotient 11 = .ok (.ireturn, 1) := by decide +kernel
theorem dTa_init_0 : decode kTa_init 0 = .ok (.aload_n 0, 1) := by decide +kernel
theorem dTa_init_1 : decode kTa_init 1 = .ok (.invokespecial 3, 3) := by decide +kernel
theorem dTa_init_4 : decode kTa_init 4 = .ok (.aload_n 0, 1) := by decide +kernel
theorem dTa_init_5 : decode kTa_init 5 = .ok (.bipush 60, 2) := by decide +kernel
theorem dTa_init_7 : decode kTa_init 7 = .ok (.newarray .int, 2) := by decide +kernel
theorem dTa_init_9 : decode kTa_init 9 = .ok (.putfield 9, 3) := by decide +kernel
theorem dTa_init_12 : decode kTa_init 12 = .ok (.return_, 1) := by decide +kernel
theorem dTa_addNumber_0 : decode kTa_addNumber 0 = .ok (.bipush 24, 2) := by decide +kernel
theorem dTa_addNumber_2 : decode kTa_addNumber 2 = .ok (.istore_n 2, 1) := by decide +kernel
theorem dTa_addNumber_3 : decode kTa_addNumber 3 = .ok (.iload_n 2, 1) := by decide +kernel
theorem dTa_addNumber_4 : decode kTa_addNumber 4 = .ok (.ifCond .lt 20, 3) := by decide +kernel
theorem dTa_addNumber_7 : decode kTa_addNumber 7 = .ok (.aload_n 0, 1) := by decide +kernel
theorem dTa_addNumber_8 : decode kTa_addNumber 8 = .ok (.iload_n 1, 1) := by decide +kernel
theorem dTa_addNumber_9 : decode kTa_addNumber 9 = .ok (.iload_n 2, 1) := by decide +kernel
theorem dTa_addNumber_10 : decode kTa_addNumber 10 = .ok (.iushr, 1) := by decide +kernel
theorem dTa_addNumber_11 : decode kTa_addNumber 11 = .ok (.sipush 255, 3) := by decide +kernel
theorem dTa_addNumber_14 : decode kTa_addNumber 14 = .ok (.iand, 1) := by decide +kernel
theorem dTa_addNumber_15 : decode kTa_addNumber 15 = .ok (.invokevirtual 15, 3) := by decide +kernel
theorem dTa_addNumber_18 : decode kTa_addNumber 18 = .ok (.iinc 2 (-8), 3) := by decide +kernel
theorem dTa_addNumber_21 : decode kTa_addNumber 21 = .ok (.goto (-18), 3) := by decide +kernel
theorem dTa_addNumber_24 : decode kTa_addNumber 24 = .ok (.return_, 1) := by decide +kernel
theorem dTa_add_0 : decode kTa_add 0 = .ok (.aload_n 0, 1) := by decide +kernel
theorem dTa_add_1 : decode kTa_add 1 = .ok (.getfield 19, 3) := by decide +kernel
theorem dTa_add_4 : decode kTa_add 4 = .ok (.ifCond .lt 32, 3) := by decide +kernel
theorem dTa_add_7 : decode kTa_add 7 = .ok (.aload_n 0, 1) := by decide +kernel
theorem dTa_add_8 : decode kTa_add 8 = .ok (.getfield 19, 3) := by decide +kernel
theorem dTa_add_11 : decode kTa_add 11 = .ok (.bipush 60, 2) := by decide +kernel
theorem dTa_add_13 : decode kTa_add 13 = .ok (.if_icmp .ge 23, 3) := by decide +kernel
theorem dTa_add_16 : decode kTa_add 16 = .ok (.aload_n 0, 1) := by decide +kernel
theorem dTa_add_17 : decode kTa_add 17 = .ok (.getfield 9, 3) := by decide +kernel
theorem dTa_add_20 : decode kTa_add 20 = .ok (.aload_n 0, 1) := by decide +kernel
theorem dTa_add_21 : decode kTa_add 21 = .ok (.getfield 19, 3) := by decide +kernel
theorem dTa_add_24 : decode kTa_add 24 = .ok (.iload_n 1, 1) := by decide +kernel
theorem dTa_add_25 : decode kTa_add 25 = .ok (.iastore, 1) := by decide +kernel
theorem dTa_add_26 : decode kTa_add 26 = .ok (.aload_n 0, 1) := by decide +kernel
theorem dTa_add_27 : decode kTa_add 27 = .ok (.dup, 1) := by decide +kernel
theorem dTa_add_28 : decode kTa_add 28 = .ok (.getfield 19, 3) := by decide +kernel
theorem dTa_add_31 : decode kTa_add 31 = .ok (.iconst 1, 1) := by decide +kernel
theorem dTa_add_32 : decode kTa_add 32 = .ok (.iadd, 1) := by decide +kernel
theorem dTa_add_33 : decode kTa_add 33 = .ok (.putfield 19, 3) := by decide +kernel
theorem dTa_add_36 : decode kTa_add 36 = .ok (.return_, 1) := by decide +kernel
theorem dTa_byteAt_0 : decode kTa_byteAt 0 = .ok (.iload_n 1, 1) := by decide +kernel
theorem dTa_byteAt_1 : decode kTa_byteAt 1 = .ok (.ifCond .lt 9, 3) := by decide +kernel
theorem dTa_byteAt_4 : decode kTa_byteAt 4 = .ok (.iload_n 1, 1) := by decide +kernel
theorem dTa_byteAt_5 : decode kTa_byteAt 5 = .ok (.bipush 60, 2) := by decide +kernel
theorem dTa_byteAt_7 : decode kTa_byteAt 7 = .ok (.if_icmp .lt 7, 3) := by decide +kernel
theorem dTa_byteAt_10 : decode kTa_byteAt 10 = .ok (.iconst 0, 1) := by decide +kernel
theorem dTa_byteAt_11 : decode kTa_byteAt 11 = .ok (.goto 9, 3) := by decide +kernel
theorem dTa_byteAt_14 : decode kTa_byteAt 14 = .ok (.aload_n 0, 1) := by decide +kernel
theorem dTa_byteAt_15 : decode kTa_byteAt 15 = .ok (.getfield 9, 3) := by decide +kernel
theorem dTa_byteAt_18 : decode kTa_byteAt 18 = .ok (.iload_n 1, 1) := by decide +kernel
theorem dTa_byteAt_19 : decode kTa_byteAt 19 = .ok (.iaload, 1) := by decide +kernel
theorem dTa_byteAt_20 : decode kTa_byteAt 20 = .ok (.ireturn, 1) := by decide +kernel
theorem dTa_sum_0 : decode kTa_sum 0 = .ok (.aload_n 0, 1) := by decide +kernel
theorem dTa_sum_1 : decode kTa_sum 1 = .ok (.getfield 9, 3) := by decide +kernel
theorem dTa_sum_4 : decode kTa_sum 4 = .ok (.iconst 0, 1) := by decide +kernel
theorem dTa_sum_5 : decode kTa_sum 5 = .ok (.aload_n 0, 1) := by decide +kernel
theorem dTa_sum_6 : decode kTa_sum 6 = .ok (.getfield 19, 3) := by decide +kernel
theorem dTa_sum_9 : decode kTa_sum 9 = .ok (.invokestatic 23, 3) := by decide +kernel
theorem dTa_sum_12 : decode kTa_sum 12 = .ok (.ireturn, 1) := by decide +kernel
theorem dRu_init_0 : decode kRu_init 0 = .ok (.aload_n 0, 1) := by decide +kernel
theorem dRu_init_1 : decode kRu_init 1 = .ok (.invokespecial 3, 3) := by decide +kernel
theorem dRu_init_4 : decode kRu_init 4 = .ok (.aload_n 0, 1) := by decide +kernel
theorem dRu_init_5 : decode kRu_init 5 = .ok (.bipush 32, 2) := by decide +kernel
theorem dRu_init_7 : decode kRu_init 7 = .ok (.putfield 9, 3) := by decide +kernel
theorem dRu_init_10 : decode kRu_init 10 = .ok (.return_, 1) := by decide +kernel
theorem dRu_width_0 : decode kRu_width 0 = .ok (.aload_n 0, 1) := by decide +kernel
theorem dRu_width_1 : decode kRu_width 1 = .ok (.getfield 9, 3) := by decide +kernel
theorem dRu_width_4 : decode kRu_width 4 = .ok (.bipush 12, 2) := by decide +kernel
theorem dRu_width_6 : decode kRu_width 6 = .ok (.isub, 1) := by decide +kernel
theorem dRu_width_7 : decode kRu_width 7 = .ok (.ireturn, 1) := by decide +kernel
theorem dRu_change_0 : decode kRu_change 0 = .ok (.iload_n 1, 1) := by decide +kernel
theorem dRu_change_1 : decode kRu_change 1 = .ok (.tableswitch 45 0 2 #[27, 33, 39], 27) := by decide +kernel
theorem dRu_change_28 : decode kRu_change 28 = .ok (.aload_n 0, 1) := by decide +kernel
theorem dRu_change_29 : decode kRu_change 29 = .ok (.iload_n 2, 1) := by decide +kernel
theorem dRu_change_30 : decode kRu_change 30 = .ok (.invokevirtual 15, 3) := by decide +kernel
theorem dRu_change_33 : decode kRu_change 33 = .ok (.ireturn, 1) := by decide +kernel
theorem dRu_change_34 : decode kRu_change 34 = .ok (.aload_n 0, 1) := by decide +kernel
theorem dRu_change_35 : decode kRu_change 35 = .ok (.iload_n 2, 1) := by decide +kernel
theorem dRu_change_36 : decode kRu_change 36 = .ok (.invokevirtual 19, 3) := by decide +kernel
theorem dRu_change_39 : decode kRu_change 39 = .ok (.ireturn, 1) := by decide +kernel
theorem dRu_change_40 : decode kRu_change 40 = .ok (.aload_n 0, 1) := by decide +kernel
theorem dRu_change_41 : decode kRu_change 41 = .ok (.iload_n 2, 1) := by decide +kernel
theorem dRu_change_42 : decode kRu_change 42 = .ok (.invokevirtual 22, 3) := by decide +kernel
theorem dRu_change_45 : decode kRu_change 45 = .ok (.ireturn, 1) := by decide +kernel
theorem dRu_change_46 : decode kRu_change 46 = .ok (.iconst (-1), 1) := by decide +kernel
theorem dRu_change_47 : decode kRu_change 47 = .ok (.ireturn, 1) := by decide +kernel
theorem dRu_changeSize_0 : decode kRu_changeSize 0 = .ok (.iload_n 1, 1) := by decide +kernel
theorem dRu_changeSize_1 : decode kRu_changeSize 1 = .ok (.bipush 20, 2) := by decide +kernel
theorem dRu_changeSize_3 : decode kRu_changeSize 3 = .ok (.if_icmp .lt 9, 3) := by decide +kernel
theorem dRu_changeSize_6 : decode kRu_changeSize 6 = .ok (.iload_n 1, 1) := by decide +kernel
theorem dRu_changeSize_7 : decode kRu_changeSize 7 = .ok (.bipush 80, 2) := by decide +kernel
theorem dRu_changeSize_9 : decode kRu_changeSize 9 = .ok (.if_icmp .le 5, 3) := by decide +kernel
theorem dRu_changeSize_12 : decode kRu_changeSize 12 = .ok (.iconst (-1), 1) := by decide +kernel
theorem dRu_changeSize_13 : decode kRu_changeSize 13 = .ok (.ireturn, 1) := by decide +kernel
theorem dRu_changeSize_14 : decode kRu_changeSize 14 = .ok (.aload_n 0, 1) := by decide +kernel
theorem dRu_changeSize_15 : decode kRu_changeSize 15 = .ok (.getfield 9, 3) := by decide +kernel
theorem dRu_changeSize_18 : decode kRu_changeSize 18 = .ok (.istore_n 2, 1) := by decide +kernel
theorem dRu_changeSize_19 : decode kRu_changeSize 19 = .ok (.aload_n 0, 1) := by decide +kernel
theorem dRu_changeSize_20 : decode kRu_changeSize 20 = .ok (.iload_n 1, 1) := by decide +kernel
theorem dRu_changeSize_21 : decode kRu_changeSize 21 = .ok (.putfield 9, 3) := by decide +kernel
theorem dRu_changeSize_24 : decode kRu_changeSize 24 = .ok (.iload_n 2, 1) := by decide +kernel
theorem dRu_changeSize_25 : decode kRu_changeSize 25 = .ok (.ireturn, 1) := by decide +kernel
theorem dRu_changeRepairs_0 : decode kRu_changeRepairs 0 = .ok (.iload_n 1, 1) := by decide +kernel
theorem dRu_changeRepairs_1 : decode kRu_changeRepairs 1 = .ok (.ifCond .lt 8, 3) := by decide +kernel
theorem dRu_changeRepairs_4 : decode kRu_changeRepairs 4 = .ok (.iload_n 1, 1) := by decide +kernel
theorem dRu_changeRepairs_5 : decode kRu_changeRepairs 5 = .ok (.iconst 3, 1) := by decide +kernel
theorem dRu_changeRepairs_6 : decode kRu_changeRepairs 6 = .ok (.if_icmp .le 5, 3) := by decide +kernel
theorem dRu_changeRepairs_9 : decode kRu_changeRepairs 9 = .ok (.iconst (-1), 1) := by decide +kernel
theorem dRu_changeRepairs_10 : decode kRu_changeRepairs 10 = .ok (.ireturn, 1) := by decide +kernel
theorem dRu_changeRepairs_11 : decode kRu_changeRepairs 11 = .ok (.aload_n 0, 1) := by decide +kernel
theorem dRu_changeRepairs_12 : decode kRu_changeRepairs 12 = .ok (.getfield 25, 3) := by decide +kernel
theorem dRu_changeRepairs_15 : decode kRu_changeRepairs 15 = .ok (.istore_n 2, 1) := by decide +kernel
theorem dRu_changeRepairs_16 : decode kRu_changeRepairs 16 = .ok (.aload_n 0, 1) := by decide +kernel
theorem dRu_changeRepairs_17 : decode kRu_changeRepairs 17 = .ok (.iload_n 1, 1) := by decide +kernel
theorem dRu_changeRepairs_18 : decode kRu_changeRepairs 18 = .ok (.putfield 25, 3) := by decide +kernel
theorem dRu_changeRepairs_21 : decode kRu_changeRepairs 21 = .ok (.iload_n 2, 1) := by decide +kernel
theorem dRu_changeRepairs_22 : decode kRu_changeRepairs 22 = .ok (.ireturn, 1) := by decide +kernel
theorem dRu_changeSet_0 : decode kRu_changeSet 0 = .ok (.iload_n 1, 1) := by decide +kernel
theorem dRu_changeSet_1 : decode kRu_changeSet 1 = .ok (.ifCond .lt 10, 3) := by decide +kernel
theorem dRu_changeSet_4 : decode kRu_changeSet 4 = .ok (.iload_n 1, 1) := by decide +kernel
theorem dRu_changeSet_5 : decode kRu_changeSet 5 = .ok (.sipush 255, 3) := by decide +kernel
theorem dRu_changeSet_8 : decode kRu_changeSet 8 = .ok (.if_icmp .le 5, 3) := by decide +kernel
theorem dRu_changeSet_11 : decode kRu_changeSet 11 = .ok (.iconst (-1), 1) := by decide +kernel
theorem dRu_changeSet_12 : decode kRu_changeSet 12 = .ok (.ireturn, 1) := by decide +kernel
theorem dRu_changeSet_13 : decode kRu_changeSet 13 = .ok (.aload_n 0, 1) := by decide +kernel
theorem dRu_changeSet_14 : decode kRu_changeSet 14 = .ok (.getfield 28, 3) := by decide +kernel
theorem dRu_changeSet_17 : decode kRu_changeSet 17 = .ok (.istore_n 2, 1) := by decide +kernel
theorem dRu_changeSet_18 : decode kRu_changeSet 18 = .ok (.aload_n 0, 1) := by decide +kernel
theorem dRu_changeSet_19 : decode kRu_changeSet 19 = .ok (.iload_n 1, 1) := by decide +kernel
theorem dRu_changeSet_20 : decode kRu_changeSet 20 = .ok (.putfield 28, 3) := by decide +kernel
theorem dRu_changeSet_23 : decode kRu_changeSet 23 = .ok (.iload_n 2, 1) := by decide +kernel
theorem dRu_changeSet_24 : decode kRu_changeSet 24 = .ok (.ireturn, 1) := by decide +kernel
theorem dVo_init_0 : decode kVo_init 0 = .ok (.aload_n 0, 1) := by decide +kernel
theorem dVo_init_1 : decode kVo_init 1 = .ok (.invokespecial 3, 3) := by decide +kernel
theorem dVo_init_4 : decode kVo_init 4 = .ok (.aload_n 0, 1) := by decide +kernel
theorem dVo_init_5 : decode kVo_init 5 = .ok (.bipush 80, 2) := by decide +kernel
theorem dVo_init_7 : decode kVo_init 7 = .ok (.newarray .int, 2) := by decide +kernel
theorem dVo_init_9 : decode kVo_init 9 = .ok (.putfield 9, 3) := by decide +kernel
theorem dVo_init_12 : decode kVo_init 12 = .ok (.return_, 1) := by decide +kernel
theorem dVo_byteAt_0 : decode kVo_byteAt 0 = .ok (.iload_n 1, 1) := by decide +kernel
theorem dVo_byteAt_1 : decode kVo_byteAt 1 = .ok (.ifCond .lt 9, 3) := by decide +kernel
theorem dVo_byteAt_4 : decode kVo_byteAt 4 = .ok (.iload_n 1, 1) := by decide +kernel
theorem dVo_byteAt_5 : decode kVo_byteAt 5 = .ok (.bipush 80, 2) := by decide +kernel
theorem dVo_byteAt_7 : decode kVo_byteAt 7 = .ok (.if_icmp .lt 7, 3) := by decide +kernel
theorem dVo_byteAt_10 : decode kVo_byteAt 10 = .ok (.iconst 0, 1) := by decide +kernel
theorem dVo_byteAt_11 : decode kVo_byteAt 11 = .ok (.goto 9, 3) := by decide +kernel
theorem dVo_byteAt_14 : decode kVo_byteAt 14 = .ok (.aload_n 0, 1) := by decide +kernel
theorem dVo_byteAt_15 : decode kVo_byteAt 15 = .ok (.getfield 9, 3) := by decide +kernel
theorem dVo_byteAt_18 : decode kVo_byteAt 18 = .ok (.iload_n 1, 1) := by decide +kernel
theorem dVo_byteAt_19 : decode kVo_byteAt 19 = .ok (.iaload, 1) := by decide +kernel
theorem dVo_byteAt_20 : decode kVo_byteAt 20 = .ok (.ireturn, 1) := by decide +kernel
theorem dVo_put_0 : decode kVo_put 0 = .ok (.iload_n 1, 1) := by decide +kernel
theorem dVo_put_1 : decode kVo_put 1 = .ok (.ifCond .lt 16, 3) := by decide +kernel
theorem dVo_put_4 : decode kVo_put 4 = .ok (.iload_n 1, 1) := by decide +kernel
theorem dVo_put_5 : decode kVo_put 5 = .ok (.bipush 80, 2) := by decide +kernel
theorem dVo_put_7 : decode kVo_put 7 = .ok (.if_icmp .ge 10, 3) := by decide +kernel
theorem dVo_put_10 : decode kVo_put 10 = .ok (.aload_n 0, 1) := by decide +kernel
theorem dVo_put_11 : decode kVo_put 11 = .ok (.getfield 9, 3) := by decide +kernel
theorem dVo_put_14 : decode kVo_put 14 = .ok (.iload_n 1, 1) := by decide +kernel
theorem dVo_put_15 : decode kVo_put 15 = .ok (.iload_n 2, 1) := by decide +kernel
theorem dVo_put_16 : decode kVo_put 16 = .ok (.iastore, 1) := by decide +kernel
theorem dVo_put_17 : decode kVo_put 17 = .ok (.return_, 1) := by decide +kernel
theorem dVo_putSum_0 : decode kVo_putSum 0 = .ok (.aload_n 0, 1) := by decide +kernel
theorem dVo_putSum_1 : decode kVo_putSum 1 = .ok (.iload_n 1, 1) := by decide +kernel
theorem dVo_putSum_2 : decode kVo_putSum 2 = .ok (.iload_n 2, 1) := by decide +kernel
theorem dVo_putSum_3 : decode kVo_putSum 3 = .ok (.sipush 255, 3) := by decide +kernel
theorem dVo_putSum_6 : decode kVo_putSum 6 = .ok (.iand, 1) := by decide +kernel
theorem dVo_putSum_7 : decode kVo_putSum 7 = .ok (.invokevirtual 15, 3) := by decide +kernel
theorem dVo_putSum_10 : decode kVo_putSum 10 = .ok (.aload_n 0, 1) := by decide +kernel
theorem dVo_putSum_11 : decode kVo_putSum 11 = .ok (.iload_n 1, 1) := by decide +kernel
theorem dVo_putSum_12 : decode kVo_putSum 12 = .ok (.iconst 1, 1) := by decide +kernel
theorem dVo_putSum_13 : decode kVo_putSum 13 = .ok (.iadd, 1) := by decide +kernel
theorem dVo_putSum_14 : decode kVo_putSum 14 = .ok (.iload_n 2, 1) := by decide +kernel
theorem dVo_putSum_15 : decode kVo_putSum 15 = .ok (.bipush 8, 2) := by decide +kernel
theorem dVo_putSum_17 : decode kVo_putSum 17 = .ok (.iushr, 1) := by decide +kernel
theorem dVo_putSum_18 : decode kVo_putSum 18 = .ok (.invokevirtual 15, 3) := by decide +kernel
theorem dVo_putSum_21 : decode kVo_putSum 21 = .ok (.return_, 1) := by decide +kernel
theorem dVo_sumAt_0 : decode kVo_sumAt 0 = .ok (.aload_n 0, 1) := by decide +kernel
theorem dVo_sumAt_1 : decode kVo_sumAt 1 = .ok (.iload_n 1, 1) := by decide +kernel
theorem dVo_sumAt_2 : decode kVo_sumAt 2 = .ok (.invokevirtual 19, 3) := by decide +kernel
theorem dVo_sumAt_5 : decode kVo_sumAt 5 = .ok (.aload_n 0, 1) := by decide +kernel
theorem dVo_sumAt_6 : decode kVo_sumAt 6 = .ok (.iload_n 1, 1) := by decide +kernel
theorem dVo_sumAt_7 : decode kVo_sumAt 7 = .ok (.iconst 1, 1) := by decide +kernel
theorem dVo_sumAt_8 : decode kVo_sumAt 8 = .ok (.iadd, 1) := by decide +kernel
theorem dVo_sumAt_9 : decode kVo_sumAt 9 = .ok (.invokevirtual 19, 3) := by decide +kernel
theorem dVo_sumAt_12 : decode kVo_sumAt 12 = .ok (.bipush 8, 2) := by decide +kernel
theorem dVo_sumAt_14 : decode kVo_sumAt 14 = .ok (.ishl, 1) := by decide +kernel
theorem dVo_sumAt_15 : decode kVo_sumAt 15 = .ok (.iadd, 1) := by decide +kernel
theorem dVo_sumAt_16 : decode kVo_sumAt 16 = .ok (.ireturn, 1) := by decide +kernel
theorem dVo_seal_0 : decode kVo_seal 0 = .ok (.aload_n 0, 1) := by decide +kernel
theorem dVo_seal_1 : decode kVo_seal 1 = .ok (.bipush 8, 2) := by decide +kernel
theorem dVo_seal_3 : decode kVo_seal 3 = .ok (.aload_n 0, 1) := by decide +kernel
theorem dVo_seal_4 : decode kVo_seal 4 = .ok (.getfield 9, 3) := by decide +kernel
theorem dVo_seal_7 : decode kVo_seal 7 = .ok (.bipush 12, 2) := by decide +kernel
theorem dVo_seal_9 : decode kVo_seal 9 = .ok (.aload_n 0, 1) := by decide +kernel
theorem dVo_seal_10 : decode kVo_seal 10 = .ok (.getfield 23, 3) := by decide +kernel
theorem dVo_seal_13 : decode kVo_seal 13 = .ok (.invokestatic 27, 3) := by decide +kernel
theorem dVo_seal_16 : decode kVo_seal 16 = .ok (.invokevirtual 33, 3) := by decide +kernel
theorem dVo_seal_19 : decode kVo_seal 19 = .ok (.aload_n 0, 1) := by decide +kernel
theorem dVo_seal_20 : decode kVo_seal 20 = .ok (.bipush 10, 2) := by decide +kernel
theorem dVo_seal_22 : decode kVo_seal 22 = .ok (.aload_n 0, 1) := by decide +kernel
theorem dVo_seal_23 : decode kVo_seal 23 = .ok (.getfield 9, 3) := by decide +kernel
theorem dVo_seal_26 : decode kVo_seal 26 = .ok (.iconst 0, 1) := by decide +kernel
theorem dVo_seal_27 : decode kVo_seal 27 = .ok (.bipush 10, 2) := by decide +kernel
theorem dVo_seal_29 : decode kVo_seal 29 = .ok (.invokestatic 27, 3) := by decide +kernel
theorem dVo_seal_32 : decode kVo_seal 32 = .ok (.invokevirtual 33, 3) := by decide +kernel
theorem dVo_seal_35 : decode kVo_seal 35 = .ok (.return_, 1) := by decide +kernel
theorem dVo_cutOff_0 : decode kVo_cutOff 0 = .ok (.aload_n 0, 1) := by decide +kernel
theorem dVo_cutOff_1 : decode kVo_cutOff 1 = .ok (.getfield 23, 3) := by decide +kernel
theorem dVo_cutOff_4 : decode kVo_cutOff 4 = .ok (.iconst 2, 1) := by decide +kernel
theorem dVo_cutOff_5 : decode kVo_cutOff 5 = .ok (.idiv, 1) := by decide +kernel
theorem dVo_cutOff_6 : decode kVo_cutOff 6 = .ok (.istore_n 1, 1) := by decide +kernel
theorem dVo_cutOff_7 : decode kVo_cutOff 7 = .ok (.iload_n 1, 1) := by decide +kernel
theorem dVo_cutOff_8 : decode kVo_cutOff 8 = .ok (.aload_n 0, 1) := by decide +kernel
theorem dVo_cutOff_9 : decode kVo_cutOff 9 = .ok (.getfield 23, 3) := by decide +kernel
theorem dVo_cutOff_12 : decode kVo_cutOff 12 = .ok (.if_icmp .ge 15, 3) := by decide +kernel
theorem dVo_cutOff_15 : decode kVo_cutOff 15 = .ok (.aload_n 0, 1) := by decide +kernel
theorem dVo_cutOff_16 : decode kVo_cutOff 16 = .ok (.iload_n 1, 1) := by decide +kernel
theorem dVo_cutOff_17 : decode kVo_cutOff 17 = .ok (.iconst 0, 1) := by decide +kernel
theorem dVo_cutOff_18 : decode kVo_cutOff 18 = .ok (.invokevirtual 15, 3) := by decide +kernel
theorem dVo_cutOff_21 : decode kVo_cutOff 21 = .ok (.iinc 1 1, 3) := by decide +kernel
theorem dVo_cutOff_24 : decode kVo_cutOff 24 = .ok (.goto (-17), 3) := by decide +kernel
theorem dVo_cutOff_27 : decode kVo_cutOff 27 = .ok (.return_, 1) := by decide +kernel
theorem dVo_become_0 : decode kVo_become 0 = .ok (.aload_n 1, 1) := by decide +kernel
theorem dVo_become_1 : decode kVo_become 1 = .ok (.getfield 9, 3) := by decide +kernel
theorem dVo_become_4 : decode kVo_become 4 = .ok (.iconst 0, 1) := by decide +kernel
theorem dVo_become_5 : decode kVo_become 5 = .ok (.aload_n 0, 1) := by decide +kernel
theorem dVo_become_6 : decode kVo_become 6 = .ok (.getfield 9, 3) := by decide +kernel
theorem dVo_become_9 : decode kVo_become 9 = .ok (.iconst 0, 1) := by decide +kernel
theorem dVo_become_10 : decode kVo_become 10 = .ok (.bipush 80, 2) := by decide +kernel
theorem dVo_become_12 : decode kVo_become 12 = .ok (.invokestatic 36, 3) := by decide +kernel
theorem dVo_become_15 : decode kVo_become 15 = .ok (.aload_n 0, 1) := by decide +kernel
theorem dVo_become_16 : decode kVo_become 16 = .ok (.aload_n 1, 1) := by decide +kernel
theorem dVo_become_17 : decode kVo_become 17 = .ok (.getfield 23, 3) := by decide +kernel
theorem dVo_become_20 : decode kVo_become 20 = .ok (.putfield 23, 3) := by decide +kernel
theorem dVo_become_23 : decode kVo_become 23 = .ok (.return_, 1) := by decide +kernel
theorem dVo_hasJustTheBytesOf_0 : decode kVo_hasJustTheBytesOf 0 = .ok (.aload_n 0, 1) := by decide +kernel
theorem dVo_hasJustTheBytesOf_1 : decode kVo_hasJustTheBytesOf 1 = .ok (.getfield 23, 3) := by decide +kernel
theorem dVo_hasJustTheBytesOf_4 : decode kVo_hasJustTheBytesOf 4 = .ok (.aload_n 1, 1) := by decide +kernel
theorem dVo_hasJustTheBytesOf_5 : decode kVo_hasJustTheBytesOf 5 = .ok (.getfield 23, 3) := by decide +kernel
theorem dVo_hasJustTheBytesOf_8 : decode kVo_hasJustTheBytesOf 8 = .ok (.if_icmp .eq 5, 3) := by decide +kernel
theorem dVo_hasJustTheBytesOf_11 : decode kVo_hasJustTheBytesOf 11 = .ok (.iconst 0, 1) := by decide +kernel
theorem dVo_hasJustTheBytesOf_12 : decode kVo_hasJustTheBytesOf 12 = .ok (.ireturn, 1) := by decide +kernel
theorem dVo_hasJustTheBytesOf_13 : decode kVo_hasJustTheBytesOf 13 = .ok (.iconst 0, 1) := by decide +kernel
theorem dVo_hasJustTheBytesOf_14 : decode kVo_hasJustTheBytesOf 14 = .ok (.istore_n 2, 1) := by decide +kernel
theorem dVo_hasJustTheBytesOf_15 : decode kVo_hasJustTheBytesOf 15 = .ok (.iload_n 2, 1) := by decide +kernel
theorem dVo_hasJustTheBytesOf_16 : decode kVo_hasJustTheBytesOf 16 = .ok (.aload_n 0, 1) := by decide +kernel
theorem dVo_hasJustTheBytesOf_17 : decode kVo_hasJustTheBytesOf 17 = .ok (.getfield 23, 3) := by decide +kernel
theorem dVo_hasJustTheBytesOf_20 : decode kVo_hasJustTheBytesOf 20 = .ok (.if_icmp .ge 24, 3) := by decide +kernel
theorem dVo_hasJustTheBytesOf_23 : decode kVo_hasJustTheBytesOf 23 = .ok (.aload_n 0, 1) := by decide +kernel
theorem dVo_hasJustTheBytesOf_24 : decode kVo_hasJustTheBytesOf 24 = .ok (.iload_n 2, 1) := by decide +kernel
theorem dVo_hasJustTheBytesOf_25 : decode kVo_hasJustTheBytesOf 25 = .ok (.invokevirtual 19, 3) := by decide +kernel
theorem dVo_hasJustTheBytesOf_28 : decode kVo_hasJustTheBytesOf 28 = .ok (.aload_n 1, 1) := by decide +kernel
theorem dVo_hasJustTheBytesOf_29 : decode kVo_hasJustTheBytesOf 29 = .ok (.iload_n 2, 1) := by decide +kernel
theorem dVo_hasJustTheBytesOf_30 : decode kVo_hasJustTheBytesOf 30 = .ok (.invokevirtual 19, 3) := by decide +kernel
theorem dVo_hasJustTheBytesOf_33 : decode kVo_hasJustTheBytesOf 33 = .ok (.if_icmp .eq 5, 3) := by decide +kernel
theorem dVo_hasJustTheBytesOf_36 : decode kVo_hasJustTheBytesOf 36 = .ok (.iconst 0, 1) := by decide +kernel
theorem dVo_hasJustTheBytesOf_37 : decode kVo_hasJustTheBytesOf 37 = .ok (.ireturn, 1) := by decide +kernel
theorem dVo_hasJustTheBytesOf_38 : decode kVo_hasJustTheBytesOf 38 = .ok (.iinc 2 1, 3) := by decide +kernel
theorem dVo_hasJustTheBytesOf_41 : decode kVo_hasJustTheBytesOf 41 = .ok (.goto (-26), 3) := by decide +kernel
theorem dVo_hasJustTheBytesOf_44 : decode kVo_hasJustTheBytesOf 44 = .ok (.iconst 1, 1) := by decide +kernel
theorem dVo_hasJustTheBytesOf_45 : decode kVo_hasJustTheBytesOf 45 = .ok (.ireturn, 1) := by decide +kernel
theorem dVo_hasHead_0 : decode kVo_hasHead 0 = .ok (.aload_n 0, 1) := by decide +kernel
theorem dVo_hasHead_1 : decode kVo_hasHead 1 = .ok (.iconst 4, 1) := by decide +kernel
theorem dVo_hasHead_2 : decode kVo_hasHead 2 = .ok (.invokevirtual 19, 3) := by decide +kernel
theorem dVo_hasHead_5 : decode kVo_hasHead 5 = .ok (.istore_n 1, 1) := by decide +kernel
theorem dVo_hasHead_6 : decode kVo_hasHead 6 = .ok (.aload_n 0, 1) := by decide +kernel
theorem dVo_hasHead_7 : decode kVo_hasHead 7 = .ok (.iconst 5, 1) := by decide +kernel
theorem dVo_hasHead_8 : decode kVo_hasHead 8 = .ok (.invokevirtual 19, 3) := by decide +kernel
theorem dVo_hasHead_11 : decode kVo_hasHead 11 = .ok (.istore_n 2, 1) := by decide +kernel
theorem dVo_hasHead_12 : decode kVo_hasHead 12 = .ok (.aload_n 0, 1) := by decide +kernel
theorem dVo_hasHead_13 : decode kVo_hasHead 13 = .ok (.getfield 23, 3) := by decide +kernel
theorem dVo_hasHead_16 : decode kVo_hasHead 16 = .ok (.bipush 12, 2) := by decide +kernel
theorem dVo_hasHead_18 : decode kVo_hasHead 18 = .ok (.if_icmp .lt 73, 3) := by decide +kernel
theorem dVo_hasHead_21 : decode kVo_hasHead 21 = .ok (.aload_n 0, 1) := by decide +kernel
theorem dVo_hasHead_22 : decode kVo_hasHead 22 = .ok (.iconst 0, 1) := by decide +kernel
theorem dVo_hasHead_23 : decode kVo_hasHead 23 = .ok (.invokevirtual 19, 3) := by decide +kernel
theorem dVo_hasHead_26 : decode kVo_hasHead 26 = .ok (.bipush 86, 2) := by decide +kernel
theorem dVo_hasHead_28 : decode kVo_hasHead 28 = .ok (.if_icmp .ne 63, 3) := by decide +kernel
theorem dVo_hasHead_31 : decode kVo_hasHead 31 = .ok (.aload_n 0, 1) := by decide +kernel
theorem dVo_hasHead_32 : decode kVo_hasHead 32 = .ok (.iconst 1, 1) := by decide +kernel
theorem dVo_hasHead_33 : decode kVo_hasHead 33 = .ok (.invokevirtual 19, 3) := by decide +kernel
theorem dVo_hasHead_36 : decode kVo_hasHead 36 = .ok (.bipush 83, 2) := by decide +kernel
theorem dVo_hasHead_38 : decode kVo_hasHead 38 = .ok (.if_icmp .ne 53, 3) := by decide +kernel
theorem dVo_hasHead_41 : decode kVo_hasHead 41 = .ok (.aload_n 0, 1) := by decide +kernel
theorem dVo_hasHead_42 : decode kVo_hasHead 42 = .ok (.bipush 10, 2) := by decide +kernel
theorem dVo_hasHead_44 : decode kVo_hasHead 44 = .ok (.invokevirtual 42, 3) := by decide +kernel
theorem dVo_hasHead_47 : decode kVo_hasHead 47 = .ok (.aload_n 0, 1) := by decide +kernel
theorem dVo_hasHead_48 : decode kVo_hasHead 48 = .ok (.getfield 9, 3) := by decide +kernel
theorem dVo_hasHead_51 : decode kVo_hasHead 51 = .ok (.iconst 0, 1) := by decide +kernel
theorem dVo_hasHead_52 : decode kVo_hasHead 52 = .ok (.bipush 10, 2) := by decide +kernel
theorem dVo_hasHead_54 : decode kVo_hasHead 54 = .ok (.invokestatic 27, 3) := by decide +kernel
theorem dVo_hasHead_57 : decode kVo_hasHead 57 = .ok (.if_icmp .ne 34, 3) := by decide +kernel
theorem dVo_hasHead_60 : decode kVo_hasHead 60 = .ok (.iload_n 1, 1) := by decide +kernel
theorem dVo_hasHead_61 : decode kVo_hasHead 61 = .ok (.iconst 1, 1) := by decide +kernel
theorem dVo_hasHead_62 : decode kVo_hasHead 62 = .ok (.if_icmp .lt 29, 3) := by decide +kernel
theorem dVo_hasHead_65 : decode kVo_hasHead 65 = .ok (.iload_n 1, 1) := by decide +kernel
theorem dVo_hasHead_66 : decode kVo_hasHead 66 = .ok (.bipush 60, 2) := by decide +kernel
theorem dVo_hasHead_68 : decode kVo_hasHead 68 = .ok (.if_icmp .gt 23, 3) := by decide +kernel
theorem dVo_hasHead_71 : decode kVo_hasHead 71 = .ok (.iload_n 2, 1) := by decide +kernel
theorem dVo_hasHead_72 : decode kVo_hasHead 72 = .ok (.iconst 3, 1) := by decide +kernel
theorem dVo_hasHead_73 : decode kVo_hasHead 73 = .ok (.if_icmp .gt 18, 3) := by decide +kernel
theorem dVo_hasHead_76 : decode kVo_hasHead 76 = .ok (.aload_n 0, 1) := by decide +kernel
theorem dVo_hasHead_77 : decode kVo_hasHead 77 = .ok (.iconst 3, 1) := by decide +kernel
theorem dVo_hasHead_78 : decode kVo_hasHead 78 = .ok (.invokevirtual 19, 3) := by decide +kernel
theorem dVo_hasHead_81 : decode kVo_hasHead 81 = .ok (.iload_n 1, 1) := by decide +kernel
theorem dVo_hasHead_82 : decode kVo_hasHead 82 = .ok (.iload_n 2, 1) := by decide +kernel
theorem dVo_hasHead_83 : decode kVo_hasHead 83 = .ok (.iadd, 1) := by decide +kernel
theorem dVo_hasHead_84 : decode kVo_hasHead 84 = .ok (.if_icmp .ge 7, 3) := by decide +kernel
theorem dVo_hasHead_87 : decode kVo_hasHead 87 = .ok (.iconst 1, 1) := by decide +kernel
theorem dVo_hasHead_88 : decode kVo_hasHead 88 = .ok (.goto 4, 3) := by decide +kernel
theorem dVo_hasHead_91 : decode kVo_hasHead 91 = .ok (.iconst 0, 1) := by decide +kernel
theorem dVo_hasHead_92 : decode kVo_hasHead 92 = .ok (.ireturn, 1) := by decide +kernel
theorem dVo_state_0 : decode kVo_state 0 = .ok (.aload_n 0, 1) := by decide +kernel
theorem dVo_state_1 : decode kVo_state 1 = .ok (.getfield 23, 3) := by decide +kernel
theorem dVo_state_4 : decode kVo_state 4 = .ok (.ifCond .ne 5, 3) := by decide +kernel
theorem dVo_state_7 : decode kVo_state 7 = .ok (.iconst 0, 1) := by decide +kernel
theorem dVo_state_8 : decode kVo_state 8 = .ok (.ireturn, 1) := by decide +kernel
theorem dVo_state_9 : decode kVo_state 9 = .ok (.aload_n 0, 1) := by decide +kernel
theorem dVo_state_10 : decode kVo_state 10 = .ok (.invokevirtual 45, 3) := by decide +kernel
theorem dVo_state_13 : decode kVo_state 13 = .ok (.ifCond .ne 5, 3) := by decide +kernel
theorem dVo_state_16 : decode kVo_state 16 = .ok (.iconst 3, 1) := by decide +kernel
theorem dVo_state_17 : decode kVo_state 17 = .ok (.ireturn, 1) := by decide +kernel
theorem dVo_state_18 : decode kVo_state 18 = .ok (.aload_n 0, 1) := by decide +kernel
theorem dVo_state_19 : decode kVo_state 19 = .ok (.bipush 8, 2) := by decide +kernel
theorem dVo_state_21 : decode kVo_state 21 = .ok (.invokevirtual 42, 3) := by decide +kernel
theorem dVo_state_24 : decode kVo_state 24 = .ok (.aload_n 0, 1) := by decide +kernel
theorem dVo_state_25 : decode kVo_state 25 = .ok (.getfield 9, 3) := by decide +kernel
theorem dVo_state_28 : decode kVo_state 28 = .ok (.bipush 12, 2) := by decide +kernel
theorem dVo_state_30 : decode kVo_state 30 = .ok (.aload_n 0, 1) := by decide +kernel
theorem dVo_state_31 : decode kVo_state 31 = .ok (.getfield 23, 3) := by decide +kernel
theorem dVo_state_34 : decode kVo_state 34 = .ok (.invokestatic 27, 3) := by decide +kernel
theorem dVo_state_37 : decode kVo_state 37 = .ok (.if_icmp .ne 7, 3) := by decide +kernel
theorem dVo_state_40 : decode kVo_state 40 = .ok (.iconst 1, 1) := by decide +kernel
theorem dVo_state_41 : decode kVo_state 41 = .ok (.goto 4, 3) := by decide +kernel
theorem dVo_state_44 : decode kVo_state 44 = .ok (.iconst 2, 1) := by decide +kernel
theorem dVo_state_45 : decode kVo_state 45 = .ok (.ireturn, 1) := by decide +kernel
theorem dVo_isGoodOf_0 : decode kVo_isGoodOf 0 = .ok (.aload_n 0, 1) := by decide +kernel
theorem dVo_isGoodOf_1 : decode kVo_isGoodOf 1 = .ok (.iconst 2, 1) := by decide +kernel
theorem dVo_isGoodOf_2 : decode kVo_isGoodOf 2 = .ok (.invokevirtual 19, 3) := by decide +kernel
theorem dVo_isGoodOf_5 : decode kVo_isGoodOf 5 = .ok (.iload_n 1, 1) := by decide +kernel
theorem dVo_isGoodOf_6 : decode kVo_isGoodOf 6 = .ok (.if_icmp .ne 15, 3) := by decide +kernel
theorem dVo_isGoodOf_9 : decode kVo_isGoodOf 9 = .ok (.aload_n 0, 1) := by decide +kernel
theorem dVo_isGoodOf_10 : decode kVo_isGoodOf 10 = .ok (.invokevirtual 49, 3) := by decide +kernel
theorem dVo_isGoodOf_13 : decode kVo_isGoodOf 13 = .ok (.iconst 1, 1) := by decide +kernel
theorem dVo_isGoodOf_14 : decode kVo_isGoodOf 14 = .ok (.if_icmp .ne 7, 3) := by decide +kernel
theorem dVo_isGoodOf_17 : decode kVo_isGoodOf 17 = .ok (.iconst 1, 1) := by decide +kernel
theorem dVo_isGoodOf_18 : decode kVo_isGoodOf 18 = .ok (.goto 4, 3) := by decide +kernel
theorem dVo_isGoodOf_21 : decode kVo_isGoodOf 21 = .ok (.iconst 0, 1) := by decide +kernel
theorem dVo_isGoodOf_22 : decode kVo_isGoodOf 22 = .ok (.ireturn, 1) := by decide +kernel
theorem dVo_isAsWideAndManyAs_0 : decode kVo_isAsWideAndManyAs 0 = .ok (.aload_n 0, 1) := by decide +kernel
theorem dVo_isAsWideAndManyAs_1 : decode kVo_isAsWideAndManyAs 1 = .ok (.getfield 23, 3) := by decide +kernel
theorem dVo_isAsWideAndManyAs_4 : decode kVo_isAsWideAndManyAs 4 = .ok (.aload_n 1, 1) := by decide +kernel
theorem dVo_isAsWideAndManyAs_5 : decode kVo_isAsWideAndManyAs 5 = .ok (.getfield 23, 3) := by decide +kernel
theorem dVo_isAsWideAndManyAs_8 : decode kVo_isAsWideAndManyAs 8 = .ok (.if_icmp .ne 33, 3) := by decide +kernel
theorem dVo_isAsWideAndManyAs_11 : decode kVo_isAsWideAndManyAs 11 = .ok (.aload_n 0, 1) := by decide +kernel
theorem dVo_isAsWideAndManyAs_12 : decode kVo_isAsWideAndManyAs 12 = .ok (.iconst 4, 1) := by decide +kernel
theorem dVo_isAsWideAndManyAs_13 : decode kVo_isAsWideAndManyAs 13 = .ok (.invokevirtual 19, 3) := by decide +kernel
theorem dVo_isAsWideAndManyAs_16 : decode kVo_isAsWideAndManyAs 16 = .ok (.aload_n 1, 1) := by decide +kernel
theorem dVo_isAsWideAndManyAs_17 : decode kVo_isAsWideAndManyAs 17 = .ok (.iconst 4, 1) := by decide +kernel
theorem dVo_isAsWideAndManyAs_18 : decode kVo_isAsWideAndManyAs 18 = .ok (.invokevirtual 19, 3) := by decide +kernel
theorem dVo_isAsWideAndManyAs_21 : decode kVo_isAsWideAndManyAs 21 = .ok (.if_icmp .ne 20, 3) := by decide +kernel
theorem dVo_isAsWideAndManyAs_24 : decode kVo_isAsWideAndManyAs 24 = .ok (.aload_n 0, 1) := by decide +kernel
theorem dVo_isAsWideAndManyAs_25 : decode kVo_isAsWideAndManyAs 25 = .ok (.iconst 5, 1) := by decide +kernel
theorem dVo_isAsWideAndManyAs_26 : decode kVo_isAsWideAndManyAs 26 = .ok (.invokevirtual 19, 3) := by decide +kernel
theorem dVo_isAsWideAndManyAs_29 : decode kVo_isAsWideAndManyAs 29 = .ok (.aload_n 1, 1) := by decide +kernel
theorem dVo_isAsWideAndManyAs_30 : decode kVo_isAsWideAndManyAs 30 = .ok (.iconst 5, 1) := by decide +kernel
theorem dVo_isAsWideAndManyAs_31 : decode kVo_isAsWideAndManyAs 31 = .ok (.invokevirtual 19, 3) := by decide +kernel
theorem dVo_isAsWideAndManyAs_34 : decode kVo_isAsWideAndManyAs 34 = .ok (.if_icmp .ne 7, 3) := by decide +kernel
theorem dVo_isAsWideAndManyAs_37 : decode kVo_isAsWideAndManyAs 37 = .ok (.iconst 1, 1) := by decide +kernel
theorem dVo_isAsWideAndManyAs_38 : decode kVo_isAsWideAndManyAs 38 = .ok (.goto 4, 3) := by decide +kernel
theorem dVo_isAsWideAndManyAs_41 : decode kVo_isAsWideAndManyAs 41 = .ok (.iconst 0, 1) := by decide +kernel
theorem dVo_isAsWideAndManyAs_42 : decode kVo_isAsWideAndManyAs 42 = .ok (.ireturn, 1) := by decide +kernel
end
