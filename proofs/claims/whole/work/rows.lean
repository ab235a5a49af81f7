section
-- ===== PART A: goes FIRST, ahead of the names: the tables' words, and 'selects' of the private methods out of them =====
/-- a private method of a class that the tables say can be made, by its rows of tables_1 -/
def lw_okq (q : MethodName × Nat) : Prop := (q.1.cls ≠ "java/lang/invoke/MethodHandle" ∧ q.1.cls ≠ "java/lang/invoke/VarHandle") ∧ Cond.instantiable q.1.cls q.2 ∈ tables_1 ∧ Cond.privateMethod q.1 ∈ tables_1 ∧ Cond.instanceMethod q.1 ∈ tables_1
theorem lw_p0 : lw_okq (⟨"ChoiceBoard", "hasVoid", "()Z"⟩, 12) := ⟨⟨by decide +kernel, by decide +kernel⟩, List.mem_of_getElem? (i := 15) (by decide +kernel), List.mem_of_getElem? (i := 94) (by decide +kernel), List.mem_of_getElem? (i := 95) (by decide +kernel)⟩
theorem lw_p1 : lw_okq (⟨"ChoiceBoard$Constraint", "sizeOfAll", "()I"⟩, 3) := ⟨⟨by decide +kernel, by decide +kernel⟩, List.mem_of_getElem? (i := 24) (by decide +kernel), List.mem_of_getElem? (i := 102) (by decide +kernel), List.mem_of_getElem? (i := 103) (by decide +kernel)⟩
theorem lw_p2 : lw_okq (⟨"ChoiceBoard$Constraint", "size", "(I)I"⟩, 3) := ⟨⟨by decide +kernel, by decide +kernel⟩, List.mem_of_getElem? (i := 24) (by decide +kernel), List.mem_of_getElem? (i := 106) (by decide +kernel), List.mem_of_getElem? (i := 107) (by decide +kernel)⟩
theorem lw_p3 : lw_okq (⟨"ChoiceBoard", "hasObjective", "()Z"⟩, 12) := ⟨⟨by decide +kernel, by decide +kernel⟩, List.mem_of_getElem? (i := 15) (by decide +kernel), List.mem_of_getElem? (i := 113) (by decide +kernel), List.mem_of_getElem? (i := 114) (by decide +kernel)⟩
theorem lw_p4 : lw_okq (⟨"ChoiceBoard", "objectiveValue", "(I)I"⟩, 12) := ⟨⟨by decide +kernel, by decide +kernel⟩, List.mem_of_getElem? (i := 15) (by decide +kernel), List.mem_of_getElem? (i := 121) (by decide +kernel), List.mem_of_getElem? (i := 122) (by decide +kernel)⟩
theorem lw_p5 : lw_okq (⟨"ChoiceBoard", "isPreferred", "(II)Z"⟩, 12) := ⟨⟨by decide +kernel, by decide +kernel⟩, List.mem_of_getElem? (i := 15) (by decide +kernel), List.mem_of_getElem? (i := 128) (by decide +kernel), List.mem_of_getElem? (i := 129) (by decide +kernel)⟩
theorem lw_p6 : lw_okq (⟨"ChoiceBoard", "meetsStore", "(IZ)Z"⟩, 12) := ⟨⟨by decide +kernel, by decide +kernel⟩, List.mem_of_getElem? (i := 15) (by decide +kernel), List.mem_of_getElem? (i := 135) (by decide +kernel), List.mem_of_getElem? (i := 136) (by decide +kernel)⟩
theorem lw_p7 : lw_okq (⟨"ChoiceBoard$Constraint", "slack", "(II)I"⟩, 3) := ⟨⟨by decide +kernel, by decide +kernel⟩, List.mem_of_getElem? (i := 24) (by decide +kernel), List.mem_of_getElem? (i := 143) (by decide +kernel), List.mem_of_getElem? (i := 144) (by decide +kernel)⟩
theorem lw_p8 : lw_okq (⟨"ChoiceBoard$Constraint", "countedTruth", "(I)I"⟩, 3) := ⟨⟨by decide +kernel, by decide +kernel⟩, List.mem_of_getElem? (i := 24) (by decide +kernel), List.mem_of_getElem? (i := 148) (by decide +kernel), List.mem_of_getElem? (i := 149) (by decide +kernel)⟩
theorem lw_p9 : lw_okq (⟨"java/lang/Throwable", "fillInStackTrace", "(I)Ljava/lang/Throwable;"⟩, 6) := ⟨⟨by decide +kernel, by decide +kernel⟩, List.mem_of_getElem? (i := 205) (by decide +kernel), List.mem_of_getElem? (i := 203) (by decide +kernel), List.mem_of_getElem? (i := 204) (by decide +kernel)⟩
theorem lw_p10 : lw_okq (⟨"ChoiceBoard", "isStoreFull", "()Z"⟩, 12) := ⟨⟨by decide +kernel, by decide +kernel⟩, List.mem_of_getElem? (i := 15) (by decide +kernel), List.mem_of_getElem? (i := 238) (by decide +kernel), List.mem_of_getElem? (i := 239) (by decide +kernel)⟩
theorem lw_p11 : lw_okq (⟨"ChoiceBoard$Constraint", "normalize", "([III)V"⟩, 3) := ⟨⟨by decide +kernel, by decide +kernel⟩, List.mem_of_getElem? (i := 24) (by decide +kernel), List.mem_of_getElem? (i := 261) (by decide +kernel), List.mem_of_getElem? (i := 262) (by decide +kernel)⟩
theorem lw_p12 : lw_okq (⟨"ChoiceBoard", "keepNext", "(Z)I"⟩, 12) := ⟨⟨by decide +kernel, by decide +kernel⟩, List.mem_of_getElem? (i := 15) (by decide +kernel), List.mem_of_getElem? (i := 273) (by decide +kernel), List.mem_of_getElem? (i := 274) (by decide +kernel)⟩
theorem lw_p13 : lw_okq (⟨"ChoiceBoard", "isStored", "(I)Z"⟩, 12) := ⟨⟨by decide +kernel, by decide +kernel⟩, List.mem_of_getElem? (i := 15) (by decide +kernel), List.mem_of_getElem? (i := 295) (by decide +kernel), List.mem_of_getElem? (i := 296) (by decide +kernel)⟩
theorem lw_p14 : lw_okq (⟨"ChoiceBoard", "closed", "(II)I"⟩, 12) := ⟨⟨by decide +kernel, by decide +kernel⟩, List.mem_of_getElem? (i := 15) (by decide +kernel), List.mem_of_getElem? (i := 331) (by decide +kernel), List.mem_of_getElem? (i := 332) (by decide +kernel)⟩
theorem lw_p15 : lw_okq (⟨"ChoiceBoard", "refuseFullStack", "()V"⟩, 12) := ⟨⟨by decide +kernel, by decide +kernel⟩, List.mem_of_getElem? (i := 15) (by decide +kernel), List.mem_of_getElem? (i := 346) (by decide +kernel), List.mem_of_getElem? (i := 347) (by decide +kernel)⟩
def lw_privs_1 : List (MethodName × Nat) := [(⟨"ChoiceBoard", "hasVoid", "()Z"⟩, 12), (⟨"ChoiceBoard$Constraint", "sizeOfAll", "()I"⟩, 3), (⟨"ChoiceBoard$Constraint", "size", "(I)I"⟩, 3), (⟨"ChoiceBoard", "hasObjective", "()Z"⟩, 12), (⟨"ChoiceBoard", "objectiveValue", "(I)I"⟩, 12), (⟨"ChoiceBoard", "isPreferred", "(II)Z"⟩, 12), (⟨"ChoiceBoard", "meetsStore", "(IZ)Z"⟩, 12), (⟨"ChoiceBoard$Constraint", "slack", "(II)I"⟩, 3), (⟨"ChoiceBoard$Constraint", "countedTruth", "(I)I"⟩, 3), (⟨"java/lang/Throwable", "fillInStackTrace", "(I)Ljava/lang/Throwable;"⟩, 6), (⟨"ChoiceBoard", "isStoreFull", "()Z"⟩, 12), (⟨"ChoiceBoard$Constraint", "normalize", "([III)V"⟩, 3), (⟨"ChoiceBoard", "keepNext", "(Z)I"⟩, 12), (⟨"ChoiceBoard", "isStored", "(I)Z"⟩, 12), (⟨"ChoiceBoard", "closed", "(II)I"⟩, 12), (⟨"ChoiceBoard", "refuseFullStack", "()V"⟩, 12)]
theorem lw_r1 : ∀ q ∈ lw_privs_1, lw_okq q := List.forall_mem_cons.mpr ⟨lw_p0, List.forall_mem_cons.mpr ⟨lw_p1, List.forall_mem_cons.mpr ⟨lw_p2, List.forall_mem_cons.mpr ⟨lw_p3, List.forall_mem_cons.mpr ⟨lw_p4, List.forall_mem_cons.mpr ⟨lw_p5, List.forall_mem_cons.mpr ⟨lw_p6, List.forall_mem_cons.mpr ⟨lw_p7, List.forall_mem_cons.mpr ⟨lw_p8, List.forall_mem_cons.mpr ⟨lw_p9, List.forall_mem_cons.mpr ⟨lw_p10, List.forall_mem_cons.mpr ⟨lw_p11, List.forall_mem_cons.mpr ⟨lw_p12, List.forall_mem_cons.mpr ⟨lw_p13, List.forall_mem_cons.mpr ⟨lw_p14, List.forall_mem_cons.mpr ⟨lw_p15, fun _ h => absurd h List.not_mem_nil⟩⟩⟩⟩⟩⟩⟩⟩⟩⟩⟩⟩⟩⟩⟩⟩
theorem lw_p16 : lw_okq (⟨"ChoiceBoard$Constraint", "isOpposed", "(LChoiceBoard$Constraint;I)Z"⟩, 3) := ⟨⟨by decide +kernel, by decide +kernel⟩, List.mem_of_getElem? (i := 24) (by decide +kernel), List.mem_of_getElem? (i := 379) (by decide +kernel), List.mem_of_getElem? (i := 380) (by decide +kernel)⟩
theorem lw_p17 : lw_okq (⟨"ChoiceBoard", "refuseTooLargeScratch", "()V"⟩, 12) := ⟨⟨by decide +kernel, by decide +kernel⟩, List.mem_of_getElem? (i := 15) (by decide +kernel), List.mem_of_getElem? (i := 386) (by decide +kernel), List.mem_of_getElem? (i := 387) (by decide +kernel)⟩
theorem lw_p18 : lw_okq (⟨"ChoiceBoard", "refuseEmptyStack", "()V"⟩, 12) := ⟨⟨by decide +kernel, by decide +kernel⟩, List.mem_of_getElem? (i := 15) (by decide +kernel), List.mem_of_getElem? (i := 417) (by decide +kernel), List.mem_of_getElem? (i := 418) (by decide +kernel)⟩
theorem lw_p19 : lw_okq (⟨"ChoiceBoard$Constraint", "resize", "(II)V"⟩, 3) := ⟨⟨by decide +kernel, by decide +kernel⟩, List.mem_of_getElem? (i := 24) (by decide +kernel), List.mem_of_getElem? (i := 440) (by decide +kernel), List.mem_of_getElem? (i := 441) (by decide +kernel)⟩
theorem lw_p20 : lw_okq (⟨"ChoiceBoard", "refuseFullStore", "()V"⟩, 12) := ⟨⟨by decide +kernel, by decide +kernel⟩, List.mem_of_getElem? (i := 15) (by decide +kernel), List.mem_of_getElem? (i := 487) (by decide +kernel), List.mem_of_getElem? (i := 488) (by decide +kernel)⟩
theorem lw_p21 : lw_okq (⟨"ChoiceBoard", "refuseUnsolved", "()V"⟩, 12) := ⟨⟨by decide +kernel, by decide +kernel⟩, List.mem_of_getElem? (i := 15) (by decide +kernel), List.mem_of_getElem? (i := 523) (by decide +kernel), List.mem_of_getElem? (i := 524) (by decide +kernel)⟩
theorem lw_p22 : lw_okq (⟨"ChoiceBoardModel", "fails", "(ZZZ)Z"⟩, 13) := ⟨⟨by decide +kernel, by decide +kernel⟩, List.mem_of_getElem? (i := 534) (by decide +kernel), List.mem_of_getElem? (i := 592) (by decide +kernel), List.mem_of_getElem? (i := 593) (by decide +kernel)⟩
theorem lw_p23 : lw_okq (⟨"ChoiceBoardModel", "empty", "()V"⟩, 13) := ⟨⟨by decide +kernel, by decide +kernel⟩, List.mem_of_getElem? (i := 534) (by decide +kernel), List.mem_of_getElem? (i := 600) (by decide +kernel), List.mem_of_getElem? (i := 601) (by decide +kernel)⟩
theorem lw_p24 : lw_okq (⟨"ChoiceBoardModel", "normalize", "(ZII)V"⟩, 13) := ⟨⟨by decide +kernel, by decide +kernel⟩, List.mem_of_getElem? (i := 534) (by decide +kernel), List.mem_of_getElem? (i := 608) (by decide +kernel), List.mem_of_getElem? (i := 609) (by decide +kernel)⟩
theorem lw_p25 : lw_okq (⟨"ChoiceBoardModel", "keep", "(IZ)I"⟩, 13) := ⟨⟨by decide +kernel, by decide +kernel⟩, List.mem_of_getElem? (i := 534) (by decide +kernel), List.mem_of_getElem? (i := 612) (by decide +kernel), List.mem_of_getElem? (i := 613) (by decide +kernel)⟩
theorem lw_p26 : lw_okq (⟨"ChoiceBoardModel", "copy", "(II)V"⟩, 13) := ⟨⟨by decide +kernel, by decide +kernel⟩, List.mem_of_getElem? (i := 534) (by decide +kernel), List.mem_of_getElem? (i := 616) (by decide +kernel), List.mem_of_getElem? (i := 617) (by decide +kernel)⟩
theorem lw_p27 : lw_okq (⟨"ChoiceBoardModel", "closes", "(Z)Z"⟩, 13) := ⟨⟨by decide +kernel, by decide +kernel⟩, List.mem_of_getElem? (i := 534) (by decide +kernel), List.mem_of_getElem? (i := 636) (by decide +kernel), List.mem_of_getElem? (i := 637) (by decide +kernel)⟩
theorem lw_p28 : lw_okq (⟨"ChoiceBoardModel", "tighten", "(I)I"⟩, 13) := ⟨⟨by decide +kernel, by decide +kernel⟩, List.mem_of_getElem? (i := 534) (by decide +kernel), List.mem_of_getElem? (i := 640) (by decide +kernel), List.mem_of_getElem? (i := 641) (by decide +kernel)⟩
theorem lw_p29 : lw_okq (⟨"ChoiceBoardModel", "slack", "(I)I"⟩, 13) := ⟨⟨by decide +kernel, by decide +kernel⟩, List.mem_of_getElem? (i := 534) (by decide +kernel), List.mem_of_getElem? (i := 644) (by decide +kernel), List.mem_of_getElem? (i := 645) (by decide +kernel)⟩
theorem lw_p30 : lw_okq (⟨"ChoiceBoardModel", "upper", "()I"⟩, 13) := ⟨⟨by decide +kernel, by decide +kernel⟩, List.mem_of_getElem? (i := 534) (by decide +kernel), List.mem_of_getElem? (i := 655) (by decide +kernel), List.mem_of_getElem? (i := 656) (by decide +kernel)⟩
theorem lw_p31 : lw_okq (⟨"ChoiceBoardModel", "large", "(I)Z"⟩, 13) := ⟨⟨by decide +kernel, by decide +kernel⟩, List.mem_of_getElem? (i := 534) (by decide +kernel), List.mem_of_getElem? (i := 667) (by decide +kernel), List.mem_of_getElem? (i := 668) (by decide +kernel)⟩
def lw_privs_2 : List (MethodName × Nat) := [(⟨"ChoiceBoard$Constraint", "isOpposed", "(LChoiceBoard$Constraint;I)Z"⟩, 3), (⟨"ChoiceBoard", "refuseTooLargeScratch", "()V"⟩, 12), (⟨"ChoiceBoard", "refuseEmptyStack", "()V"⟩, 12), (⟨"ChoiceBoard$Constraint", "resize", "(II)V"⟩, 3), (⟨"ChoiceBoard", "refuseFullStore", "()V"⟩, 12), (⟨"ChoiceBoard", "refuseUnsolved", "()V"⟩, 12), (⟨"ChoiceBoardModel", "fails", "(ZZZ)Z"⟩, 13), (⟨"ChoiceBoardModel", "empty", "()V"⟩, 13), (⟨"ChoiceBoardModel", "normalize", "(ZII)V"⟩, 13), (⟨"ChoiceBoardModel", "keep", "(IZ)I"⟩, 13), (⟨"ChoiceBoardModel", "copy", "(II)V"⟩, 13), (⟨"ChoiceBoardModel", "closes", "(Z)Z"⟩, 13), (⟨"ChoiceBoardModel", "tighten", "(I)I"⟩, 13), (⟨"ChoiceBoardModel", "slack", "(I)I"⟩, 13), (⟨"ChoiceBoardModel", "upper", "()I"⟩, 13), (⟨"ChoiceBoardModel", "large", "(I)Z"⟩, 13)]
theorem lw_r2 : ∀ q ∈ lw_privs_2, lw_okq q := List.forall_mem_cons.mpr ⟨lw_p16, List.forall_mem_cons.mpr ⟨lw_p17, List.forall_mem_cons.mpr ⟨lw_p18, List.forall_mem_cons.mpr ⟨lw_p19, List.forall_mem_cons.mpr ⟨lw_p20, List.forall_mem_cons.mpr ⟨lw_p21, List.forall_mem_cons.mpr ⟨lw_p22, List.forall_mem_cons.mpr ⟨lw_p23, List.forall_mem_cons.mpr ⟨lw_p24, List.forall_mem_cons.mpr ⟨lw_p25, List.forall_mem_cons.mpr ⟨lw_p26, List.forall_mem_cons.mpr ⟨lw_p27, List.forall_mem_cons.mpr ⟨lw_p28, List.forall_mem_cons.mpr ⟨lw_p29, List.forall_mem_cons.mpr ⟨lw_p30, List.forall_mem_cons.mpr ⟨lw_p31, fun _ h => absurd h List.not_mem_nil⟩⟩⟩⟩⟩⟩⟩⟩⟩⟩⟩⟩⟩⟩⟩⟩
theorem lw_p32 : lw_okq (⟨"ChoiceBoardModel", "sizes", "(I)I"⟩, 13) := ⟨⟨by decide +kernel, by decide +kernel⟩, List.mem_of_getElem? (i := 534) (by decide +kernel), List.mem_of_getElem? (i := 707) (by decide +kernel), List.mem_of_getElem? (i := 708) (by decide +kernel)⟩
theorem lw_p33 : lw_okq (⟨"ChoiceBoardModel", "meets", "(II)Z"⟩, 13) := ⟨⟨by decide +kernel, by decide +kernel⟩, List.mem_of_getElem? (i := 534) (by decide +kernel), List.mem_of_getElem? (i := 715) (by decide +kernel), List.mem_of_getElem? (i := 716) (by decide +kernel)⟩
theorem lw_p34 : lw_okq (⟨"ChoiceBoardModel", "worth", "(I)I"⟩, 13) := ⟨⟨by decide +kernel, by decide +kernel⟩, List.mem_of_getElem? (i := 534) (by decide +kernel), List.mem_of_getElem? (i := 719) (by decide +kernel), List.mem_of_getElem? (i := 720) (by decide +kernel)⟩
theorem lw_p35 : lw_okq (⟨"ChoiceBoardModel", "noGoal", "()Z"⟩, 13) := ⟨⟨by decide +kernel, by decide +kernel⟩, List.mem_of_getElem? (i := 534) (by decide +kernel), List.mem_of_getElem? (i := 723) (by decide +kernel), List.mem_of_getElem? (i := 724) (by decide +kernel)⟩
def lw_privs_3 : List (MethodName × Nat) := [(⟨"ChoiceBoardModel", "sizes", "(I)I"⟩, 13), (⟨"ChoiceBoardModel", "meets", "(II)Z"⟩, 13), (⟨"ChoiceBoardModel", "worth", "(I)I"⟩, 13), (⟨"ChoiceBoardModel", "noGoal", "()Z"⟩, 13)]
theorem lw_r3 : ∀ q ∈ lw_privs_3, lw_okq q := List.forall_mem_cons.mpr ⟨lw_p32, List.forall_mem_cons.mpr ⟨lw_p33, List.forall_mem_cons.mpr ⟨lw_p34, List.forall_mem_cons.mpr ⟨lw_p35, fun _ h => absurd h List.not_mem_nil⟩⟩⟩⟩
def lw_privs : List (MethodName × Nat) := lw_privs_1 ++ (lw_privs_2 ++ (lw_privs_3))
def lw_tbl : List Cond := k2_sels lw_privs ++ tables_1
theorem lw_privs_ok : ∀ q ∈ lw_privs, lw_okq q := by
  show ∀ q ∈ lw_privs_1 ++ (lw_privs_2 ++ (lw_privs_3)), lw_okq q
  exact List.forall_mem_append.mpr ⟨lw_r1, List.forall_mem_append.mpr ⟨lw_r2, lw_r3⟩⟩
end
section
/-! ===== a thrown object caught by a row of the table, behind rows that name other classes ===== -/
/-- one row that covers the place: by the class that it names, the search ends there or goes on; the tables note the class -/
theorem vh_row {Q : Handler → Pre} {E : CtlPost} {e : Env} {d : Bool} {acts : List Action} {S : State} {f : JFrame} {a : Addr} {x : ExceptionTableEntry} {t : List ExceptionTableEntry} {k : ClassId} {cell : Cell} (hx : covers x f.pc = true) (h0 : x.catchType ≠ 0)
    (hl : S.vm.ClassLinks e.platform f.method.cls x.catchType k) (hcell : S.heap[a]? = some cell) (hobj : ∀ z, cell.vm ≠ .statics z) (hk : ∃ q, S.vm.classes[cell.cls]? = some q) (hc : ∃ q, S.vm.classes[k]? = some q) :
    wp (findHandler.go f a (x :: t)) Q E e d acts S ↔ if S.vm.assignable cell.cls k = true then Q (.found x.handlerPc) d acts (S.setVm (S.vm.noted f.method.cls x.catchType (.cls k))) else wp (findHandler.go f a t) Q E e d acts (S.setVm (S.vm.noted f.method.cls x.catchType (.cls k))) := by
  simp only [covers] at hx
  have hal : S.vm.Alike (S.vm.noted f.method.cls x.catchType (.cls k)) := (Vm.Alike.refl S.vm).noted _ _ _
  obtain ⟨h1, h2⟩ := (resolveClass_links e.toSetting hl).op (op := VmOp.resolveClass f.method.cls x.catchType) rfl
  obtain ⟨q1, hq1⟩ := hk
  obtain ⟨q2, hq2⟩ := hc
  obtain ⟨r1, hr1, -⟩ := hal.2.2 _ _ hq1
  obtain ⟨r2, hr2, -⟩ := hal.2.2 _ _ hq2
  have has : (S.vm.noted f.method.cls x.catchType (.cls k)).assignable cell.cls k = S.vm.assignable cell.cls k := hal.assignable _ _
  cases hA : S.vm.assignable cell.cls k <;> rw [hA] at has <;> simp [findHandler.go, hx, h0, h1, h2, hcell, hobj, hr1, hr2, has, VmOp.dirties, VmOp.acts]
/-- what a row is to a thrown object of the class k0: it doesn't reach the place, or it names a class that the object has (b), or has not -/
def vh_Row (pl : Platform) (s0 : State) (own : ClassId) (pc : Nat) (k0 : ClassId) (b : Bool) (y : ExceptionTableEntry) : Prop := y.catchType ≠ 0 ∧ ∃ k, s0.vm.ClassLinks pl own y.catchType k ∧ s0.vm.assignable k0 k = b
theorem vh_search {e : Env} {s0 : State} {f : JFrame} {a : Addr} {cell : Cell} (hobj : ∀ z, cell.vm ≠ .statics z) (hk0 : ∃ q, s0.vm.classes[cell.cls]? = some q) (x : ExceptionTableEntry) (suf : List ExceptionTableEntry) (hx : covers x f.pc = true) (hX : vh_Row e.platform s0 f.method.cls f.pc cell.cls true x)
    (pre : List ExceptionTableEntry) : ∀ (S : State), s0.WarmedH S.vm → S.heap[a]? = some cell → (∀ y ∈ pre, covers y f.pc = false ∨ vh_Row e.platform s0 f.method.cls f.pc cell.cls false y) →
      ∃ vm', s0.WarmedH vm' ∧ ∀ (Q : Handler → Pre) (E : CtlPost) (d : Bool) (acts : List Action), wp (findHandler.go f a (pre ++ x :: suf)) Q E e d acts S ↔ Q (.found x.handlerPc) d acts (S.setVm vm') := by
  obtain ⟨q0, hq0⟩ := hk0
  induction pre with
  | nil =>
    intro S hW hcell _
    obtain ⟨h0, k, hl, hfit⟩ := hX
    obtain ⟨r0, hr0, -⟩ := hW.alike.2.2 _ _ hq0
    obtain ⟨dk, _, _, kt, hd, _, _, _, _, hkt, _, hop⟩ := hl.here
    obtain ⟨kt', hkt', -⟩ := hW.alike.2.2 _ _ hkt
    refine ⟨_, hW.noted hd hop (State.rightAt_cls hl), fun Q E d acts => ?_⟩
    rw [List.nil_append, vh_row hx h0 (hW.classLinks hl) hcell hobj ⟨r0, hr0⟩ ⟨kt', hkt'⟩, if_pos (by rw [hW.alike.assignable]; exact hfit)]
  | cons y ys ih =>
    intro S hW hcell hp
    have hp' : ∀ z ∈ ys, covers z f.pc = false ∨ vh_Row e.platform s0 f.method.cls f.pc cell.cls false z := fun z hz => hp z (List.mem_cons_of_mem _ hz)
    cases hcov : covers y f.pc with
    | false =>
      obtain ⟨vm', hW', hq⟩ := ih S hW hcell hp'
      refine ⟨vm', hW', fun Q E d acts => ?_⟩
      rw [List.cons_append, W.findHandler_go_skip hcov]
      exact hq Q E d acts
    | true =>
      rcases hp y List.mem_cons_self with h | ⟨h0, k, hl, hno⟩
      · rw [h] at hcov; cases hcov
      · obtain ⟨r0, hr0, -⟩ := hW.alike.2.2 _ _ hq0
        obtain ⟨dk, _, _, kt, hd, _, _, _, _, hkt, _, hop⟩ := hl.here
        obtain ⟨kt', hkt', -⟩ := hW.alike.2.2 _ _ hkt
        obtain ⟨vm', hW', hq⟩ := ih (S.setVm (S.vm.noted f.method.cls y.catchType (.cls k))) (hW.noted hd hop (State.rightAt_cls hl)) hcell hp'
        refine ⟨vm', hW', fun Q E d acts => ?_⟩
        rw [List.cons_append, vh_row hcov h0 (hW.classLinks hl) hcell hobj ⟨r0, hr0⟩ ⟨kt', hkt'⟩, if_neg (by rw [hW.alike.assignable, hno]; simp)]
        exact hq Q E d acts
theorem vh_caught {p : Program} {l : Launch} {e : Env} {R : Room} {s : State} {m : MethodId} {args : Array Value} {below : List Frame} {meth : Method} {c : Code} {T : State} {locs : List Loc} {cells slots : Nat} (X : Stand p l e R s m args below meth c T locs cells slots) (a : Addr) {g : JFrame} (hg : g.method = m)
    {cell : Cell} (hcell : T.heap[a]? = some cell) (hobj : cell.vm.isStatics = false) (hk0 : ∃ k, s.vm.classes[cell.cls]? = some k) (pre : List ExceptionTableEntry) (x : ExceptionTableEntry) (suf : List ExceptionTableEntry) (hsplit : c.exceptionTable.toList = pre ++ x :: suf)
    (hpass : ∀ y ∈ pre, covers y g.pc = false ∨ (y.catchType ≠ 0 ∧ ∃ k, s.vm.ClassLinks e.platform m.cls y.catchType k ∧ s.vm.assignable cell.cls k = false)) (hx : covers x g.pc = true) (hend : x.catchType = 0 ∨ (x.catchType ≠ 0 ∧ ∃ k, s.vm.ClassLinks e.platform m.cls x.catchType k ∧ s.vm.assignable cell.cls k = true)) (h0 : x.catchType ≠ 0) :
    ∃ vm', Stand p l e R s m args below meth c (T.setVm vm') locs cells slots ∧ Steps p.tables e below ((T.setTop g).pushFrame (.throwing a)) ((T.setVm vm').setTop { g with pc := x.handlerPc, stack := [.ref a] }) := by
  subst hg
  have hend2 : vh_Row e.platform s g.method.cls g.pc cell.cls true x := hend.elim (fun h => absurd h h0) id
  obtain ⟨vm', hW', hq⟩ := vh_search (e := e) (s0 := s) (f := g) (a := a) (VmData.ne_statics_of hobj) hk0 x suf hx hend2 pre ((T.setTop g).pushFrame (.throwing a)) X.warmed hcell hpass
  have hfind : ∀ (Q : Handler → Pre) (E : CtlPost) (d : Bool) (acts : List Action), wp (findHandler g a) Q E e d acts ((T.setTop g).pushFrame (.throwing a)) ↔ Q (.found x.handlerPc) d acts (((T.setTop g).pushFrame (.throwing a)).setVm vm') := fun Q E d acts => by
    rw [W.findHandler_eq (s := (T.setTop g).pushFrame (.throwing a)) (meth := meth) (code := c) X.method' X.code, hsplit]
    exact hq Q E d acts
  refine ⟨vm', X.noted hW', ?_⟩
  obtain ⟨hgo, hw⟩ := X.here.throwing a
  refine Steps.head hgo hw ?_
  have hstep : ∀ (S : State) (r : List Frame), (∀ (Q : Handler → Pre) (E : CtlPost) (d : Bool) (acts : List Action), wp (findHandler g a) Q E e d acts S ↔ Q (.found x.handlerPc) d acts (S.setVm vm')) → (stepThrowing e S a (.java g :: r)).1 = (S.setVm vm').setFrames (.java { g with pc := x.handlerPc, stack := [.ref a] } :: r) := by
    intro S r hf
    simp only [stepThrowing, searchFrame, vmDo]
    generalize hr : Sem.go _ e false [] S = res
    obtain ⟨as, rfl, -⟩ := Sem.eq_ok_of hr (a := Handler.found x.handlerPc) (s' := S.setVm vm') (acts' := []) (by simp [hf _ _ _ _])
    rfl
  rw [stepThread_throwing (frames_entered X.here.top _), hstep _ _ hfind]
  obtain ⟨g0, hg0⟩ := Option.isSome_iff_exists.mp X.here.top
  obtain ⟨r, hr⟩ := State.topJava?_eq_some.mp hg0
  have hr' : (T.setVm vm').frames = .java g0 :: r := hr
  have hsv : ∀ (u : State) (F G : List Frame), ((u.setFrames F).setVm vm').setFrames G = (u.setVm vm').setFrames G := fun u F G => by
    rw [show (u.setFrames F).setVm vm' = (u.setVm vm').setFrames F from rfl, State.setFrames_setFrames]
  rw [hr, List.tail_cons, State.pushFrame, hsv, State.setTop_of_frames _ hr, hsv, State.setTop_of_frames _ hr']
  exact Steps.refl _
/-! ===== BEGIN words of one list among another's, by their places ===== -/
theorem goodIn_r {big : List Cond} (ws : List Cond) (ps : List Nat) (hp : ws = ps.filterMap (fun i => big[i]?)) (h : ws.all goodWord = true) : GoodIn big ws := by
  intro w hw
  have h1 := List.all_eq_true.mp h w hw
  rw [hp] at hw
  obtain ⟨i, -, hi⟩ := List.mem_filterMap.mp hw
  have hm : w ∈ big := by first | exact List.mem_of_getElem? hi | exact List.getElem?_mem hi
  exact ⟨hm, good_of_word h1⟩
theorem goodIn_app {big a b : List Cond} (ha : GoodIn big a) (hb : GoodIn big b) : GoodIn big (a ++ b) := fun w h => (List.mem_append.mp h).elim (ha w) (hb w)
theorem goodIn_ca {big a b : List Cond} {c : Cond} (ha : GoodIn big (c :: a)) (hb : GoodIn big b) : GoodIn big (c :: (a ++ b)) := fun w h => (List.mem_cons.mp h).elim (fun e => ha w (List.mem_cons.mpr (Or.inl e))) (fun h => (List.mem_append.mp h).elim (fun h => ha w (List.mem_cons.mpr (Or.inr h))) (hb w))
theorem goodIn_sub {big ws : List Cond} (hm : ∀ w ∈ ws, w ∈ big) (h : ws.all goodWord = true) : GoodIn big ws := fun w hw => ⟨hm w hw, good_of_word (List.all_eq_true.mp h w hw)⟩
/-! ===== END ===== -/

/-! ===== BEGIN exceptions that leave a method, and their catching by the caller (launches without stack traces) ===== -/
section VXA
/-! The laws vx_back, vx_callV, vx_callS, vx_callSW, vx_throw0, vx_throwS follow proofs of the library, with one case more: JvmDerived/Free/Laws.lean (Back.of_free), Shelf42/LK1.lean (callV, callS), Shelf/KitTraced.lean (throwNew0V, throwNewS). -/
/-- where a method has thrown q: the class by its name, the cell, what was written, the world -/
def vx_T (XC : String → State → State → Prop) (st : State) (q : Addr) (t : State) (mc ms : Nat) (free : Addr → Prop) : Prop :=
  ∃ (E : String) (ce : Cell) (L : List Loc), XC E st t ∧ t.heap[q]? = some ce ∧ ce.vm = .none ∧ st.vm.findClass E = some ce.cls ∧ st.WarmedH t.vm ∧ st.sameButNew ({ t with vm := st.vm } : State) L mc ms ∧ ∀ z ∈ L, free z.base
def vx_Q (Qc : Array Value → State → Outcome → State → Prop) (XC : String → State → State → Prop) (mc ms : Nat) (free : Addr → Prop) : Array Value → State → Outcome → State → Prop := fun a st o t =>
  (Qc a st o t ∧ ∃ L, FrameEnd st o t L mc ms ∧ ∀ q ∈ L, free q.base) ∨ ∃ q, o = .threw q ∧ vx_T XC st q t mc ms free
/-- a callee that returns or throws -/
def vx_Met (l : Launch) (y : MethodName) (ws : List Cond) (rm : Room) (Pc : Array Value → State → Prop) (Qc : Array Value → State → Outcome → State → Prop) (XC : String → State → State → Prop) (mc ms : Nat) (free : Addr → Prop) : Prop :=
  MetFree l y (headSpec ws rm) Pc (fun _ _ _ _ _ => True) (vx_Q Qc XC mc ms free)
def vx_Post (XC : String → State → State → Prop) (mc ms : Nat) (free : Addr → Prop) : Pt → Array Value → Addr → Pt → Prop := fun A a q B =>
  ∃ (g : JFrame) (mk : MethodId) (t : State) (L : List Loc) (E : String) (ce : Cell), B.U.heap = t.heap ∧ B.U.vm = t.vm ∧ XC E (A.U.calling g mk a) t ∧ t.heap[q]? = some ce ∧ ce.vm = .none ∧ A.U.vm.findClass E = some ce.cls ∧ B.locs = A.locs ++ L ∧ (∀ z ∈ L, free z.base) ∧ B.cells = A.cells + mc ∧ B.slots = A.slots + ms
def vx_Back (l : Launch) (R : Room) (p : Program) (e : Env) (below : List Frame) (s : State) (sargs : Array Value) (y : MethodName) (len W9 : Nat)
    (Pre : Pt → Array Value → Prop) (Post : Pt → Array Value → Option Value → Pt → Prop) (PostX : Pt → Array Value → Addr → Pt → Prop) : Prop :=
  ∀ (m : MethodId) (meth : Method) (c : Code) (A : Pt) (g : JFrame) (ig : Instr) (mk : MethodId) (a : Array Value),
    Stand p l e R s m sargs below meth c A.U A.locs A.cells A.slots → g.method = m → g.locals.size = c.maxLocals → decode c.code g.pc = .ok (ig, len) →
    2 * g.monitorRoom + (g.stack.map fun v => v.category).sum ≤ W9 → A.U.methodNamed? y = some mk → Pre A a →
    (∃ (v : Option Value) (B : Pt), Stand p l e R s m sargs below meth c B.U B.locs B.cells B.slots ∧ Post A a v B ∧
      Steps p.tables e below (doInvoke e (A.U.setTop g) [] mk a).1 (B.U.setTop { g with pc := g.pc + len, stack := v.toList ++ g.stack })) ∨
    (∃ (q : Addr) (B : Pt), Stand p l e R s m sargs below meth c B.U B.locs B.cells B.slots ∧ PostX A a q B ∧
      Steps p.tables e below (doInvoke e (A.U.setTop g) [] mk a).1 ((B.U.setTop g).pushFrame (.throwing q)))
section Payer
variable {l : Launch} {R : Room} {p : Program} {e : Env} {below : List Frame} {s : State} {sargs : Array Value} {y : MethodName} {len W9 : Nat}
theorem vx_back {ws : List Cond} {rm : Room} {Pc : Array Value → State → Prop} {Qc : Array Value → State → Outcome → State → Prop} {XC : String → State → State → Prop} {mc ms : Nat} {free : Addr → Prop} {bytes : ByteArray} {maxL : Nat} {ret : Option FieldType}
    (hM : vx_Met l y ws rm Pc Qc XC mc ms free) (hblind : FrameBlind Pc) (hrc : rm.cells = mc) (hrs : rm.slots = ms)
    (hframes : rm.frames + 1 ≤ R.frames) (hlocals : W9 + (maxL + 11) + rm.locals ≤ R.locals)
    (hws : ∀ w ∈ ws, ∀ a' U, s.WarmedH U.vm → w.before a' U = true) (hcode : Cond.code y bytes maxL ret ∈ ws) (hinit : ∀ a' U, s.WarmedH U.vm → (Cond.initialized y.cls).before a' U = true) :
    vx_Back l R p e below s sargs y len W9 (PreOf R mc ms Pc) (PostOf Qc mc ms free) (vx_Post XC mc ms free) := by
  intro m meth c A g ig mk a X hg hsize hdg hW hn hp
  have h1 : (headSpec ws rm).pre.before a A.U = true := atoms_intro fun w hw => hws w hw _ _ X.warmed
  have h2 : (Cond.code y bytes maxL ret).before a A.U = true := hws _ hcode _ _ X.warmed
  have h3 : (Cond.initialized y.cls).before a A.U = true := hinit _ _ X.warmed
  have h4 : A.cells + (headSpec ws rm).room.cells ≤ R.cells := by rw [show (headSpec ws rm).room.cells = mc from hrc]; exact hp.1
  have h5 : A.slots + (headSpec ws rm).room.slots ≤ R.slots := by rw [show (headSpec ws rm).room.slots = ms from hrs]; exact hp.2.1
  have hPc : Pc a (A.U.calling g mk a) := hblind _ _ _ _ hp.2.2
  obtain ⟨U, Ls, c0, s0⟩ := A
  dsimp only [Pt.U, Pt.locs, Pt.cells, Pt.slots] at h1 h2 h3 h4 h5 X hn hPc ⊢
  obtain ⟨methY, cY, hmY, hcY, -, hlY, -, -, -, -⟩ := Cond.code_spec hn h2
  obtain ⟨kY, hkY, -⟩ := className_of_methodNamed hn
  have hinitY : kY.init = .initialized := Cond.initialized_spec (findClass_of_methodNamed hn) hkY h3
  have h : At U g.method c below := by rw [hg]; exact X.here
  have hlocals9 : W9 + (maxL + 11) + (headSpec ws rm).room.locals ≤ R.locals := hlocals
  have happ : (headSpec ws rm).appliesLoose y e.platform (U.calling g mk a) = true :=
    Spec.appliesLoose_calling (g := g) h hdg hn hkY hinitY
      (X.room_calling (g := g) (R' := (headSpec ws rm).room) hsize hmY hcY hframes (by rw [hlY]; omega) h4 h5) h1
  obtain ⟨mid, hmid⟩ := h.above
  have hfr : (U.setTop g).frames = (.java g :: mid) ++ below := by rw [State.frames_setTop' g h.top, hmid]; rfl
  obtain ⟨o, s₂, hsteps, -, hend, hq⟩ := Steps.callFree hM p X.admits X.cas X.clock (acts := []) hfr happ hPc trivial
  have hq' : vx_Q Qc XC mc ms free a (U.calling g mk a) o s₂ := hq
  rw [State.frames_setTop' g h.top] at hend
  obtain ⟨g₀, hg0⟩ := Option.isSome_iff_exists.mp h.top
  obtain ⟨r, hr⟩ := State.topJava?_eq_some.mp hg0
  have hr' : (({ U with heap := s₂.heap, slotsUsed := s₂.slotsUsed } : State).setVm s₂.vm).frames = .java g₀ :: r := hr
  rcases hq' with ⟨hqc, L, hfe, hL⟩ | ⟨q, rfl, E, ce, L, hx, hce, hcv, hcl, hW₂, hsm, hL⟩
  · obtain ⟨⟨v, rfl⟩, hW₂, e2, q2, q3, q4, q5, q6⟩ := id hfe
    have e3 : s₂ = ({ (U.calling g mk a).setFrames s₂.frames with heap := s₂.heap, slotsUsed := s₂.slotsUsed } : State).setVm s₂.vm := by
      have : s₂ = ({ s₂ with vm := (U.calling g mk a).vm } : State).setVm s₂.vm := rfl
      rw [e2] at this
      exact this
    obtain ⟨c₂, i₂, len₂, hc₂, hd₂, hf₂⟩ := hend
    have hW' : U.WarmedH s₂.vm := hW₂
    have hcc : c₂ = c := by
      have h1 : s₂.code? g.method = U.code? g.method := by
        rw [State.code?_eq, State.code?_eq, hW'.alike.method?]
      exact Option.some.inj (hc₂.symm.trans (h1.trans h.code))
    subst hcc
    have hlen : len₂ = len := by rw [hdg] at hd₂; cases hd₂; rfl
    subst hlen
    have hs₂ : s₂ = (({ U with heap := s₂.heap, slotsUsed := s₂.slotsUsed } : State).setVm s₂.vm).setTop { g with pc := g.pc + len₂, stack := v.toList ++ g.stack } := by
      refine e3.trans ?_
      rw [hf₂, State.calling_eq h.top, State.setFrames_setFrames, State.setTop_of_frames _ hr', hr]
      rfl
    have hsame : U.sameButNew ({ U with heap := s₂.heap, slotsUsed := s₂.slotsUsed } : State) L mc ms := by
      refine ⟨?_, q2, q3, q4, q5, q6⟩
      obtain ⟨t, ht, -⟩ := State.frames_cons hr
      show ({ U with heap := s₂.heap, slotsUsed := s₂.slotsUsed } : State) = { U.setFrames U.frames with heap := s₂.heap, slotsUsed := s₂.slotsUsed }
      rw [State.setFrames_self ht]
    subst hg
    refine Or.inl ⟨v, ⟨(({ U with heap := s₂.heap, slotsUsed := s₂.slotsUsed } : State).setVm s₂.vm), Ls ++ L, c0 + mc, s0 + ms⟩,
      ⟨X.admits, X.cas, X.clock, X.frames, X.room, X.hears, X.method, X.code, (X.here.setHeapUsed s₂.heap s₂.slotsUsed).setVm hW'.alike, X.tail, State.WarmedH.trans X.warmed hW', X.limits, X.bytes, X.same.trans (hsame.setVm s.vm)⟩,
      ⟨g, mk, s₂, L, rfl, rfl, hqc, rfl, hL, rfl, rfl⟩, ?_⟩
    show Steps p.tables e below _ ((({ U with heap := s₂.heap, slotsUsed := s₂.slotsUsed } : State).setVm s₂.vm).setTop { g with pc := g.pc + len₂, stack := v.toList ++ g.stack })
    rw [← hs₂]
    exact hsteps
  · obtain ⟨e2, q2, q3, q4, q5, q6⟩ := id hsm
    have e3 : s₂ = ({ (U.calling g mk a).setFrames s₂.frames with heap := s₂.heap, slotsUsed := s₂.slotsUsed } : State).setVm s₂.vm := by
      have : s₂ = ({ s₂ with vm := (U.calling g mk a).vm } : State).setVm s₂.vm := rfl
      rw [e2] at this
      exact this
    have hf₂ : s₂.frames = .throwing q :: .java g :: U.frames.tail := hend
    have hW' : U.WarmedH s₂.vm := hW₂
    have hs₂ : s₂ = ((({ U with heap := s₂.heap, slotsUsed := s₂.slotsUsed } : State).setVm s₂.vm).setTop g).pushFrame (.throwing q) := by
      refine e3.trans ?_
      rw [hf₂, State.calling_eq h.top, State.setFrames_setFrames, State.pushFrame, State.frames_setTop _ hr', State.setTop_of_frames _ hr', State.setFrames_setFrames, hr]
      rfl
    have hsame : U.sameButNew ({ U with heap := s₂.heap, slotsUsed := s₂.slotsUsed } : State) L mc ms := by
      refine ⟨?_, q2, q3, q4, q5, q6⟩
      obtain ⟨t, ht, -⟩ := State.frames_cons hr
      show ({ U with heap := s₂.heap, slotsUsed := s₂.slotsUsed } : State) = { U.setFrames U.frames with heap := s₂.heap, slotsUsed := s₂.slotsUsed }
      rw [State.setFrames_self ht]
    subst hg
    refine Or.inr ⟨q, ⟨(({ U with heap := s₂.heap, slotsUsed := s₂.slotsUsed } : State).setVm s₂.vm), Ls ++ L, c0 + mc, s0 + ms⟩,
      ⟨X.admits, X.cas, X.clock, X.frames, X.room, X.hears, X.method, X.code, (X.here.setHeapUsed s₂.heap s₂.slotsUsed).setVm hW'.alike, X.tail, State.WarmedH.trans X.warmed hW', X.limits, X.bytes, X.same.trans (hsame.setVm s.vm)⟩,
      ⟨g, mk, s₂, L, E, ce, rfl, rfl, hx, hce, hcv, hcl, rfl, hL, rfl, rfl⟩, ?_⟩
    show Steps p.tables e below _ (((({ U with heap := s₂.heap, slotsUsed := s₂.slotsUsed } : State).setVm s₂.vm).setTop g).pushFrame (.throwing q))
    rw [← hs₂]
    exact hsteps
end Payer
section Calls
variable {p : Program} {l : Launch} {e : Env} {R : Room} {s : State} {m : MethodId} {args : Array Value} {below : List Frame} {meth : Method} {c : Code} {T : State} {locs : List Loc} {cells slots : Nat}
theorem vx_callV (X : Stand p l e R s m args below meth c T locs cells slots) (hexec : p.tables.exec = Jvm.exec) {own C : String} {index : Nat} {y : MethodName} {bytes : ByteArray} {maxL : Nat} {ret : Option FieldType}
    (hown : s.vm.findClass own = some m.cls) (hlink : (Cond.methodLink own index y).before args s = true) (hinst : (Cond.instanceMethod y).before args s = true) (hsel : (Cond.selects C y y).before args s = true)
    (hcode : (Cond.code y bytes maxL ret).before args s = true) (hy : y.cls ≠ "java/lang/invoke/MethodHandle" ∧ y.cls ≠ "java/lang/invoke/VarHandle")
    {W9 : Nat} {Pre : Pt → Array Value → Prop} {Post : Pt → Array Value → Option Value → Pt → Prop} {PostX : Pt → Array Value → Addr → Pt → Prop} (hK : vx_Back l R p e below s args y 3 W9 Pre Post PostX)
    {b : Addr} {cellB : Cell} (hcell : T.heap[b]? = some cellB) (hobj : cellB.vm.isStatics = false) (hcls : s.vm.findClass C = some cellB.cls)
    {g : JFrame} (hg : g.method = m) (hsize : g.locals.size = c.maxLocals) {argsL rest : List Value} (hlen : ∀ sig, parseMethodDescriptor y.desc = some sig → argsL.length = sig.parameters.length)
    (hstack : g.stack = argsL.reverse ++ .ref b :: rest) (hW : 2 * g.monitorRoom + (rest.map fun v => v.category).sum ≤ W9) (hdg : decode c.code g.pc = .ok (.invokevirtual index, 3))
    (hpre : ∀ vm₁, s.WarmedH vm₁ → Pre ⟨T.setVm vm₁, locs, cells, slots⟩ (Value.ref b :: argsL).toArray) :
    (∃ (v : Option Value) (vm₁ : Vm) (B : Pt), s.WarmedH vm₁ ∧ Stand p l e R s m args below meth c B.U B.locs B.cells B.slots ∧ Post ⟨T.setVm vm₁, locs, cells, slots⟩ (Value.ref b :: argsL).toArray v B ∧
      ∀ target, Steps p.tables e below (B.U.setTop { g with pc := g.pc + 3, stack := v.toList ++ rest }) target → Steps p.tables e below (T.setTop g) target) ∨
    (∃ (q : Addr) (vm₁ : Vm) (B : Pt), s.WarmedH vm₁ ∧ Stand p l e R s m args below meth c B.U B.locs B.cells B.slots ∧ PostX ⟨T.setVm vm₁, locs, cells, slots⟩ (Value.ref b :: argsL).toArray q B ∧
      Steps p.tables e below (T.setTop g) ((B.U.setTop { g with stack := rest }).pushFrame (.throwing q))) := by
  obtain ⟨mk, methM, hnamed, hmethM, hstM, habM⟩ := Cond.instanceMethod_spec hinst
  obtain ⟨methM', cM, hmethM', -, -, -, -, -, -, hsigM⟩ := Cond.code_spec hnamed hcode
  cases hmethM.symm.trans hmethM'
  obtain ⟨c2, r2, m2, q1, q2, q3, q4, kP, hkP, hkPi⟩ := Cond.selects_spec hsel
  cases hcls.symm.trans q1
  cases (State.methodFound?_of_named hnamed hy).symm.trans q2
  cases hnamed.symm.trans q3
  have hselP : selectMethod e.platform s.vm cellB.cls mk = .method mk := by rw [Launch.admits_selectMethod X.admits]; exact q4
  obtain ⟨vm₁, X₁, hstep₁⟩ := X.invokevirtual hexec hown hlink hnamed hmethM hstM hkP hkPi hy (a := b) (cell := cellB) hcell
    (fun z h => by rw [h] at hobj; cases hobj) hselP hmethM habM hkP hkPi (g := g) hg (argsL := argsL) (rest := rest) (hlen _ hsigM) hstack hdg
  rcases hK m meth c ⟨T.setVm vm₁, locs, cells, slots⟩ { g with stack := rest } (.invokevirtual index) mk (Value.ref b :: argsL).toArray X₁ hg hsize hdg hW (X₁.named hnamed) (hpre vm₁ X₁.warmed) with ⟨v, B, X', hpost, hsteps⟩ | ⟨q, B, X', hpost, hsteps⟩
  · exact Or.inl ⟨v, vm₁, B, X₁.warmed, X', hpost, fun target h => hstep₁ _ fun acts => by rw [doInvoke_state]; exact hsteps.trans h⟩
  · exact Or.inr ⟨q, vm₁, B, X₁.warmed, X', hpost, hstep₁ _ fun acts => by rw [doInvoke_state]; exact hsteps⟩
theorem vx_callS (X : Stand p l e R s m args below meth c T locs cells slots) (hexec : p.tables.exec = Jvm.exec) {own : String} {index : Nat} {y : MethodName} {bytes : ByteArray} {maxL : Nat} {ret : Option FieldType}
    (hown : s.vm.findClass own = some m.cls) (hlink : (Cond.methodLink own index y).before args s = true) (hstat : (Cond.static y).before args s = true) (hinit : (Cond.initialized y.cls).before args s = true)
    (hcode : (Cond.code y bytes maxL ret).before args s = true) (hy : y.cls ≠ "java/lang/invoke/MethodHandle" ∧ y.cls ≠ "java/lang/invoke/VarHandle")
    {W9 : Nat} {Pre : Pt → Array Value → Prop} {Post : Pt → Array Value → Option Value → Pt → Prop} {PostX : Pt → Array Value → Addr → Pt → Prop} (hK : vx_Back l R p e below s args y 3 W9 Pre Post PostX)
    {g : JFrame} (hg : g.method = m) (hsize : g.locals.size = c.maxLocals) {argsL rest : List Value} (hlen : ∀ sig, parseMethodDescriptor y.desc = some sig → argsL.length = sig.parameters.length)
    (hstack : g.stack = argsL.reverse ++ rest) (hW : 2 * g.monitorRoom + (rest.map fun v => v.category).sum ≤ W9) (hdg : decode c.code g.pc = .ok (.invokestatic index, 3))
    (hpre : ∀ vm₁, s.WarmedH vm₁ → Pre ⟨T.setVm vm₁, locs, cells, slots⟩ argsL.toArray) :
    (∃ (v : Option Value) (vm₁ : Vm) (B : Pt), s.WarmedH vm₁ ∧ Stand p l e R s m args below meth c B.U B.locs B.cells B.slots ∧ Post ⟨T.setVm vm₁, locs, cells, slots⟩ argsL.toArray v B ∧
      ∀ target, Steps p.tables e below (B.U.setTop { g with pc := g.pc + 3, stack := v.toList ++ rest }) target → Steps p.tables e below (T.setTop g) target) ∨
    (∃ (q : Addr) (vm₁ : Vm) (B : Pt), s.WarmedH vm₁ ∧ Stand p l e R s m args below meth c B.U B.locs B.cells B.slots ∧ PostX ⟨T.setVm vm₁, locs, cells, slots⟩ argsL.toArray q B ∧
      Steps p.tables e below (T.setTop g) ((B.U.setTop { g with stack := rest }).pushFrame (.throwing q))) := by
  obtain ⟨mk, hnamed⟩ := Cond.code_named hcode
  obtain ⟨methM, cM, hmethM, -, -, -, -, -, -, hsigM⟩ := Cond.code_spec hnamed hcode
  have hstatic : methM.isStatic = true := Cond.static_spec hnamed hmethM hstat
  obtain ⟨kP, hkP, -⟩ := className_of_methodNamed hnamed
  have hinitP : kP.init = .initialized := Cond.initialized_spec (findClass_of_methodNamed hnamed) hkP hinit
  obtain ⟨vm₁, X₁, hstep₁⟩ := X.invokestatic hexec hown hlink hnamed hmethM hstatic hkP hinitP hy (g := g) hg (argsL := argsL) (rest := rest) (hlen _ hsigM) hstack hdg
  rcases hK m meth c ⟨T.setVm vm₁, locs, cells, slots⟩ { g with stack := rest } (.invokestatic index) mk argsL.toArray X₁ hg hsize hdg hW (X₁.named hnamed) (hpre vm₁ X₁.warmed) with ⟨v, B, X', hpost, hsteps⟩ | ⟨q, B, X', hpost, hsteps⟩
  · exact Or.inl ⟨v, vm₁, B, X₁.warmed, X', hpost, fun target h => hstep₁ _ fun acts => by rw [doInvoke_state]; exact hsteps.trans h⟩
  · exact Or.inr ⟨q, vm₁, B, X₁.warmed, X', hpost, hstep₁ _ fun acts => by rw [doInvoke_state]; exact hsteps⟩
end Calls
theorem vx_cls {s : State} {T : State} {vm₁ : Vm} {E : String} {k : ClassId} (hW : s.WarmedH vm₁) (h : (T.setVm vm₁).vm.findClass E = some k) : s.vm.findClass E = some k := by
  have h1 : vm₁.findClass E = some k := h
  rw [hW.alike.findClass] at h1
  exact h1
/-- the method's frame g, with q thrown over it -/
def vx_W (p : Program) (l : Launch) (e : Env) (R : Room) (s : State) (m : MethodId) (args : Array Value) (below : List Frame) (meth : Method) (c : Code) (H : Heap) (locs : List Loc) (cells slots : Nat) (Q : State → Prop) (g : JFrame) (q : Addr) : Prop :=
  ∀ T : State, T.heap = H → Stand p l e R s m args below meth c T locs cells slots → ∃ t, Steps p.tables e below ((T.setTop g).pushFrame (.throwing q)) t ∧ Q t
def vx_Run (p : Program) (l : Launch) (e : Env) (R : Room) (s : State) (m : MethodId) (args : Array Value) (below : List Frame) (meth : Method) (c : Code) (H : Heap) (locs : List Loc) (cells slots mc ms : Nat) (g : JFrame) (rest : List Value) (Qa : State → Outcome → State → Prop) (XC : String → State → State → Prop) (free : Addr → Prop) : Prop :=
  ∀ T : State, T.heap = H → Stand p l e R s m args below meth c T locs cells slots →
    (∃ (v : Option Value) (st₀ t T' : State) (L : List Loc), st₀.heap = H ∧ Stand p l e R s m args below meth c T' (locs ++ L) (cells + mc) (slots + ms) ∧ (∀ q ∈ L, free q.base) ∧ T'.heap = t.heap ∧ T'.vm = t.vm ∧ Qa st₀ (.returned v) t ∧
      Goes p e below T g T' { g with pc := g.pc + 3, stack := v.toList ++ rest }) ∨
    (∃ (q : Addr) (st₀ t T' : State) (L : List Loc) (E : String) (ce : Cell), st₀.heap = H ∧ Stand p l e R s m args below meth c T' (locs ++ L) (cells + mc) (slots + ms) ∧ (∀ z ∈ L, free z.base) ∧ T'.heap = t.heap ∧ T'.vm = t.vm ∧ XC E st₀ t ∧ t.heap[q]? = some ce ∧ ce.vm = .none ∧ s.vm.findClass E = some ce.cls ∧
      Steps p.tables e below (T.setTop g) ((T'.setTop { g with stack := rest }).pushFrame (.throwing q)))
def vx_X {S : Type} (px : S → Prop) (B : String → S → State → Prop) (A : Nat → Prop) : String → State → State → Prop := fun E st t => ∃ u : S, px u ∧ B E u t ∧ va_F A st t
section Runs
variable {p : Program} {l : Launch} {e : Env} {R : Room} {s : State} {m : MethodId} {args : Array Value} {below : List Frame} {meth : Method} {c : Code} {H : Heap} {locs : List Loc} {cells slots : Nat}
variable {y : MethodName} {bytes cc : ByteArray} {maxL nL mc ms n index : Nat} {ret : Option FieldType} {ws : List Cond} {rm : Room} {Pc : Array Value → State → Prop} {Qc : Array Value → State → Outcome → State → Prop} {XC : String → State → State → Prop} {free : Addr → Prop} {Ts : List Cond} {own C : String} {b : Addr} {As rest : List Value} {g : JFrame}
theorem vx_callBack (cb : CallB R s args own index y bytes maxL ret ws rm mc ms n) (hM : vx_Met l y ws rm Pc Qc XC mc ms free) (hbl : FrameBlind Pc) : vx_Back l R p e below s args y 3 8 (PreOf R mc ms Pc) (PostOf Qc mc ms free) (vx_Post XC mc ms free) := by
  obtain ⟨hrc, hrs, hfr, hlo, hws, hcw, -, hini, -⟩ := cb
  exact vx_back (bytes := bytes) (maxL := maxL) (ret := ret) hM hbl hrc hrs hfr hlo hws hcw (fun a' U hW => word_at hW (Or.inl (by first | rfl | simp [Cond.onTables, Cond.keeps, Cond.steady])) hini)
theorem vx_runV (S : CallFix p m c cc nL s args Ts own) (hM : vx_Met l y ws rm Pc Qc XC mc ms free) (cw : CallW R s args own C index y bytes maxL ret ws rm mc ms n) (hp : PreV s H C b Pc As)
    (hg : g.method = m) (hn : As.length = n) (hsize : g.locals.size = nL) (hstack : g.stack = As.reverse ++ .ref b :: rest) (hW : 2 * g.monitorRoom + (rest.map fun v => v.category).sum ≤ 8) (hdg : decode cc g.pc = .ok (.invokevirtual index, 3)) (hf : cells + mc ≤ R.cells ∧ slots + ms ≤ R.slots) :
    vx_Run p l e R s m args below meth c H locs cells slots mc ms g rest (Qc (Value.ref b :: As).toArray) XC free := by
  have hK : vx_Back l R p e below s args y 3 8 (PreOf R mc ms Pc) (PostOf Qc mc ms free) (vx_Post XC mc ms free) := vx_callBack cw.1 hM hp.1
  obtain ⟨⟨-, -, -, -, -, -, hcode, -, hy, hlen, hl⟩, hin, hse⟩ := cw
  obtain ⟨hx, hb, hml, ho, -⟩ := S
  obtain ⟨-, ⟨cellB, hcB, hoB, hclB⟩, hPc⟩ := hp
  intro T hT X
  rcases vx_callV X hx (C := C) (bytes := bytes) (maxL := maxL) (ret := ret) ho hl hin hse hcode hy hK (by rw [hT]; exact hcB) hoB hclB hg (hsize.trans hml.symm) (argsL := As) (rest := rest) (fun sig h => hn.trans (hlen sig h)) hstack hW (by rw [hb]; exact hdg)
    (fun vm₁ hW₁ => ⟨hf.1, hf.2, hPc (T.setVm vm₁) hT hW₁⟩) with ⟨v, vm₁, ⟨U', l2, c2, s2⟩, hW₁, X', ⟨g', mk, t, L, e1, e2, hq, h1, hL, h2, h3⟩, st⟩ | ⟨q, vm₁, ⟨U', l2, c2, s2⟩, hW₁, X', ⟨g', mk, t, L, E, ce, e1, e2, hq, hce, hcv, hcl, h1, hL, h2, h3⟩, st⟩
  · dsimp only [Pt.U, Pt.locs, Pt.cells, Pt.slots] at X' e1 e2 h1 h2 h3 st
    subst h1; subst h2; subst h3
    exact Or.inl ⟨v, (T.setVm vm₁).calling g' mk (Value.ref b :: As).toArray, t, U', L, hT, X', hL, e1, e2, hq, st⟩
  · dsimp only [Pt.U, Pt.locs, Pt.cells, Pt.slots] at X' e1 e2 h1 h2 h3 st hcl
    subst h1; subst h2; subst h3
    exact Or.inr ⟨q, (T.setVm vm₁).calling g' mk (Value.ref b :: As).toArray, t, U', L, E, ce, hT, X', hL, e1, e2, hq, hce, hcv, vx_cls hW₁ hcl, st⟩
theorem vx_runS (S : CallFix p m c cc nL s args Ts own) (hM : vx_Met l y ws rm Pc Qc XC mc ms free) (cw : CallB R s args own index y bytes maxL ret ws rm mc ms n ∧ (Cond.static y).before args s = true) (hp : PreS s H Pc As)
    (hg : g.method = m) (hn : As.length = n) (hsize : g.locals.size = nL) (hstack : g.stack = As.reverse ++ rest) (hW : 2 * g.monitorRoom + (rest.map fun v => v.category).sum ≤ 8) (hdg : decode cc g.pc = .ok (.invokestatic index, 3)) (hf : cells + mc ≤ R.cells ∧ slots + ms ≤ R.slots) :
    vx_Run p l e R s m args below meth c H locs cells slots mc ms g rest (Qc As.toArray) XC free := by
  have hK : vx_Back l R p e below s args y 3 8 (PreOf R mc ms Pc) (PostOf Qc mc ms free) (vx_Post XC mc ms free) := vx_callBack cw.1 hM hp.1
  obtain ⟨⟨-, -, -, -, -, -, hcode, hini, hy, hlen, hl⟩, hstt⟩ := cw
  obtain ⟨hx, hb, hml, ho, -⟩ := S
  intro T hT X
  rcases vx_callS X hx (bytes := bytes) (maxL := maxL) (ret := ret) ho hl hstt hini hcode hy hK hg (hsize.trans hml.symm) (argsL := As) (rest := rest) (fun sig h => hn.trans (hlen sig h)) hstack hW (by rw [hb]; exact hdg)
    (fun vm₁ hW₁ => ⟨hf.1, hf.2, hp.2 (T.setVm vm₁) hT hW₁⟩) with ⟨v, vm₁, ⟨U', l2, c2, s2⟩, hW₁, X', ⟨g', mk, t, L, e1, e2, hq, h1, hL, h2, h3⟩, st⟩ | ⟨q, vm₁, ⟨U', l2, c2, s2⟩, hW₁, X', ⟨g', mk, t, L, E, ce, e1, e2, hq, hce, hcv, hcl, h1, hL, h2, h3⟩, st⟩
  · dsimp only [Pt.U, Pt.locs, Pt.cells, Pt.slots] at X' e1 e2 h1 h2 h3 st
    subst h1; subst h2; subst h3
    exact Or.inl ⟨v, (T.setVm vm₁).calling g' mk As.toArray, t, U', L, hT, X', hL, e1, e2, hq, st⟩
  · dsimp only [Pt.U, Pt.locs, Pt.cells, Pt.slots] at X' e1 e2 h1 h2 h3 st hcl
    subst h1; subst h2; subst h3
    exact Or.inr ⟨q, (T.setVm vm₁).calling g' mk As.toArray, t, U', L, E, ce, hT, X', hL, e1, e2, hq, hce, hcv, vx_cls hW₁ hcl, st⟩
end Runs
section Rows
variable {p : Program} {l : Launch} {e : Env} {R : Room} {s : State} {m : MethodId} {args : Array Value} {below : List Frame} {meth : Method} {c : Code} {H : Heap} {locs : List Loc} {cells slots : Nat} {Q : State → Prop}
variable {mc ms : Nat} {free : Addr → Prop} {A0 A1 : Nat → Prop} {H0 : Heap} {a : Array Value} {pc : Nat} {ls : Array Slot} {st0 rest : List Value}
theorem vx_keep {st₀ t T' : State} {L : List Loc} (h0 : st₀.heap = H) (e1 : T'.heap = t.heap) (hS : va_S A0 H0 H locs) (hA : ∀ q, q < H.size → A1 q → A0 q) (hf : ∀ q, free q → A0 q) (hL : ∀ q ∈ L, free q.base) (hF : va_F A1 st₀ t) :
    H.size ≤ T'.heap.size ∧ (∀ q : Nat, q < H.size → ¬ A1 q → T'.heap[q]? = H[q]?) ∧ va_S A0 H0 T'.heap (locs ++ L) := by
  obtain ⟨hz, hk⟩ := hF
  rw [h0] at hz hk
  exact ⟨by rw [e1]; exact hz, fun q h1 h2 => by rw [e1]; exact hk q h1 h2,
    ⟨Nat.le_trans hS.1 (by rw [e1]; exact hz), fun q h1 h2 => by rw [e1, hk q (Nat.lt_of_lt_of_le h1 hS.1) (fun z => h2 (hA q (Nat.lt_of_lt_of_le h1 hS.1) z))]; exact hS.2.1 q h1 h2, fun q hq => by
      rcases List.mem_append.mp hq with h | h
      · exact hS.2.2 q h
      · exact hf _ (hL q h)⟩⟩
theorem vx_calli {S SX : Type} {post : Int32 → S → Prop} {px : SX → Prop} {B : S → State → Prop} {BX : String → SX → State → Prop} {AX : Nat → Prop} (hr : vx_Run p l e R s m args below meth c H locs cells slots mc ms (F0 m pc ls st0) rest (va_Qi post B A1 a) (vx_X px BX AX) free) (hS : va_S A0 H0 H locs) (hA : ∀ q, q < H.size → A1 q → A0 q) (hf : ∀ q, free q → A0 q) (hAX : ∀ q, q < H.size → AX q → A0 q)
    (kx : ∀ (E : String) (ce : Cell) (q9 : Addr) (u : SX) (t : State) (H1 : Heap) (locs1 : List Loc), t.heap = H1 → s.vm.Alike t.vm → px u → BX E u t → H.size ≤ H1.size → (∀ q : Nat, q < H.size → ¬ AX q → H1[q]? = H[q]?) → va_S A0 H0 H1 locs1 → H1[q9]? = some ce → ce.vm = .none → s.vm.findClass E = some ce.cls → vx_W p l e R s m args below meth c H1 locs1 (cells + mc) (slots + ms) Q (F0 m pc ls rest) q9)
    (kk : ∀ (r : Int32) (u : S) (t : State) (H1 : Heap) (locs1 : List Loc), t.heap = H1 → s.vm.Alike t.vm → post r u → B u t → H.size ≤ H1.size → (∀ q : Nat, q < H.size → ¬ A1 q → H1[q]? = H[q]?) → va_S A0 H0 H1 locs1 → W p l e R s m args below meth c H1 locs1 (cells + mc) (slots + ms) Q (F0 m (pc + 3) ls (.int r :: rest))) : W p l e R s m args below meth c H locs cells slots Q (F0 m pc ls st0) := by
  intro T hT X
  rcases hr T hT X with ⟨v, st₀, t, T', L, h0, X', hL, e1, e2, ⟨⟨r, u, hv, hp, hb⟩, hF⟩, st⟩ | ⟨q, st₀, t, T', L, E, ce, h0, X', hL, e1, e2, ⟨u, hp, hb, hF⟩, hce, hcv, hcl, st⟩
  · cases hv
    obtain ⟨k1, k2, k3⟩ := vx_keep h0 e1 hS hA hf hL hF
    obtain ⟨t2, a1, b1⟩ := kk r u t T'.heap (locs ++ L) e1.symm (by rw [← e2]; exact X'.warmed.alike) hp hb k1 k2 k3 T' rfl X'
    exact ⟨t2, st t2 a1, b1⟩
  · obtain ⟨k1, k2, k3⟩ := vx_keep h0 e1 hS hAX hf hL hF
    obtain ⟨t2, a1, b1⟩ := kx E ce q u t T'.heap (locs ++ L) e1.symm (by rw [← e2]; exact X'.warmed.alike) hp hb k1 k2 k3 (by rw [e1]; exact hce) hcv hcl T' rfl X'
    exact ⟨t2, st.trans a1, b1⟩
theorem vx_calll {S SX : Type} {post : Int64 → S → Prop} {px : SX → Prop} {B : S → State → Prop} {BX : String → SX → State → Prop} {AX : Nat → Prop} (hr : vx_Run p l e R s m args below meth c H locs cells slots mc ms (F0 m pc ls st0) rest (va_Ql post B A1 a) (vx_X px BX AX) free) (hS : va_S A0 H0 H locs) (hA : ∀ q, q < H.size → A1 q → A0 q) (hf : ∀ q, free q → A0 q) (hAX : ∀ q, q < H.size → AX q → A0 q)
    (kx : ∀ (E : String) (ce : Cell) (q9 : Addr) (u : SX) (t : State) (H1 : Heap) (locs1 : List Loc), t.heap = H1 → s.vm.Alike t.vm → px u → BX E u t → H.size ≤ H1.size → (∀ q : Nat, q < H.size → ¬ AX q → H1[q]? = H[q]?) → va_S A0 H0 H1 locs1 → H1[q9]? = some ce → ce.vm = .none → s.vm.findClass E = some ce.cls → vx_W p l e R s m args below meth c H1 locs1 (cells + mc) (slots + ms) Q (F0 m pc ls rest) q9)
    (kk : ∀ (r : Int64) (u : S) (t : State) (H1 : Heap) (locs1 : List Loc), t.heap = H1 → s.vm.Alike t.vm → post r u → B u t → H.size ≤ H1.size → (∀ q : Nat, q < H.size → ¬ A1 q → H1[q]? = H[q]?) → va_S A0 H0 H1 locs1 → W p l e R s m args below meth c H1 locs1 (cells + mc) (slots + ms) Q (F0 m (pc + 3) ls (.long r :: rest))) : W p l e R s m args below meth c H locs cells slots Q (F0 m pc ls st0) := by
  intro T hT X
  rcases hr T hT X with ⟨v, st₀, t, T', L, h0, X', hL, e1, e2, ⟨⟨r, u, hv, hp, hb⟩, hF⟩, st⟩ | ⟨q, st₀, t, T', L, E, ce, h0, X', hL, e1, e2, ⟨u, hp, hb, hF⟩, hce, hcv, hcl, st⟩
  · cases hv
    obtain ⟨k1, k2, k3⟩ := vx_keep h0 e1 hS hA hf hL hF
    obtain ⟨t2, a1, b1⟩ := kk r u t T'.heap (locs ++ L) e1.symm (by rw [← e2]; exact X'.warmed.alike) hp hb k1 k2 k3 T' rfl X'
    exact ⟨t2, st t2 a1, b1⟩
  · obtain ⟨k1, k2, k3⟩ := vx_keep h0 e1 hS hAX hf hL hF
    obtain ⟨t2, a1, b1⟩ := kx E ce q u t T'.heap (locs ++ L) e1.symm (by rw [← e2]; exact X'.warmed.alike) hp hb k1 k2 k3 (by rw [e1]; exact hce) hcv hcl T' rfl X'
    exact ⟨t2, st.trans a1, b1⟩
theorem vx_callf {S SX : Type} {post : UInt32 → S → Prop} {px : SX → Prop} {B : S → State → Prop} {BX : String → SX → State → Prop} {AX : Nat → Prop} (hr : vx_Run p l e R s m args below meth c H locs cells slots mc ms (F0 m pc ls st0) rest (va_Qf post B A1 a) (vx_X px BX AX) free) (hS : va_S A0 H0 H locs) (hA : ∀ q, q < H.size → A1 q → A0 q) (hf : ∀ q, free q → A0 q) (hAX : ∀ q, q < H.size → AX q → A0 q)
    (kx : ∀ (E : String) (ce : Cell) (q9 : Addr) (u : SX) (t : State) (H1 : Heap) (locs1 : List Loc), t.heap = H1 → s.vm.Alike t.vm → px u → BX E u t → H.size ≤ H1.size → (∀ q : Nat, q < H.size → ¬ AX q → H1[q]? = H[q]?) → va_S A0 H0 H1 locs1 → H1[q9]? = some ce → ce.vm = .none → s.vm.findClass E = some ce.cls → vx_W p l e R s m args below meth c H1 locs1 (cells + mc) (slots + ms) Q (F0 m pc ls rest) q9)
    (kk : ∀ (r : UInt32) (u : S) (t : State) (H1 : Heap) (locs1 : List Loc), t.heap = H1 → s.vm.Alike t.vm → post r u → B u t → H.size ≤ H1.size → (∀ q : Nat, q < H.size → ¬ A1 q → H1[q]? = H[q]?) → va_S A0 H0 H1 locs1 → W p l e R s m args below meth c H1 locs1 (cells + mc) (slots + ms) Q (F0 m (pc + 3) ls (.float r :: rest))) : W p l e R s m args below meth c H locs cells slots Q (F0 m pc ls st0) := by
  intro T hT X
  rcases hr T hT X with ⟨v, st₀, t, T', L, h0, X', hL, e1, e2, ⟨⟨r, u, hv, hp, hb⟩, hF⟩, st⟩ | ⟨q, st₀, t, T', L, E, ce, h0, X', hL, e1, e2, ⟨u, hp, hb, hF⟩, hce, hcv, hcl, st⟩
  · cases hv
    obtain ⟨k1, k2, k3⟩ := vx_keep h0 e1 hS hA hf hL hF
    obtain ⟨t2, a1, b1⟩ := kk r u t T'.heap (locs ++ L) e1.symm (by rw [← e2]; exact X'.warmed.alike) hp hb k1 k2 k3 T' rfl X'
    exact ⟨t2, st t2 a1, b1⟩
  · obtain ⟨k1, k2, k3⟩ := vx_keep h0 e1 hS hAX hf hL hF
    obtain ⟨t2, a1, b1⟩ := kx E ce q u t T'.heap (locs ++ L) e1.symm (by rw [← e2]; exact X'.warmed.alike) hp hb k1 k2 k3 (by rw [e1]; exact hce) hcv hcl T' rfl X'
    exact ⟨t2, st.trans a1, b1⟩
theorem vx_calld {S SX : Type} {post : UInt64 → S → Prop} {px : SX → Prop} {B : S → State → Prop} {BX : String → SX → State → Prop} {AX : Nat → Prop} (hr : vx_Run p l e R s m args below meth c H locs cells slots mc ms (F0 m pc ls st0) rest (va_Qd post B A1 a) (vx_X px BX AX) free) (hS : va_S A0 H0 H locs) (hA : ∀ q, q < H.size → A1 q → A0 q) (hf : ∀ q, free q → A0 q) (hAX : ∀ q, q < H.size → AX q → A0 q)
    (kx : ∀ (E : String) (ce : Cell) (q9 : Addr) (u : SX) (t : State) (H1 : Heap) (locs1 : List Loc), t.heap = H1 → s.vm.Alike t.vm → px u → BX E u t → H.size ≤ H1.size → (∀ q : Nat, q < H.size → ¬ AX q → H1[q]? = H[q]?) → va_S A0 H0 H1 locs1 → H1[q9]? = some ce → ce.vm = .none → s.vm.findClass E = some ce.cls → vx_W p l e R s m args below meth c H1 locs1 (cells + mc) (slots + ms) Q (F0 m pc ls rest) q9)
    (kk : ∀ (r : UInt64) (u : S) (t : State) (H1 : Heap) (locs1 : List Loc), t.heap = H1 → s.vm.Alike t.vm → post r u → B u t → H.size ≤ H1.size → (∀ q : Nat, q < H.size → ¬ A1 q → H1[q]? = H[q]?) → va_S A0 H0 H1 locs1 → W p l e R s m args below meth c H1 locs1 (cells + mc) (slots + ms) Q (F0 m (pc + 3) ls (.double r :: rest))) : W p l e R s m args below meth c H locs cells slots Q (F0 m pc ls st0) := by
  intro T hT X
  rcases hr T hT X with ⟨v, st₀, t, T', L, h0, X', hL, e1, e2, ⟨⟨r, u, hv, hp, hb⟩, hF⟩, st⟩ | ⟨q, st₀, t, T', L, E, ce, h0, X', hL, e1, e2, ⟨u, hp, hb, hF⟩, hce, hcv, hcl, st⟩
  · cases hv
    obtain ⟨k1, k2, k3⟩ := vx_keep h0 e1 hS hA hf hL hF
    obtain ⟨t2, a1, b1⟩ := kk r u t T'.heap (locs ++ L) e1.symm (by rw [← e2]; exact X'.warmed.alike) hp hb k1 k2 k3 T' rfl X'
    exact ⟨t2, st t2 a1, b1⟩
  · obtain ⟨k1, k2, k3⟩ := vx_keep h0 e1 hS hAX hf hL hF
    obtain ⟨t2, a1, b1⟩ := kx E ce q u t T'.heap (locs ++ L) e1.symm (by rw [← e2]; exact X'.warmed.alike) hp hb k1 k2 k3 (by rw [e1]; exact hce) hcv hcl T' rfl X'
    exact ⟨t2, st.trans a1, b1⟩
theorem vx_callv {S SX : Type} {post : S → Prop} {px : SX → Prop} {B : S → State → Prop} {BX : String → SX → State → Prop} {AX : Nat → Prop} (hr : vx_Run p l e R s m args below meth c H locs cells slots mc ms (F0 m pc ls st0) rest (va_Qv post B A1 a) (vx_X px BX AX) free) (hS : va_S A0 H0 H locs) (hA : ∀ q, q < H.size → A1 q → A0 q) (hf : ∀ q, free q → A0 q) (hAX : ∀ q, q < H.size → AX q → A0 q)
    (kx : ∀ (E : String) (ce : Cell) (q9 : Addr) (u : SX) (t : State) (H1 : Heap) (locs1 : List Loc), t.heap = H1 → s.vm.Alike t.vm → px u → BX E u t → H.size ≤ H1.size → (∀ q : Nat, q < H.size → ¬ AX q → H1[q]? = H[q]?) → va_S A0 H0 H1 locs1 → H1[q9]? = some ce → ce.vm = .none → s.vm.findClass E = some ce.cls → vx_W p l e R s m args below meth c H1 locs1 (cells + mc) (slots + ms) Q (F0 m pc ls rest) q9)
    (kk : ∀ (u : S) (t : State) (H1 : Heap) (locs1 : List Loc), t.heap = H1 → s.vm.Alike t.vm → post u → B u t → H.size ≤ H1.size → (∀ q : Nat, q < H.size → ¬ A1 q → H1[q]? = H[q]?) → va_S A0 H0 H1 locs1 → W p l e R s m args below meth c H1 locs1 (cells + mc) (slots + ms) Q (F0 m (pc + 3) ls (rest))) : W p l e R s m args below meth c H locs cells slots Q (F0 m pc ls st0) := by
  intro T hT X
  rcases hr T hT X with ⟨v, st₀, t, T', L, h0, X', hL, e1, e2, ⟨⟨u, hv, hp, hb⟩, hF⟩, st⟩ | ⟨q, st₀, t, T', L, E, ce, h0, X', hL, e1, e2, ⟨u, hp, hb, hF⟩, hce, hcv, hcl, st⟩
  · cases hv
    obtain ⟨k1, k2, k3⟩ := vx_keep h0 e1 hS hA hf hL hF
    obtain ⟨t2, a1, b1⟩ := kk u t T'.heap (locs ++ L) e1.symm (by rw [← e2]; exact X'.warmed.alike) hp hb k1 k2 k3 T' rfl X'
    exact ⟨t2, st t2 a1, b1⟩
  · obtain ⟨k1, k2, k3⟩ := vx_keep h0 e1 hS hAX hf hL hF
    obtain ⟨t2, a1, b1⟩ := kx E ce q u t T'.heap (locs ++ L) e1.symm (by rw [← e2]; exact X'.warmed.alike) hp hb k1 k2 k3 (by rw [e1]; exact hce) hcv hcl T' rfl X'
    exact ⟨t2, st.trans a1, b1⟩
/-- caught by the row x of this method's table; the rows ahead don't take it -/
theorem vx_catch {own name : String} {E : String} {ce : Cell} {q : Addr} (hown : s.vm.findClass own = some m.cls) (pre : List ExceptionTableEntry) (x : ExceptionTableEntry) (suf : List ExceptionTableEntry) (hsplit : c.exceptionTable.toList = pre ++ x :: suf)
    (hpass : ∀ z ∈ pre, covers z pc = false ∨ (z.catchType ≠ 0 ∧ ∃ nm : String, (Cond.classLink own z.catchType nm).before args s = true ∧ va_Nc E nm s)) (hx : covers x pc = true) (h0 : x.catchType ≠ 0)
    (hlink : (Cond.classLink own x.catchType name).before args s = true) (hcast : (Cond.castable E name).before args s = true) (hcell : H[q]? = some ce) (hv : ce.vm = .none) (hcl : s.vm.findClass E = some ce.cls)
    (kk : W p l e R s m args below meth c H locs cells slots Q (F0 m x.handlerPc ls [.ref q])) : vx_W p l e R s m args below meth c H locs cells slots Q (F0 m pc ls rest) q := by
  intro T hT X
  have hpl : e.platform.magicAccessors = ({} : Platform).magicAccessors := by rw [X.admits.platform]
  obtain ⟨c3, c4, hc3, hc4, hasg⟩ := Cond.castable_spec hcast
  cases Option.some.inj (hc3.symm.trans hcl)
  obtain ⟨c5, hc5, hcl5⟩ := Cond.classLink_spec hown hlink e.platform hpl
  cases Option.some.inj (hc4.symm.trans hc5)
  obtain ⟨vm', X', st⟩ := vh_caught X q (g := F0 m pc ls rest) rfl (by rw [hT]; exact hcell) (by rw [hv]; rfl) (by obtain ⟨k9, h9, -⟩ := Vm.findClass_spec hcl; exact ⟨k9, h9⟩) pre x suf hsplit
    (fun z hz => by
      rcases hpass z hz with h | ⟨hz0, nm, hl1, hn1⟩
      · exact Or.inl h
      · obtain ⟨c6, hc6, hcl6⟩ := Cond.classLink_spec hown hl1 e.platform hpl
        obtain ⟨a8, b8, h1, h2, h3⟩ := hn1
        cases Option.some.inj (h1.symm.trans hcl)
        cases Option.some.inj (h2.symm.trans hc6)
        exact Or.inr ⟨hz0, _, hcl6, h3⟩) hx (Or.inr ⟨h0, c4, hcl5, hasg⟩) h0
  obtain ⟨t, a1, b1⟩ := kk (T.setVm vm') hT X'
  exact ⟨t, st.trans a1, b1⟩
end Rows
section Ends
variable {p : Program} {l : Launch} {e : Env} {R : Room} {s : State} {m : MethodId} {args : Array Value} {below : List Frame} {meth : Method} {c : Code} {H : Heap} {locs : List Loc} {cells slots : Nat} {Q : State → Prop}
variable {mc ms : Nat} {free : Addr → Prop} {A0 A1 : Nat → Prop} {H0 : Heap} {a : Array Value} {ls : Array Slot} {st0 rest : List Value}
variable {Qc : Array Value → State → Outcome → State → Prop} {XC : String → State → State → Prop}
/-- what a body that may throw owes at its end -/
def vx_MQ (below : List Frame) (Qc : Array Value → State → Outcome → State → Prop) (XC : String → State → State → Prop) (a : Array Value) (s : State) (mc ms : Nat) (free : Addr → Prop) : State → Prop := fun t =>
  ∃ o, t.status = .running ∧ Ended t below o ∧ vx_Q Qc XC mc ms free a s o t
theorem vx_ret {g : JFrame} {mc ms : Nat} (k : W p l e R s m args below meth c H locs cells slots (MQ below Qc args s mc ms free) g) : W p l e R s m args below meth c H locs cells slots (vx_MQ below Qc XC args s mc ms free) g := by
  intro T hT X
  obtain ⟨t, a1, o, b1, b2, b3, b4⟩ := k T hT X
  exact ⟨t, a1, o, b1, b2, Or.inl ⟨b3, b4⟩⟩
/-- not caught here: it goes on to the caller -/
theorem vx_widen {g : JFrame} {q : Addr} {k n : Nat} (h1 : cells ≤ k) (h2 : slots ≤ n) (kk : vx_W p l e R s m args below meth c H locs k n Q g q) : vx_W p l e R s m args below meth c H locs cells slots Q g q := fun T hT X => kk T hT (stand_widen X h1 h2)
theorem vx_out {pc : Nat} {E : String} {ce : Cell} {q : Addr} {mc ms : Nat} (hout : ∀ x ∈ c.exceptionTable.toList, covers x pc = false) (hlocks : meth.locks = false) (hcell : H[q]? = some ce) (hv : ce.vm = .none) (hcl : s.vm.findClass E = some ce.cls)
    (hx : ∀ t : State, t.heap = H → s.vm.Alike t.vm → XC E s t) (hf : ∀ z ∈ locs, free z.base) (hc : cells ≤ mc) (hs : slots ≤ ms) :
    vx_W p l e R s m args below meth c H locs cells slots (vx_MQ below Qc XC args s mc ms free) (F0 m pc ls rest) q := by
  intro T hT X
  obtain ⟨st1, hrun, hend, hW, hsm⟩ := X.leaveThrown q (g := F0 m pc ls rest) rfl rfl rfl hout hlocks
  have hcell9 : (T.setFrames (.throwing q :: below)).heap[q]? = some ce := by
    show T.heap[q]? = some ce
    rw [hT]; exact hcell
  exact ⟨_, st1, .threw q, hrun, hend, Or.inr ⟨q, rfl, E, ce, locs, hx _ hT hW.alike, hcell9, hv, hcl, hW, hsm.mono hc hs, hf⟩⟩
theorem vx_frame {U : State} {k n : Nat} (h : s.sameButNew ({ U with vm := s.vm } : State) locs k n) : s.heap.size ≤ U.heap.size ∧ ∀ q : Nat, q < s.heap.size → (∀ z ∈ locs, z.base ≠ q) → U.heap[q]? = s.heap[q]? := by
  obtain ⟨-, h2, -, -, -, h6⟩ := h
  refine ⟨h2, fun q hq hz => ?_⟩
  obtain ⟨c9, e1, e2, e3, e4⟩ := h6 q _ (Array.getElem?_eq_getElem hq)
  have hs : c9.slots = (s.heap[q]).slots := Array.ext_getElem? fun i => e4 i fun hm => hz _ hm rfl
  have h9 : c9 = s.heap[q] := by
    rw [hs] at e2
    exact e2
  have e5 : U.heap[q]? = some c9 := e1
  rw [e5, h9, Array.getElem?_eq_getElem hq]
/-- the words of a throw but the four that speak of the heap -/
def vx_no (w : Cond) : Bool := decide (w ≠ .isRef (.static Bundle.tN "UNASSIGNED_STACK" Bundle.steD)) && decide (w ≠ .isRef (.static Bundle.tN "SUPPRESSED_SENTINEL" Bundle.listD)) && decide (w ≠ .laysStatic Bundle.tN "UNASSIGNED_STACK" Bundle.steD) && decide (w ≠ .laysStatic Bundle.tN "SUPPRESSED_SENTINEL" Bundle.listD)
def vx_at0 (own : String) (ic : Nat) (X : String) (names : List String) : List Cond := (Bundle.ownAtoms0 own ic X names).filter vx_no
def vx_atS (own : String) (ic : Nat) (X : String) (names : List String) : List Cond := (Bundle.ownAtoms own ic X names).filter vx_no
/-- a word that the tables alone decide, or a good one -/
def vx_ot (w : Cond) : Bool := w.onTables || goodWord w
theorem vx_ot_at {args a' : Array Value} {s U : State} {w : Cond} (hW : s.WarmedH U.vm) (hvm : s.vm = U.vm) (hg : vx_ot w = true) (h : w.before args s = true) : w.before a' U = true := by
  simp only [vx_ot, Bool.or_eq_true] at hg
  rcases hg with hg | hg
  · exact va_tabs hg hvm h
  · exact word_at hW (good_of_word hg) h
/-- a list's words: the good ones out of the method's own list, the others by premises of their own -/
theorem vx_hat {args : Array Value} {s : State} {L B : List Cond} (h1 : ∀ w ∈ L.filter goodWord, w.before args s = true) (h2 : ∀ w ∈ L.filter (fun w => !goodWord w), w ∈ B) (h3 : ∀ w ∈ B, w.before args s = true) : ∀ w ∈ L, w.before args s = true := by
  intro w hw
  by_cases g : goodWord w = true
  · exact h1 w (List.mem_filter.mpr ⟨hw, g⟩)
  · refine h3 w (h2 w (List.mem_filter.mpr ⟨hw, ?_⟩))
    show (!goodWord w) = true
    cases hgw : goodWord w
    · rfl
    · exact absurd hgw g
theorem vx_c {args : Array Value} {s : State} {w : Cond} {B : List Cond} (h : w.before args s = true) (t : ∀ w ∈ B, w.before args s = true) : ∀ w' ∈ w :: B, w'.before args s = true := fun w' h' => (List.mem_cons.mp h').elim (fun e => by rw [e]; exact h) (t w')
theorem vx_n {args : Array Value} {s : State} : ∀ w ∈ ([] : List Cond), w.before args s = true := fun _ h => nomatch h
theorem vx_own {args : Array Value} {s : State} {L : List Cond} (h1 : ∀ w ∈ L.filter vx_no, w.before args s = true)
    (hU : (Cond.isRef (.static Bundle.tN "UNASSIGNED_STACK" Bundle.steD)).before args s = true) (hN : (Cond.isRef (.static Bundle.tN "SUPPRESSED_SENTINEL" Bundle.listD)).before args s = true)
    (lU : (Cond.laysStatic Bundle.tN "UNASSIGNED_STACK" Bundle.steD).before args s = true) (lN : (Cond.laysStatic Bundle.tN "SUPPRESSED_SENTINEL" Bundle.listD).before args s = true) : ∀ w ∈ L, w.before args s = true := by
  intro w hw
  by_cases e1 : w = .isRef (.static Bundle.tN "UNASSIGNED_STACK" Bundle.steD)
  · rw [e1]; exact hU
  · by_cases e2 : w = .isRef (.static Bundle.tN "SUPPRESSED_SENTINEL" Bundle.listD)
    · rw [e2]; exact hN
    · by_cases e3 : w = .laysStatic Bundle.tN "UNASSIGNED_STACK" Bundle.steD
      · rw [e3]; exact lU
      · by_cases e4 : w = .laysStatic Bundle.tN "SUPPRESSED_SENTINEL" Bundle.listD
        · rw [e4]; exact lN
        · exact h1 w (List.mem_filter.mpr ⟨hw, by unfold vx_no; rw [decide_eq_true e1, decide_eq_true e2, decide_eq_true e3, decide_eq_true e4]; rfl⟩)
/-- where a static field lies, its class's statics cell in H -/
def vx_L (C n d : String) (A : Nat → Prop) (U : State) (H : Heap) : Prop := ∃ (c : ClassId) (k : Class) (i : Nat) (f : Field) (a : Nat) (cell : Cell), U.vm.findClass C = some c ∧ U.fieldFound? C n d = some (c, k, i, f) ∧ f.isStatic = true ∧ k.statics = some a ∧ H[a]? = some cell ∧ cell.vm.isStatics = true ∧ cell.cls = c ∧ f.slot < cell.slots.size ∧ k.staticTypes[f.slot]? = some f.type ∧ ¬ A a
theorem vx_L.moved {C n d : String} {A : Nat → Prop} {u U : State} {H : Heap} (hvm : u.vm.Alike U.vm) (h : vx_L C n d A u H) : vx_L C n d A U H := by
  obtain ⟨c, k, i, f, a, cell, h1, h2, h3, h4, h5, h6, h7, h8, h9, h10⟩ := h
  obtain ⟨k', hi', he⟩ := State.fieldFound?_setVm hvm h2
  exact ⟨c, k', i, f, a, cell, by rw [hvm.findClass]; exact h1, hi', h3, by rw [he]; exact h4, h5, h6, h7, h8, by rw [he]; exact h9, h10⟩
theorem vx_L.kept {C n d : String} {A : Nat → Prop} {U : State} {H H1 : Heap} (h : vx_L C n d A U H) (hq : ∀ a : Nat, a < H.size → ¬ A a → H1[a]? = H[a]?) : vx_L C n d A U H1 := by
  obtain ⟨c, k, i, f, a, cell, h1, h2, h3, h4, h5, h6, h7, h8, h9, h10⟩ := h
  exact ⟨c, k, i, f, a, cell, h1, h2, h3, h4, by rw [hq a (Array.getElem?_eq_some_iff.mp h5).1 h10]; exact h5, h6, h7, h8, h9, h10⟩
theorem vx_L.narrow {C n d : String} {A B : Nat → Prop} {U : State} {H : Heap} (h : vx_L C n d A U H) (hAB : ∀ q, B q → A q) : vx_L C n d B U H := by
  obtain ⟨c, k, i, f, a, cell, h1, h2, h3, h4, h5, h6, h7, h8, h9, h10⟩ := h
  exact ⟨c, k, i, f, a, cell, h1, h2, h3, h4, h5, h6, h7, h8, h9, fun z => h10 (hAB _ z)⟩
theorem vx_L.word {C n d : String} {A : Nat → Prop} {s : State} {args : Array Value} (h : vx_L C n d A s s.heap) : (Cond.laysStatic C n d).before args s = true := by
  obtain ⟨c, k, i, f, a, cell, h1, h2, h3, h4, h5, h6, h7, h8, h9, -⟩ := h
  show (Cond.laysStatic C n d).holds args s none s [] = true
  exact Cond.laysStatic_of h1 h2 h3 h4 h5 h6 h7 h8 h9
/-- .. and what it holds: null or some reference -/
def vx_Zq (C n d : String) (A : Nat → Prop) (U : State) (H : Heap) : Prop := va_Zq C n d A U H ∧ vx_L C n d A U H
theorem vx_Zq.moved {C n d : String} {A : Nat → Prop} {u U : State} {H : Heap} (hvm : u.vm.Alike U.vm) (h : vx_Zq C n d A u H) : vx_Zq C n d A U H := ⟨va_Zq.moved hvm h.1, vx_L.moved hvm h.2⟩
theorem vx_Zq.kept {C n d : String} {A : Nat → Prop} {U : State} {H H1 : Heap} (h : vx_Zq C n d A U H) (hq : ∀ a : Nat, a < H.size → ¬ A a → H1[a]? = H[a]?) : vx_Zq C n d A U H1 := ⟨va_Zq.kept h.1 hq, vx_L.kept h.2 hq⟩
theorem vx_Zq.narrow {C n d : String} {A B : Nat → Prop} {U : State} {H : Heap} (h : vx_Zq C n d A U H) (hAB : ∀ q, B q → A q) : vx_Zq C n d B U H := ⟨va_Zq.narrow h.1 hAB, vx_L.narrow h.2 hAB⟩
theorem vx_Zqof {args : Array Value} {s : State} {C n d : String} {A : Nat → Prop} (hl : (Cond.laysStatic C n d).before args s = true) (hini : (Cond.initialized C).before args s = true) (h : (Cond.isRef (.static C n d)).before args s = true) (hA : ∀ a : Nat, a < s.heap.size → ¬ A a) : vx_Zq C n d A s s.heap := by
  refine ⟨va_Zqof hl hini h hA, ?_⟩
  obtain ⟨c, k, i, f, a, cell, h1, h2, h3, h4, h5, h6, h7, h8, h9⟩ := Cond.laysStatic_spec hl
  exact ⟨c, k, i, f, a, cell, h1, h2, h3, h4, h5, h6, h7, h8, h9, hA a (Array.getElem?_eq_some_iff.mp h5).1⟩
theorem vx_isRef {C n d : String} {v : Value} {A : Nat → Prop} {s : State} {args : Array Value} (h : va_Z C n d v A s s.heap) (hv : v.isRef = true) : (Cond.isRef (.static C n d)).before args s = true := by
  obtain ⟨cf, kf, fi, f, a, cell, h1, h2, h3, h4, h5, h6, h7, -⟩ := h
  have he : (Term.static C n d).eval args s none [] s = some v := by
    simp [Term.eval, State.fieldNamed?, h1, h2, h4, h5, h6, h7]
  simp only [Cond.before, Cond.holds, Cond.value, he]
  cases v <;> simp_all [Value.isRef]
theorem vx_isRefq {C n d : String} {A : Nat → Prop} {s : State} {args : Array Value} (h : va_Zq C n d A s s.heap) : (Cond.isRef (.static C n d)).before args s = true := by
  rcases h with h | ⟨t, h⟩
  · exact vx_isRef h rfl
  · exact vx_isRef h rfl
/-- the same frame, seen from here: as if the method were called anew in this heap -/
theorem vx_rebase {T : State} (X : Stand p l e R s m args below meth c T locs cells slots) {R' : Room} (hf : R'.frames ≤ R.frames) (hl : R'.locals ≤ R.locals) (hc : cells + R'.cells ≤ R.cells) (hs : slots + R'.slots ≤ R.slots) :
    Stand p l e R' ((T.setVm s.vm).setFrames (.invoking m args :: below)) m args below meth c T [] 0 0 := by
  have htop : (T.setVm s.vm).topJava?.isSome := X.here.top
  have hF : ((T.setVm s.vm).setFrames (.invoking m args :: below)).frames = .invoking m args :: below := State.frames_setFrames _ (State.cur_lt_of_top htop)
  obtain ⟨g₀, hg0⟩ := Option.isSome_iff_exists.mp htop
  obtain ⟨r, hr⟩ := State.topJava?_eq_some.mp hg0
  have hl9 : e.platform.stackLimits (T.setVm s.vm).me = e.platform.stackLimits s.me := X.limits
  have hb9 : (T.setVm s.vm).me.stackBytes = s.me.stackBytes := X.bytes
  refine ⟨X.admits, X.cas, X.clock, hF, ?_, X.hears, X.method, X.code, X.here, X.tail, X.warmed, ?_, ?_, ?_⟩
  · have h := X.room
    have hU : ((T.setVm s.vm).setFrames (.invoking m args :: below)).localsInUse = s.localsInUse := by
      rw [State.localsInUse_invoking hF (meth := meth) (c := c) X.method X.code, State.localsInUse_invoking X.frames X.method X.code]
    simp only [State.hasRoom, Bool.and_eq_true, decide_eq_true_eq] at h ⊢
    obtain ⟨⟨⟨⟨h1, h2, h3, h4, h5, h6⟩, h7⟩, h8⟩, h9⟩ := h
    rw [X.frames, List.length_cons] at h2 h3
    have q1 := X.heapSize
    have q2 := X.used
    simp only [hF, hU, List.length_cons, State.stackLimits_setFrames, State.stackBytes_setFrames, hl9, hb9]
    refine ⟨⟨⟨⟨by omega, by omega, by omega, by omega, by omega, h6⟩, ?_⟩, ?_⟩, X.book⟩
    · show T.heap.size + R'.cells ≤ e.platform.maxCells
      omega
    · show T.slotsUsed + R'.slots ≤ e.platform.maxSlots
      omega
  · rw [State.stackLimits_setFrames]; rfl
  · rw [State.stackBytes_setFrames]; rfl
  · refine ⟨?_, Nat.le_refl _, Nat.le_refl _, ?_, ?_, fun a c9 h9 => ⟨c9, h9, rfl, rfl, fun _ _ => rfl⟩⟩
    · obtain ⟨t, ht, -⟩ := State.frames_cons hr
      show T.setVm s.vm = { ((T.setVm s.vm).setFrames (.invoking m args :: below)).setFrames (T.setVm s.vm).frames with heap := T.heap, slotsUsed := T.slotsUsed }
      rw [State.setFrames_setFrames, State.setFrames_self ht]
      rfl
    · show T.slotsUsed = T.slotsUsed + ((T.heap.toList.drop T.heap.size).map (·.slots.size)).sum
      rw [List.drop_eq_nil_of_le (Nat.le_of_eq Array.length_toList)]
      rfl
    · show ((T.heap.toList.drop T.heap.size).map (·.slots.size)).sum ≤ 0
      rw [List.drop_eq_nil_of_le (Nat.le_of_eq Array.length_toList)]
      exact Nat.le_refl _
/-- 'throw new E()': new; dup; invokespecial; athrow -/
theorem vx_throw0 {cc : ByteArray} {pc : Nat} (hexec : p.tables.exec = Jvm.exec) (hb : c.code = cc) (hl : l.stackTraces = false) {own cls : String} {names : List String} {ik ic mc ms : Nat} {A : Nat → Prop}
    (hown : s.vm.findClass own = some m.cls) (hcls : Bundle.fit cls = true) (hnames : ∀ n ∈ names, Bundle.fit n = true)
    (hk : (Cond.classLink own ik cls).before args s = true) (hini : (Cond.initialized cls).before args s = true) (hat : ∀ w ∈ vx_at0 own ic cls names, w.before args s = true)
    (hgood : ∀ w ∈ Cond.classLink own ik cls :: Cond.initialized cls :: vx_at0 own ic cls names, vx_ot w = true)
    (hU : vx_Zq Bundle.tN "UNASSIGNED_STACK" Bundle.steD A s s.heap) (hN : vx_Zq Bundle.tN "SUPPRESSED_SENTINEL" Bundle.listD A s s.heap) (hS : va_S A s.heap H locs) (hsize : ls.size = c.maxLocals)
    (d0 : decode cc pc = .ok (.new ik, 3)) (d3 : decode cc (pc + 3) = .ok (.dup, 1)) (d4 : decode cc (pc + 4) = .ok (.invokespecial ic, 3)) (d7 : decode cc (pc + 7) = .ok (.athrow, 1))
    (hout : ∀ x ∈ c.exceptionTable.toList, covers x (pc + 7) = false)
    (hRframes : names.length + 3 < R.frames) (hRlocals : (rest.map fun v => v.category).sum + (13 * (names.length + 1) + 42) ≤ R.locals) (hRcells : cells + 1 ≤ R.cells) (hRslots : slots + 6 ≤ R.slots) (hlocks : meth.locks = false)
    (hx : ∀ t : State, s.vm.Alike t.vm → H.size ≤ t.heap.size → (∀ q : Nat, q < H.size → t.heap[q]? = H[q]?) → XC cls s t)
    (hf : ∀ z ∈ locs, free z.base) (hc : cells + 1 ≤ mc) (hs : slots + 6 ≤ ms) :
    W p l e R s m args below meth c H locs cells slots (vx_MQ below Qc XC args s mc ms free) (F0 m pc ls rest) := by
  intro T hT X
  have htr : e.platform.stackTraces = false := (show e.platform.stackTraces = l.stackTraces by rw [X.admits.platform]).trans hl
  have Y := vx_rebase X (R' := { frames := R.frames, locals := R.locals, cells := 1, slots := 6 }) (Nat.le_refl _) (Nat.le_refl _) hRcells hRslots
  obtain ⟨s', hA⟩ : ∃ z, z = (T.setVm s.vm).setFrames (.invoking m args :: below) := ⟨_, rfl⟩
  rw [← hA] at Y
  have hvm : s'.vm = s.vm := by rw [hA]; rfl
  have hhp : s'.heap = H := by rw [hA]; exact hT
  have hW0 : s.WarmedH s'.vm := by rw [hvm]; exact State.WarmedH.refl s
  have hat' : ∀ w ∈ vx_at0 own ic cls names, w.before args s' = true := fun w hw => vx_ot_at hW0 hvm.symm (hgood w (List.mem_cons_of_mem _ (List.mem_cons_of_mem _ hw))) (hat w hw)
  have hk' : (Cond.classLink own ik cls).before args s' = true := vx_ot_at hW0 hvm.symm (hgood _ List.mem_cons_self) hk
  have hini' : (Cond.initialized cls).before args s' = true := vx_ot_at hW0 hvm.symm (hgood _ (List.mem_cons_of_mem _ List.mem_cons_self)) hini
  have hU' : vx_Zq Bundle.tN "UNASSIGNED_STACK" Bundle.steD A s' s'.heap := by rw [hhp]; exact vx_Zq.moved hW0.alike (hU.kept hS.2.1)
  have hN' : vx_Zq Bundle.tN "SUPPRESSED_SENTINEL" Bundle.listD A s' s'.heap := by rw [hhp]; exact vx_Zq.moved hW0.alike (hN.kept hS.2.1)
  have h : ∀ w ∈ Bundle.ownAtoms0 own ic cls names, w.before args s' = true := vx_own hat' (vx_isRefq hU'.1) (vx_isRefq hN'.1) hU'.2.word hN'.2.word
  have hown' : s'.vm.findClass own = some m.cls := by rw [hvm]; exact hown
  have hins : (Cond.instantiable cls 6).before args s' = true := h _ (by simp [Bundle.ownAtoms0])
  obtain ⟨vm₁, cX, kX, hfX, hkX, -, -, X₁, st1⟩ := Y.newCold hexec (own := own) (C := cls) (index := ik) (n := 6) hown' hk' hins hini'
    (g := F0 m pc ls rest) rfl (by rw [hb]; exact d0) (Nat.le_refl _) (Nat.le_refl _)
  generalize hT1 : (T.setVm vm₁).pushCell { cls := cX, slots := kX.instanceTypes.map defaultValue, vm := .none } = T1 at X₁ st1
  have hcat : (Value.ref T.heap.size).category = 1 := rfl
  have hcellA : T1.heap[T.heap.size]? = some (freshCell cX kX) := by rw [← hT1]; exact State.heap_pushCell_size _ _
  have d3' : decode c.code (pc + 3) = .ok (.dup, 1) := by rw [hb]; exact d3
  obtain ⟨U, hsteps, hrun, hend, hW, hsame, ce, hce, hO⟩ := X₁.ctorThrow0 hexec htr (own := own) (cls := cls) (names := names) (ic := ic) hown' hcls hnames h (fun x hx => nomatch hx) hfX hkX hcellA (by rw [hhp, hT]; exact Nat.le_refl _)
    (g := { method := m, pc := pc + 4, locals := ls, stack := .ref T.heap.size :: .ref T.heap.size :: rest, locked := none }) rfl hsize rfl rfl (rest := rest) rfl
    (by rw [hb]; exact d4) (by rw [hb]; exact d7) hout hRframes (by simp only [List.map_cons, List.sum_cons, hcat]; omega) hlocks
  obtain ⟨f1, f2⟩ := vx_frame hsame
  rw [hhp] at f1 f2
  have hWs : s.WarmedH U.vm := State.WarmedH.trans hW0 hW
  have hcl : s.vm.findClass cls = some ce.cls := by
    have h9 := hO.cls
    rw [hvm] at h9
    exact h9
  have hall : s.sameButNew ({ U with vm := s.vm } : State) locs mc ms := by
    subst hA
    obtain ⟨e1, e2⟩ := hsame
    rw [State.setFrames_setFrames] at e1
    have h2 : (T.setVm s.vm).sameButNew ({ U with vm := s.vm } : State) [] (0 + 1) (0 + 6) := ⟨e1, e2⟩
    have h3 := X.same.trans h2
    rw [List.append_nil] at h3
    exact h3.mono hc hs
  refine ⟨U, ?_, .threw T.heap.size, hrun, hend, Or.inr ⟨T.heap.size, rfl, cls, ce, locs, hx U hWs.alike f1 (fun q hq => f2 q hq (fun z hz => nomatch hz)), hce, hO.vm, hcl, hWs, hall, hf⟩⟩
  refine st1 _ ?_
  show Steps p.tables e below (T1.setTop { method := m, pc := pc + 3, locals := ls, stack := .ref T.heap.size :: rest, locked := none }) _
  jvm_step X₁.here [X₁.here.top, hexec, d3', Value.category]
  exact hsteps
/-- 'throw new E("text")': new; dup; ldc; invokespecial; athrow -/
theorem vx_throwS {cc : ByteArray} {pc : Nat} (hexec : p.tables.exec = Jvm.exec) (hb : c.code = cc) (hl : l.stackTraces = false) {own cls text : String} {names : List String} {ik is ic mc ms sa : Nat} {A : Nat → Prop}
    (hown : s.vm.findClass own = some m.cls) (hcls : Bundle.fit cls = true) (hnames : ∀ n ∈ names, Bundle.fit n = true)
    (hk : (Cond.classLink own ik cls).before args s = true) (hini : (Cond.initialized cls).before args s = true) (hstr : vk_R own is text sa s) (hat : ∀ w ∈ vx_atS own ic cls names, w.before args s = true)
    (hgood : ∀ w ∈ Cond.classLink own ik cls :: Cond.initialized cls :: vx_atS own ic cls names, vx_ot w = true)
    (hU : vx_Zq Bundle.tN "UNASSIGNED_STACK" Bundle.steD A s s.heap) (hN : vx_Zq Bundle.tN "SUPPRESSED_SENTINEL" Bundle.listD A s s.heap) (hS : va_S A s.heap H locs) (hsize : ls.size = c.maxLocals)
    (d0 : decode cc pc = .ok (.new ik, 3)) (d3 : decode cc (pc + 3) = .ok (.dup, 1)) (d4 : decode cc (pc + 4) = .ok (.ldc is, 2)) (d6 : decode cc (pc + 6) = .ok (.invokespecial ic, 3)) (d9 : decode cc (pc + 9) = .ok (.athrow, 1))
    (hout : ∀ x ∈ c.exceptionTable.toList, covers x (pc + 9) = false)
    (hRframes : names.length + 3 < R.frames) (hRlocals : (rest.map fun v => v.category).sum + (13 * (names.length + 1) + 43) ≤ R.locals) (hRcells : cells + 1 ≤ R.cells) (hRslots : slots + 6 ≤ R.slots) (hlocks : meth.locks = false)
    (hx : ∀ t : State, s.vm.Alike t.vm → H.size ≤ t.heap.size → (∀ q : Nat, q < H.size → t.heap[q]? = H[q]?) → XC cls s t)
    (hf : ∀ z ∈ locs, free z.base) (hc : cells + 1 ≤ mc) (hs : slots + 6 ≤ ms) :
    W p l e R s m args below meth c H locs cells slots (vx_MQ below Qc XC args s mc ms free) (F0 m pc ls rest) := by
  intro T hT X
  have htr : e.platform.stackTraces = false := (show e.platform.stackTraces = l.stackTraces by rw [X.admits.platform]).trans hl
  have Y := vx_rebase X (R' := { frames := R.frames, locals := R.locals, cells := 1, slots := 6 }) (Nat.le_refl _) (Nat.le_refl _) hRcells hRslots
  obtain ⟨s', hA⟩ : ∃ z, z = (T.setVm s.vm).setFrames (.invoking m args :: below) := ⟨_, rfl⟩
  rw [← hA] at Y
  have hvm : s'.vm = s.vm := by rw [hA]; rfl
  have hhp : s'.heap = H := by rw [hA]; exact hT
  have hW0 : s.WarmedH s'.vm := by rw [hvm]; exact State.WarmedH.refl s
  have hat' : ∀ w ∈ vx_atS own ic cls names, w.before args s' = true := fun w hw => vx_ot_at hW0 hvm.symm (hgood w (List.mem_cons_of_mem _ (List.mem_cons_of_mem _ hw))) (hat w hw)
  have hk' : (Cond.classLink own ik cls).before args s' = true := vx_ot_at hW0 hvm.symm (hgood _ List.mem_cons_self) hk
  have hini' : (Cond.initialized cls).before args s' = true := vx_ot_at hW0 hvm.symm (hgood _ (List.mem_cons_of_mem _ List.mem_cons_self)) hini
  have hU' : vx_Zq Bundle.tN "UNASSIGNED_STACK" Bundle.steD A s' s'.heap := by rw [hhp]; exact vx_Zq.moved hW0.alike (hU.kept hS.2.1)
  have hN' : vx_Zq Bundle.tN "SUPPRESSED_SENTINEL" Bundle.listD A s' s'.heap := by rw [hhp]; exact vx_Zq.moved hW0.alike (hN.kept hS.2.1)
  have h : ∀ w ∈ Bundle.ownAtoms own ic cls names, w.before args s' = true := vx_own hat' (vx_isRefq hU'.1) (vx_isRefq hN'.1) hU'.2.word hN'.2.word
  have hown' : s'.vm.findClass own = some m.cls := by rw [hvm]; exact hown
  have hins : (Cond.instantiable cls 6).before args s' = true := h _ (by simp [Bundle.ownAtoms])
  obtain ⟨vm₁, cX, kX, hfX, hkX, -, -, X₁, st1⟩ := Y.newCold hexec (own := own) (C := cls) (index := ik) (n := 6) hown' hk' hins hini'
    (g := F0 m pc ls rest) rfl (by rw [hb]; exact d0) (Nat.le_refl _) (Nat.le_refl _)
  generalize hT1 : (T.setVm vm₁).pushCell { cls := cX, slots := kX.instanceTypes.map defaultValue, vm := .none } = T1 at X₁ st1
  have hcat : (Value.ref T.heap.size).category = 1 := rfl
  have hcellA : T1.heap[T.heap.size]? = some (freshCell cX kX) := by rw [← hT1]; exact State.heap_pushCell_size _ _
  have d3' : decode c.code (pc + 3) = .ok (.dup, 1) := by rw [hb]; exact d3
  have d4' : decode c.code (pc + 4) = .ok (.ldc is, 2) := by rw [hb]; exact d4
  have hstr' : vk_R own is text sa s' := vk_R.warm hW0 hstr
  obtain ⟨U, hsteps, hrun, hend, hW, hsame, ce, hce, hO⟩ := X₁.ctorThrowS hexec htr (own := own) (cls := cls) (names := names) (ic := ic) hown' hcls hnames h (fun x hx => nomatch hx) hfX hkX hcellA (by rw [hhp, hT]; exact Nat.le_refl _) (msg := .ref sa) rfl
    (g := { method := m, pc := pc + 6, locals := ls, stack := .ref sa :: .ref T.heap.size :: .ref T.heap.size :: rest, locked := none }) rfl hsize rfl rfl (rest := rest) rfl
    (by rw [hb]; exact d6) (by rw [hb]; exact d9) hout hRframes (by simp only [List.map_cons, List.sum_cons, hcat]; omega) hlocks
  obtain ⟨f1, f2⟩ := vx_frame hsame
  rw [hhp] at f1 f2
  have hWs : s.WarmedH U.vm := State.WarmedH.trans hW0 hW
  have hcl : s.vm.findClass cls = some ce.cls := by
    have h9 := hO.cls
    rw [hvm] at h9
    exact h9
  have hall : s.sameButNew ({ U with vm := s.vm } : State) locs mc ms := by
    subst hA
    obtain ⟨e1, e2⟩ := hsame
    rw [State.setFrames_setFrames] at e1
    have h2 : (T.setVm s.vm).sameButNew ({ U with vm := s.vm } : State) [] (0 + 1) (0 + 6) := ⟨e1, e2⟩
    have h3 := X.same.trans h2
    rw [List.append_nil] at h3
    exact h3.mono hc hs
  refine ⟨U, ?_, .threw T.heap.size, hrun, hend, Or.inr ⟨T.heap.size, rfl, cls, ce, locs, hx U hWs.alike f1 (fun q hq => f2 q hq (fun z hz => nomatch hz)), hce, hO.vm, hcl, hWs, hall, hf⟩⟩
  refine st1 _ ?_
  show Steps p.tables e below (T1.setTop { method := m, pc := pc + 3, locals := ls, stack := .ref T.heap.size :: rest, locked := none }) _
  jvm_step X₁.here [X₁.here.top, hexec, d3', Value.category]
  exact X₁.ldcString hexec (own := own) (text := text) (index := is) (a := sa) hown' hstr'.1 hstr'.2
    (g := { method := m, pc := pc + 4, locals := ls, stack := .ref T.heap.size :: .ref T.heap.size :: rest, locked := none }) rfl d4' _ hsteps
/-- 'throw new E("text")', the text by a wide index -/
theorem vx_throwSW {cc : ByteArray} {pc : Nat} (hexec : p.tables.exec = Jvm.exec) (hb : c.code = cc) (hl : l.stackTraces = false) {own cls text : String} {names : List String} {ik is ic mc ms sa : Nat} {A : Nat → Prop}
    (hown : s.vm.findClass own = some m.cls) (hcls : Bundle.fit cls = true) (hnames : ∀ n ∈ names, Bundle.fit n = true)
    (hk : (Cond.classLink own ik cls).before args s = true) (hini : (Cond.initialized cls).before args s = true) (hstr : vk_R own is text sa s) (hat : ∀ w ∈ vx_atS own ic cls names, w.before args s = true)
    (hgood : ∀ w ∈ Cond.classLink own ik cls :: Cond.initialized cls :: vx_atS own ic cls names, vx_ot w = true)
    (hU : vx_Zq Bundle.tN "UNASSIGNED_STACK" Bundle.steD A s s.heap) (hN : vx_Zq Bundle.tN "SUPPRESSED_SENTINEL" Bundle.listD A s s.heap) (hS : va_S A s.heap H locs) (hsize : ls.size = c.maxLocals)
    (d0 : decode cc pc = .ok (.new ik, 3)) (d3 : decode cc (pc + 3) = .ok (.dup, 1)) (d4 : decode cc (pc + 4) = .ok (.ldc_w is, 3)) (d7 : decode cc (pc + 7) = .ok (.invokespecial ic, 3)) (d10 : decode cc (pc + 10) = .ok (.athrow, 1))
    (hout : ∀ x ∈ c.exceptionTable.toList, covers x (pc + 10) = false)
    (hRframes : names.length + 3 < R.frames) (hRlocals : (rest.map fun v => v.category).sum + (13 * (names.length + 1) + 43) ≤ R.locals) (hRcells : cells + 1 ≤ R.cells) (hRslots : slots + 6 ≤ R.slots) (hlocks : meth.locks = false)
    (hx : ∀ t : State, s.vm.Alike t.vm → H.size ≤ t.heap.size → (∀ q : Nat, q < H.size → t.heap[q]? = H[q]?) → XC cls s t)
    (hf : ∀ z ∈ locs, free z.base) (hc : cells + 1 ≤ mc) (hs : slots + 6 ≤ ms) :
    W p l e R s m args below meth c H locs cells slots (vx_MQ below Qc XC args s mc ms free) (F0 m pc ls rest) := by
  intro T hT X
  have htr : e.platform.stackTraces = false := (show e.platform.stackTraces = l.stackTraces by rw [X.admits.platform]).trans hl
  have Y := vx_rebase X (R' := { frames := R.frames, locals := R.locals, cells := 1, slots := 6 }) (Nat.le_refl _) (Nat.le_refl _) hRcells hRslots
  obtain ⟨s', hA⟩ : ∃ z, z = (T.setVm s.vm).setFrames (.invoking m args :: below) := ⟨_, rfl⟩
  rw [← hA] at Y
  have hvm : s'.vm = s.vm := by rw [hA]; rfl
  have hhp : s'.heap = H := by rw [hA]; exact hT
  have hW0 : s.WarmedH s'.vm := by rw [hvm]; exact State.WarmedH.refl s
  have hat' : ∀ w ∈ vx_atS own ic cls names, w.before args s' = true := fun w hw => vx_ot_at hW0 hvm.symm (hgood w (List.mem_cons_of_mem _ (List.mem_cons_of_mem _ hw))) (hat w hw)
  have hk' : (Cond.classLink own ik cls).before args s' = true := vx_ot_at hW0 hvm.symm (hgood _ List.mem_cons_self) hk
  have hini' : (Cond.initialized cls).before args s' = true := vx_ot_at hW0 hvm.symm (hgood _ (List.mem_cons_of_mem _ List.mem_cons_self)) hini
  have hU' : vx_Zq Bundle.tN "UNASSIGNED_STACK" Bundle.steD A s' s'.heap := by rw [hhp]; exact vx_Zq.moved hW0.alike (hU.kept hS.2.1)
  have hN' : vx_Zq Bundle.tN "SUPPRESSED_SENTINEL" Bundle.listD A s' s'.heap := by rw [hhp]; exact vx_Zq.moved hW0.alike (hN.kept hS.2.1)
  have h : ∀ w ∈ Bundle.ownAtoms own ic cls names, w.before args s' = true := vx_own hat' (vx_isRefq hU'.1) (vx_isRefq hN'.1) hU'.2.word hN'.2.word
  have hown' : s'.vm.findClass own = some m.cls := by rw [hvm]; exact hown
  have hins : (Cond.instantiable cls 6).before args s' = true := h _ (by simp [Bundle.ownAtoms])
  obtain ⟨vm₁, cX, kX, hfX, hkX, -, -, X₁, st1⟩ := Y.newCold hexec (own := own) (C := cls) (index := ik) (n := 6) hown' hk' hins hini'
    (g := F0 m pc ls rest) rfl (by rw [hb]; exact d0) (Nat.le_refl _) (Nat.le_refl _)
  generalize hT1 : (T.setVm vm₁).pushCell { cls := cX, slots := kX.instanceTypes.map defaultValue, vm := .none } = T1 at X₁ st1
  have hcat : (Value.ref T.heap.size).category = 1 := rfl
  have hcellA : T1.heap[T.heap.size]? = some (freshCell cX kX) := by rw [← hT1]; exact State.heap_pushCell_size _ _
  have d3' : decode c.code (pc + 3) = .ok (.dup, 1) := by rw [hb]; exact d3
  have d4' : decode c.code (pc + 4) = .ok (.ldc_w is, 3) := by rw [hb]; exact d4
  have hstr' : vk_R own is text sa s' := vk_R.warm hW0 hstr
  obtain ⟨U, hsteps, hrun, hend, hW, hsame, ce, hce, hO⟩ := X₁.ctorThrowS hexec htr (own := own) (cls := cls) (names := names) (ic := ic) hown' hcls hnames h (fun x hx => nomatch hx) hfX hkX hcellA (by rw [hhp, hT]; exact Nat.le_refl _) (msg := .ref sa) rfl
    (g := { method := m, pc := pc + 7, locals := ls, stack := .ref sa :: .ref T.heap.size :: .ref T.heap.size :: rest, locked := none }) rfl hsize rfl rfl (rest := rest) rfl
    (by rw [hb]; exact d7) (by rw [hb]; exact d10) hout hRframes (by simp only [List.map_cons, List.sum_cons, hcat]; omega) hlocks
  obtain ⟨f1, f2⟩ := vx_frame hsame
  rw [hhp] at f1 f2
  have hWs : s.WarmedH U.vm := State.WarmedH.trans hW0 hW
  have hcl : s.vm.findClass cls = some ce.cls := by
    have h9 := hO.cls
    rw [hvm] at h9
    exact h9
  have hall : s.sameButNew ({ U with vm := s.vm } : State) locs mc ms := by
    subst hA
    obtain ⟨e1, e2⟩ := hsame
    rw [State.setFrames_setFrames] at e1
    have h2 : (T.setVm s.vm).sameButNew ({ U with vm := s.vm } : State) [] (0 + 1) (0 + 6) := ⟨e1, e2⟩
    have h3 := X.same.trans h2
    rw [List.append_nil] at h3
    exact h3.mono hc hs
  refine ⟨U, ?_, .threw T.heap.size, hrun, hend, Or.inr ⟨T.heap.size, rfl, cls, ce, locs, hx U hWs.alike f1 (fun q hq => f2 q hq (fun z hz => nomatch hz)), hce, hO.vm, hcl, hWs, hall, hf⟩⟩
  refine st1 _ ?_
  show Steps p.tables e below (T1.setTop { method := m, pc := pc + 3, locals := ls, stack := .ref T.heap.size :: rest, locked := none }) _
  jvm_step X₁.here [X₁.here.top, hexec, d3', Value.category]
  exact X₁.ldcStringW hexec (own := own) (text := text) (index := is) (a := sa) hown' hstr'.1 hstr'.2
    (g := { method := m, pc := pc + 4, locals := ls, stack := .ref T.heap.size :: .ref T.heap.size :: rest, locked := none }) rfl d4' _ hsteps
end Ends
section Bodies
variable {l : Launch}
theorem vx_ofW {y : MethodName} {ws ws' : List Cond} {rm : Room} {Pc : Array Value → State → Prop} {Qc : Array Value → State → Outcome → State → Prop} {XC : String → State → State → Prop} {mc ms : Nat} {free : Addr → Prop} {cc : ByteArray} {maxL : Nat} {ret : Option FieldType}
    (hy : plainName y.cls = true) (hw : ws = Cond.code y cc maxL ret :: ws')
    (body : ∀ p e s m args below meth c s₁, BodyLoose p l y (headSpec ws rm) cc maxL ret e s m args below meth c s₁ → c.maxLocals = maxL → (∀ x ∈ c.exceptionTable.toList, False) → Pc args s →
      W p l e (headSpec ws rm).room s m args below meth c s.heap [] 0 0 (vx_MQ below Qc XC args s mc ms free) (entryFrame m args maxL)) : vx_Met l y ws rm Pc Qc XC mc ms free := by
  refine MetFree.of_bodyS (code := cc) (maxLocals := maxL) (ret := ret) hy ?_ ?_
  · intro args s m h hn
    obtain ⟨meth, c, h1, h2, h3, h4, h5, h6, -, -⟩ := Cond.code_spec hn (atoms_spec (ws := ws) h _ (by rw [hw]; exact List.mem_cons_self))
    exact ⟨meth, c, h1, h2, h3, h4, h5, h6⟩
  · intro p e s m args below meth c s₁ B hml hP _
    have hh0 : s₁.heap = s.heap := by rw [B.state]; rfl
    have ht : ∀ x ∈ c.exceptionTable.toList, False := by
      obtain ⟨meth9, c9, h1, h2, -, -, -, -, h7, -⟩ := Cond.code_spec B.named (atoms_spec (ws := ws) B.pre _ (by rw [hw]; exact List.mem_cons_self))
      cases Option.some.inj (h1.symm.trans B.method)
      cases Option.some.inj (h2.symm.trans (Stand.of_body B).code)
      intro x hx
      rw [Array.isEmpty_iff.mp h7] at hx
      cases hx
    obtain ⟨t, a1, o, b1, b2, b3⟩ := body p e s m args below meth c s₁ B hml ht hP s₁ hh0 (Stand.of_body B)
    exact ⟨t, o, a1, b1, b2, b3⟩
/-- the table of a body with handlers -/
theorem vx_table {p : Program} {x y : MethodName} {S : Spec} {cc bytes : ByteArray} {maxL maxL' : Nat} {ret ret' : Option FieldType} {e : Env} {s s₁ : State} {m : MethodId} {args : Array Value} {below : List Frame} {meth : Method} {c : Code} {hh : List (Nat × Nat × Nat × Nat)}
    (B : BodyLoose p l y S cc maxL ret e s m args below meth c s₁) (h : (Cond.codeWith y bytes maxL' ret' hh).before args s = true) : c.exceptionTable.toList = tableOf hh := by
  obtain ⟨m9, meth9, c9, hn9, h1, h2, -, -, h6, -⟩ := Cond.codeWith_spec h
  cases Option.some.inj (hn9.symm.trans B.named)
  cases Option.some.inj (h1.symm.trans B.method)
  cases Option.some.inj (h2.symm.trans (Stand.of_body B).code)
  rw [← h6, table_eq]
end Bodies
end VXA
/-! ===== END ===== -/
/-! ===== BEGIN a static call of a method with an exception table ===== -/
section VXS
variable {p : Program} {l : Launch} {e : Env} {R : Room} {s : State} {m : MethodId} {args : Array Value} {below : List Frame} {meth : Method} {c : Code} {T : State} {H : Heap} {locs : List Loc} {cells slots : Nat}
abbrev vx_CSW (R : Room) (s : State) (args : Array Value) (own : String) (index : Nat) (y : MethodName) (bytes : ByteArray) (maxL : Nat) (ret : Option FieldType) (hh : List (Nat × Nat × Nat × Nat)) (ws : List Cond) (rm : Room) (mc ms n : Nat) : Prop :=
  (rm.cells = mc ∧ rm.slots = ms ∧ rm.frames + 1 ≤ R.frames ∧ 8 + (maxL + 11) + rm.locals ≤ R.locals ∧ (∀ w ∈ ws, ∀ (a' : Array Value) (U : State), s.WarmedH U.vm → w.before a' U = true) ∧ Cond.codeWith y bytes maxL ret hh ∈ ws) ∧
  (Cond.codeWith y bytes maxL ret hh).before args s = true ∧ (Cond.initialized y.cls).before args s = true ∧ (y.cls ≠ "java/lang/invoke/MethodHandle" ∧ y.cls ≠ "java/lang/invoke/VarHandle") ∧
  (∀ sig, parseMethodDescriptor y.desc = some sig → n = sig.parameters.length) ∧ (Cond.methodLink own index y).before args s = true ∧ (Cond.static y).before args s = true
theorem vx_cwSW {own : String} {index maxL mc ms : Nat} {y : MethodName} {bytes : ByteArray} {ret : Option FieldType} {hh : List (Nat × Nat × Nat × Nat)} {Ts ws ws' : List Cond} {rm : Room} (n : Nat) (ht : ∀ w ∈ Ts, w.before args s = true) (hT : GoodIn Ts (va_wsS own index y ws)) (hw : ws = Cond.codeWith y bytes maxL ret hh :: ws') (hrc : rm.cells = mc) (hrs : rm.slots = ms)
    (hd : y.cls ≠ "java/lang/invoke/MethodHandle" ∧ y.cls ≠ "java/lang/invoke/VarHandle" ∧ (parseMethodDescriptor y.desc).map (fun d => d.parameters.length) = some n) (hR : rm.frames + 1 ≤ R.frames ∧ 8 + (maxL + 11) + rm.locals ≤ R.locals) :
    vx_CSW R s args own index y bytes maxL ret hh ws rm mc ms n := by
  have ok : ∀ w ∈ va_wsS own index y ws, w.before args s = true := fun w h => ht w (hT w h).1
  have hG : GoodIn Ts ws := fun w h => hT w (by unfold va_wsS; exact List.mem_append_right _ h)
  have hc : Cond.codeWith y bytes maxL ret hh ∈ ws := by rw [hw]; exact List.mem_cons_self
  refine ⟨⟨hrc, hrs, hR.1, hR.2, pay_in ht hG, hc⟩, ht _ (hG _ hc).1, ok _ (by simp [va_wsS]), ⟨hd.1, hd.2.1⟩, fun sig h => ?_, ok _ (by simp [va_wsS]), ok _ (by simp [va_wsS])⟩
  have h2 := hd.2.2
  rw [h] at h2
  exact (Option.some.inj h2).symm
theorem vx_callSW (X : Stand p l e R s m args below meth c T locs cells slots) (hexec : p.tables.exec = Jvm.exec) {own : String} {index : Nat} {y : MethodName} {bytes : ByteArray} {maxL : Nat} {ret : Option FieldType} {hh : List (Nat × Nat × Nat × Nat)}
    (hown : s.vm.findClass own = some m.cls) (hlink : (Cond.methodLink own index y).before args s = true) (hstat : (Cond.static y).before args s = true) (hinit : (Cond.initialized y.cls).before args s = true)
    (hcode : (Cond.codeWith y bytes maxL ret hh).before args s = true) (hy : y.cls ≠ "java/lang/invoke/MethodHandle" ∧ y.cls ≠ "java/lang/invoke/VarHandle")
    {W9 : Nat} {Pre : Pt → Array Value → Prop} {Post : Pt → Array Value → Option Value → Pt → Prop} (hK : Back l R p e below s args y 3 W9 Pre Post)
    {g : JFrame} (hg : g.method = m) (hsize : g.locals.size = c.maxLocals) {argsL rest : List Value} (hlen : ∀ sig, parseMethodDescriptor y.desc = some sig → argsL.length = sig.parameters.length)
    (hstack : g.stack = argsL.reverse ++ rest) (hW : 2 * g.monitorRoom + (rest.map fun v => v.category).sum ≤ W9) (hdg : decode c.code g.pc = .ok (.invokestatic index, 3))
    (hpre : ∀ vm₁, s.WarmedH vm₁ → Pre ⟨T.setVm vm₁, locs, cells, slots⟩ argsL.toArray) :
    ∃ (v : Option Value) (vm₁ : Vm) (B : Pt), s.WarmedH vm₁ ∧ Stand p l e R s m args below meth c B.U B.locs B.cells B.slots ∧ Post ⟨T.setVm vm₁, locs, cells, slots⟩ argsL.toArray v B ∧
      ∀ target, Steps p.tables e below (B.U.setTop { g with pc := g.pc + 3, stack := v.toList ++ rest }) target → Steps p.tables e below (T.setTop g) target := by
  obtain ⟨mk, methM, cM, hnamed, hmethM, -, -, -, -, -, -, hsigM⟩ := Cond.codeWith_spec hcode
  have hstatic : methM.isStatic = true := Cond.static_spec hnamed hmethM hstat
  obtain ⟨kP, hkP, -⟩ := className_of_methodNamed hnamed
  have hinitP : kP.init = .initialized := Cond.initialized_spec (findClass_of_methodNamed hnamed) hkP hinit
  obtain ⟨vm₁, X₁, hstep₁⟩ := X.invokestatic hexec hown hlink hnamed hmethM hstatic hkP hinitP hy (g := g) hg (argsL := argsL) (rest := rest) (hlen _ hsigM) hstack hdg
  obtain ⟨v, B, X', hpost, hsteps⟩ := hK m meth c ⟨T.setVm vm₁, locs, cells, slots⟩ { g with stack := rest } (.invokestatic index) mk argsL.toArray X₁ hg hsize hdg hW (X₁.named hnamed) (hpre vm₁ X₁.warmed)
  exact ⟨v, vm₁, B, X₁.warmed, X', hpost, fun target h => hstep₁ _ fun acts => by rw [doInvoke_state]; exact hsteps.trans h⟩
theorem vx_runSW {y : MethodName} {bytes cc : ByteArray} {maxL nL mc ms n index : Nat} {ret : Option FieldType} {hh : List (Nat × Nat × Nat × Nat)} {ws : List Cond} {rm : Room} {Pc : Array Value → State → Prop} {Qc : Array Value → State → Outcome → State → Prop} {free : Addr → Prop} {Ts : List Cond} {own : String} {As rest : List Value} {g : JFrame}
    (S : CallFix p m c cc nL s args Ts own) (hM : Met l y ws rm Pc Qc mc ms free) (cw : vx_CSW R s args own index y bytes maxL ret hh ws rm mc ms n) (hp : PreS s H Pc As)
    (hg : g.method = m) (hn : As.length = n) (hsize : g.locals.size = nL) (hstack : g.stack = As.reverse ++ rest) (hW : 2 * g.monitorRoom + (rest.map fun v => v.category).sum ≤ 8) (hdg : decode cc g.pc = .ok (.invokestatic index, 3)) (hf : cells + mc ≤ R.cells ∧ slots + ms ≤ R.slots) :
    va_Run p l e R s m args below meth c H locs cells slots mc ms g rest (Qc As.toArray) (free) := by
  obtain ⟨⟨hrc, hrs, hfr, hlo, hws, hcw⟩, hcode, hini, hy, hlen, hl, hstt⟩ := cw
  have hK : Back l R p e below s args y 3 8 (PreOf R mc ms Pc) (PostOf Qc mc ms free) := va_backW (hh := hh) (bytes := bytes) (maxL := maxL) (ret := ret) hM hp.1 hrc hrs hfr hlo hws hcw (fun a' U hW => word_at hW (Or.inl (by first | rfl | simp [Cond.onTables, Cond.keeps, Cond.steady])) hini)
  obtain ⟨hx, hb, hml, ho, -⟩ := S
  intro T hT X
  obtain ⟨v, vm₁, ⟨U', l2, c2, s2⟩, hW₁, X', ⟨g', mk, t, L, e1, e2, hq, h1, hL, h2, h3⟩, st⟩ := vx_callSW X hx (hh := hh) (bytes := bytes) (maxL := maxL) (ret := ret) ho hl hstt hini hcode hy hK hg (hsize.trans hml.symm) (argsL := As) (rest := rest) (fun sig h => hn.trans (hlen sig h)) hstack hW (by rw [hb]; exact hdg)
    (fun vm₁ hW₁ => ⟨hf.1, hf.2, hp.2 (T.setVm vm₁) hT hW₁⟩)
  dsimp only [Pt.U, Pt.locs, Pt.cells, Pt.slots] at X' e1 e2 h1 h2 h3 st
  subst h1; subst h2; subst h3
  exact ⟨v, (T.setVm vm₁).calling g' mk As.toArray, t, U', L, hT, X', hL, e1, e2, hq, st⟩
/-- not caught here, past rows that name other classes: it goes on to the caller -/
theorem vx_lt {D : va_G} {cl : List vw_C} {ws : va_W} {H1 : Heap} (h : va_P D cl ws H1) {k : Nat} {q : Nat × va_E} (hk : ws[k]? = some q) : q.1 < H1.size := (h k q hk).lt
end VXS
/-! ===== END ===== -/
/-! ===== BEGIN methods with a table of their own: called by a name, returning or throwing ===== -/
section VXH
/-! vx_backW, vx_callVX, vx_callSX, vx_callVW, vx_runVW, vx_runVX, vx_runSX, vx_ofWH follow the same proofs as their sisters above (Free/Laws.lean, Shelf42/LK1.lean); vx_outP calls Shelf42/NT130.lean (outThrough). -/
section
variable {l : Launch} {R : Room} {p : Program} {e : Env} {below : List Frame} {s : State} {sargs : Array Value} {y : MethodName} {len W9 : Nat}
theorem vx_backW {ws : List Cond} {rm : Room} {Pc : Array Value → State → Prop} {Qc : Array Value → State → Outcome → State → Prop} {XC : String → State → State → Prop} {mc ms : Nat} {free : Addr → Prop} {bytes : ByteArray} {maxL : Nat} {ret : Option FieldType} {hh : List (Nat × Nat × Nat × Nat)}
    (hM : vx_Met l y ws rm Pc Qc XC mc ms free) (hblind : FrameBlind Pc) (hrc : rm.cells = mc) (hrs : rm.slots = ms)
    (hframes : rm.frames + 1 ≤ R.frames) (hlocals : W9 + (maxL + 11) + rm.locals ≤ R.locals)
    (hws : ∀ w ∈ ws, ∀ a' U, s.WarmedH U.vm → w.before a' U = true) (hcode : Cond.codeWith y bytes maxL ret hh ∈ ws) (hinit : ∀ a' U, s.WarmedH U.vm → (Cond.initialized y.cls).before a' U = true) :
    vx_Back l R p e below s sargs y len W9 (PreOf R mc ms Pc) (PostOf Qc mc ms free) (vx_Post XC mc ms free) := by
  intro m meth c A g ig mk a X hg hsize hdg hW hn hp
  have h1 : (headSpec ws rm).pre.before a A.U = true := atoms_intro fun w hw => hws w hw _ _ X.warmed
  have h2 : (Cond.codeWith y bytes maxL ret hh).before a A.U = true := hws _ hcode _ _ X.warmed
  have h3 : (Cond.initialized y.cls).before a A.U = true := hinit _ _ X.warmed
  have h4 : A.cells + (headSpec ws rm).room.cells ≤ R.cells := by rw [show (headSpec ws rm).room.cells = mc from hrc]; exact hp.1
  have h5 : A.slots + (headSpec ws rm).room.slots ≤ R.slots := by rw [show (headSpec ws rm).room.slots = ms from hrs]; exact hp.2.1
  have hPc : Pc a (A.U.calling g mk a) := hblind _ _ _ _ hp.2.2
  obtain ⟨U, Ls, c0, s0⟩ := A
  dsimp only [Pt.U, Pt.locs, Pt.cells, Pt.slots] at h1 h2 h3 h4 h5 X hn hPc ⊢
  obtain ⟨m9, methY, cY, hn9, hmY, hcY, -, hlY, -⟩ := Cond.codeWith_spec h2
  cases Option.some.inj (hn9.symm.trans hn)
  obtain ⟨kY, hkY, -⟩ := className_of_methodNamed hn
  have hinitY : kY.init = .initialized := Cond.initialized_spec (findClass_of_methodNamed hn) hkY h3
  have h : At U g.method c below := by rw [hg]; exact X.here
  have hlocals9 : W9 + (maxL + 11) + (headSpec ws rm).room.locals ≤ R.locals := hlocals
  have happ : (headSpec ws rm).appliesLoose y e.platform (U.calling g mk a) = true :=
    Spec.appliesLoose_calling (g := g) h hdg hn hkY hinitY
      (X.room_calling (g := g) (R' := (headSpec ws rm).room) hsize hmY hcY hframes (by rw [hlY]; omega) h4 h5) h1
  obtain ⟨mid, hmid⟩ := h.above
  have hfr : (U.setTop g).frames = (.java g :: mid) ++ below := by rw [State.frames_setTop' g h.top, hmid]; rfl
  obtain ⟨o, s₂, hsteps, -, hend, hq⟩ := Steps.callFree hM p X.admits X.cas X.clock (acts := []) hfr happ hPc trivial
  have hq' : vx_Q Qc XC mc ms free a (U.calling g mk a) o s₂ := hq
  rw [State.frames_setTop' g h.top] at hend
  obtain ⟨g₀, hg0⟩ := Option.isSome_iff_exists.mp h.top
  obtain ⟨r, hr⟩ := State.topJava?_eq_some.mp hg0
  have hr' : (({ U with heap := s₂.heap, slotsUsed := s₂.slotsUsed } : State).setVm s₂.vm).frames = .java g₀ :: r := hr
  rcases hq' with ⟨hqc, L, hfe, hL⟩ | ⟨q, rfl, E, ce, L, hx, hce, hcv, hcl, hW₂, hsm, hL⟩
  · obtain ⟨⟨v, rfl⟩, hW₂, e2, q2, q3, q4, q5, q6⟩ := id hfe
    have e3 : s₂ = ({ (U.calling g mk a).setFrames s₂.frames with heap := s₂.heap, slotsUsed := s₂.slotsUsed } : State).setVm s₂.vm := by
      have : s₂ = ({ s₂ with vm := (U.calling g mk a).vm } : State).setVm s₂.vm := rfl
      rw [e2] at this
      exact this
    obtain ⟨c₂, i₂, len₂, hc₂, hd₂, hf₂⟩ := hend
    have hW' : U.WarmedH s₂.vm := hW₂
    have hcc : c₂ = c := by
      have h1 : s₂.code? g.method = U.code? g.method := by
        rw [State.code?_eq, State.code?_eq, hW'.alike.method?]
      exact Option.some.inj (hc₂.symm.trans (h1.trans h.code))
    subst hcc
    have hlen : len₂ = len := by rw [hdg] at hd₂; cases hd₂; rfl
    subst hlen
    have hs₂ : s₂ = (({ U with heap := s₂.heap, slotsUsed := s₂.slotsUsed } : State).setVm s₂.vm).setTop { g with pc := g.pc + len₂, stack := v.toList ++ g.stack } := by
      refine e3.trans ?_
      rw [hf₂, State.calling_eq h.top, State.setFrames_setFrames, State.setTop_of_frames _ hr', hr]
      rfl
    have hsame : U.sameButNew ({ U with heap := s₂.heap, slotsUsed := s₂.slotsUsed } : State) L mc ms := by
      refine ⟨?_, q2, q3, q4, q5, q6⟩
      obtain ⟨t, ht, -⟩ := State.frames_cons hr
      show ({ U with heap := s₂.heap, slotsUsed := s₂.slotsUsed } : State) = { U.setFrames U.frames with heap := s₂.heap, slotsUsed := s₂.slotsUsed }
      rw [State.setFrames_self ht]
    subst hg
    refine Or.inl ⟨v, ⟨(({ U with heap := s₂.heap, slotsUsed := s₂.slotsUsed } : State).setVm s₂.vm), Ls ++ L, c0 + mc, s0 + ms⟩,
      ⟨X.admits, X.cas, X.clock, X.frames, X.room, X.hears, X.method, X.code, (X.here.setHeapUsed s₂.heap s₂.slotsUsed).setVm hW'.alike, X.tail, State.WarmedH.trans X.warmed hW', X.limits, X.bytes, X.same.trans (hsame.setVm s.vm)⟩,
      ⟨g, mk, s₂, L, rfl, rfl, hqc, rfl, hL, rfl, rfl⟩, ?_⟩
    show Steps p.tables e below _ ((({ U with heap := s₂.heap, slotsUsed := s₂.slotsUsed } : State).setVm s₂.vm).setTop { g with pc := g.pc + len₂, stack := v.toList ++ g.stack })
    rw [← hs₂]
    exact hsteps
  · obtain ⟨e2, q2, q3, q4, q5, q6⟩ := id hsm
    have e3 : s₂ = ({ (U.calling g mk a).setFrames s₂.frames with heap := s₂.heap, slotsUsed := s₂.slotsUsed } : State).setVm s₂.vm := by
      have : s₂ = ({ s₂ with vm := (U.calling g mk a).vm } : State).setVm s₂.vm := rfl
      rw [e2] at this
      exact this
    have hf₂ : s₂.frames = .throwing q :: .java g :: U.frames.tail := hend
    have hW' : U.WarmedH s₂.vm := hW₂
    have hs₂ : s₂ = ((({ U with heap := s₂.heap, slotsUsed := s₂.slotsUsed } : State).setVm s₂.vm).setTop g).pushFrame (.throwing q) := by
      refine e3.trans ?_
      rw [hf₂, State.calling_eq h.top, State.setFrames_setFrames, State.pushFrame, State.frames_setTop _ hr', State.setTop_of_frames _ hr', State.setFrames_setFrames, hr]
      rfl
    have hsame : U.sameButNew ({ U with heap := s₂.heap, slotsUsed := s₂.slotsUsed } : State) L mc ms := by
      refine ⟨?_, q2, q3, q4, q5, q6⟩
      obtain ⟨t, ht, -⟩ := State.frames_cons hr
      show ({ U with heap := s₂.heap, slotsUsed := s₂.slotsUsed } : State) = { U.setFrames U.frames with heap := s₂.heap, slotsUsed := s₂.slotsUsed }
      rw [State.setFrames_self ht]
    subst hg
    refine Or.inr ⟨q, ⟨(({ U with heap := s₂.heap, slotsUsed := s₂.slotsUsed } : State).setVm s₂.vm), Ls ++ L, c0 + mc, s0 + ms⟩,
      ⟨X.admits, X.cas, X.clock, X.frames, X.room, X.hears, X.method, X.code, (X.here.setHeapUsed s₂.heap s₂.slotsUsed).setVm hW'.alike, X.tail, State.WarmedH.trans X.warmed hW', X.limits, X.bytes, X.same.trans (hsame.setVm s.vm)⟩,
      ⟨g, mk, s₂, L, E, ce, rfl, rfl, hx, hce, hcv, hcl, rfl, hL, rfl, rfl⟩, ?_⟩
    show Steps p.tables e below _ (((({ U with heap := s₂.heap, slotsUsed := s₂.slotsUsed } : State).setVm s₂.vm).setTop g).pushFrame (.throwing q))
    rw [← hs₂]
    exact hsteps
end
variable {p : Program} {l : Launch} {e : Env} {R : Room} {s : State} {m : MethodId} {args : Array Value} {below : List Frame} {meth : Method} {c : Code} {T : State} {H : Heap} {locs : List Loc} {cells slots : Nat}
theorem vx_callVX (X : Stand p l e R s m args below meth c T locs cells slots) (hexec : p.tables.exec = Jvm.exec) {own C : String} {index : Nat} {y : MethodName} {bytes : ByteArray} {maxL : Nat} {ret : Option FieldType} {hh : List (Nat × Nat × Nat × Nat)}
    (hown : s.vm.findClass own = some m.cls) (hlink : (Cond.methodLink own index y).before args s = true) (hinst : (Cond.instanceMethod y).before args s = true) (hsel : (Cond.selects C y y).before args s = true)
    (hcode : (Cond.codeWith y bytes maxL ret hh).before args s = true) (hy : y.cls ≠ "java/lang/invoke/MethodHandle" ∧ y.cls ≠ "java/lang/invoke/VarHandle")
    {W9 : Nat} {Pre : Pt → Array Value → Prop} {Post : Pt → Array Value → Option Value → Pt → Prop} {PostX : Pt → Array Value → Addr → Pt → Prop} (hK : vx_Back l R p e below s args y 3 W9 Pre Post PostX)
    {b : Addr} {cellB : Cell} (hcell : T.heap[b]? = some cellB) (hobj : cellB.vm.isStatics = false) (hcls : s.vm.findClass C = some cellB.cls)
    {g : JFrame} (hg : g.method = m) (hsize : g.locals.size = c.maxLocals) {argsL rest : List Value} (hlen : ∀ sig, parseMethodDescriptor y.desc = some sig → argsL.length = sig.parameters.length)
    (hstack : g.stack = argsL.reverse ++ .ref b :: rest) (hW : 2 * g.monitorRoom + (rest.map fun v => v.category).sum ≤ W9) (hdg : decode c.code g.pc = .ok (.invokevirtual index, 3))
    (hpre : ∀ vm₁, s.WarmedH vm₁ → Pre ⟨T.setVm vm₁, locs, cells, slots⟩ (Value.ref b :: argsL).toArray) :
    (∃ (v : Option Value) (vm₁ : Vm) (B : Pt), s.WarmedH vm₁ ∧ Stand p l e R s m args below meth c B.U B.locs B.cells B.slots ∧ Post ⟨T.setVm vm₁, locs, cells, slots⟩ (Value.ref b :: argsL).toArray v B ∧
      ∀ target, Steps p.tables e below (B.U.setTop { g with pc := g.pc + 3, stack := v.toList ++ rest }) target → Steps p.tables e below (T.setTop g) target) ∨
    (∃ (q : Addr) (vm₁ : Vm) (B : Pt), s.WarmedH vm₁ ∧ Stand p l e R s m args below meth c B.U B.locs B.cells B.slots ∧ PostX ⟨T.setVm vm₁, locs, cells, slots⟩ (Value.ref b :: argsL).toArray q B ∧
      Steps p.tables e below (T.setTop g) ((B.U.setTop { g with stack := rest }).pushFrame (.throwing q))) := by
  obtain ⟨mk, methM, hnamed, hmethM, hstM, habM⟩ := Cond.instanceMethod_spec hinst
  obtain ⟨m8, methM', cM, hn8, hmethM', -, -, -, -, -, -, hsigM⟩ := Cond.codeWith_spec hcode
  cases Option.some.inj (hn8.symm.trans hnamed)
  cases hmethM.symm.trans hmethM'
  obtain ⟨c2, r2, m2, q1, q2, q3, q4, kP, hkP, hkPi⟩ := Cond.selects_spec hsel
  cases hcls.symm.trans q1
  cases (State.methodFound?_of_named hnamed hy).symm.trans q2
  cases hnamed.symm.trans q3
  have hselP : selectMethod e.platform s.vm cellB.cls mk = .method mk := by rw [Launch.admits_selectMethod X.admits]; exact q4
  obtain ⟨vm₁, X₁, hstep₁⟩ := X.invokevirtual hexec hown hlink hnamed hmethM hstM hkP hkPi hy (a := b) (cell := cellB) hcell
    (fun z h => by rw [h] at hobj; cases hobj) hselP hmethM habM hkP hkPi (g := g) hg (argsL := argsL) (rest := rest) (hlen _ hsigM) hstack hdg
  rcases hK m meth c ⟨T.setVm vm₁, locs, cells, slots⟩ { g with stack := rest } (.invokevirtual index) mk (Value.ref b :: argsL).toArray X₁ hg hsize hdg hW (X₁.named hnamed) (hpre vm₁ X₁.warmed) with ⟨v, B, X', hpost, hsteps⟩ | ⟨q, B, X', hpost, hsteps⟩
  · exact Or.inl ⟨v, vm₁, B, X₁.warmed, X', hpost, fun target h => hstep₁ _ fun acts => by rw [doInvoke_state]; exact hsteps.trans h⟩
  · exact Or.inr ⟨q, vm₁, B, X₁.warmed, X', hpost, hstep₁ _ fun acts => by rw [doInvoke_state]; exact hsteps⟩
theorem vx_callSX (X : Stand p l e R s m args below meth c T locs cells slots) (hexec : p.tables.exec = Jvm.exec) {own : String} {index : Nat} {y : MethodName} {bytes : ByteArray} {maxL : Nat} {ret : Option FieldType} {hh : List (Nat × Nat × Nat × Nat)}
    (hown : s.vm.findClass own = some m.cls) (hlink : (Cond.methodLink own index y).before args s = true) (hstat : (Cond.static y).before args s = true) (hinit : (Cond.initialized y.cls).before args s = true)
    (hcode : (Cond.codeWith y bytes maxL ret hh).before args s = true) (hy : y.cls ≠ "java/lang/invoke/MethodHandle" ∧ y.cls ≠ "java/lang/invoke/VarHandle")
    {W9 : Nat} {Pre : Pt → Array Value → Prop} {Post : Pt → Array Value → Option Value → Pt → Prop} {PostX : Pt → Array Value → Addr → Pt → Prop} (hK : vx_Back l R p e below s args y 3 W9 Pre Post PostX)
    {g : JFrame} (hg : g.method = m) (hsize : g.locals.size = c.maxLocals) {argsL rest : List Value} (hlen : ∀ sig, parseMethodDescriptor y.desc = some sig → argsL.length = sig.parameters.length)
    (hstack : g.stack = argsL.reverse ++ rest) (hW : 2 * g.monitorRoom + (rest.map fun v => v.category).sum ≤ W9) (hdg : decode c.code g.pc = .ok (.invokestatic index, 3))
    (hpre : ∀ vm₁, s.WarmedH vm₁ → Pre ⟨T.setVm vm₁, locs, cells, slots⟩ argsL.toArray) :
    (∃ (v : Option Value) (vm₁ : Vm) (B : Pt), s.WarmedH vm₁ ∧ Stand p l e R s m args below meth c B.U B.locs B.cells B.slots ∧ Post ⟨T.setVm vm₁, locs, cells, slots⟩ argsL.toArray v B ∧
      ∀ target, Steps p.tables e below (B.U.setTop { g with pc := g.pc + 3, stack := v.toList ++ rest }) target → Steps p.tables e below (T.setTop g) target) ∨
    (∃ (q : Addr) (vm₁ : Vm) (B : Pt), s.WarmedH vm₁ ∧ Stand p l e R s m args below meth c B.U B.locs B.cells B.slots ∧ PostX ⟨T.setVm vm₁, locs, cells, slots⟩ argsL.toArray q B ∧
      Steps p.tables e below (T.setTop g) ((B.U.setTop { g with stack := rest }).pushFrame (.throwing q))) := by
  obtain ⟨mk, methM, cM, hnamed, hmethM, -, -, -, -, -, -, hsigM⟩ := Cond.codeWith_spec hcode
  have hstatic : methM.isStatic = true := Cond.static_spec hnamed hmethM hstat
  obtain ⟨kP, hkP, -⟩ := className_of_methodNamed hnamed
  have hinitP : kP.init = .initialized := Cond.initialized_spec (findClass_of_methodNamed hnamed) hkP hinit
  obtain ⟨vm₁, X₁, hstep₁⟩ := X.invokestatic hexec hown hlink hnamed hmethM hstatic hkP hinitP hy (g := g) hg (argsL := argsL) (rest := rest) (hlen _ hsigM) hstack hdg
  rcases hK m meth c ⟨T.setVm vm₁, locs, cells, slots⟩ { g with stack := rest } (.invokestatic index) mk argsL.toArray X₁ hg hsize hdg hW (X₁.named hnamed) (hpre vm₁ X₁.warmed) with ⟨v, B, X', hpost, hsteps⟩ | ⟨q, B, X', hpost, hsteps⟩
  · exact Or.inl ⟨v, vm₁, B, X₁.warmed, X', hpost, fun target h => hstep₁ _ fun acts => by rw [doInvoke_state]; exact hsteps.trans h⟩
  · exact Or.inr ⟨q, vm₁, B, X₁.warmed, X', hpost, hstep₁ _ fun acts => by rw [doInvoke_state]; exact hsteps⟩
theorem vx_callVW (X : Stand p l e R s m args below meth c T locs cells slots) (hexec : p.tables.exec = Jvm.exec) {own C : String} {index : Nat} {y : MethodName} {bytes : ByteArray} {maxL : Nat} {ret : Option FieldType} {hh : List (Nat × Nat × Nat × Nat)}
    (hown : s.vm.findClass own = some m.cls) (hlink : (Cond.methodLink own index y).before args s = true) (hinst : (Cond.instanceMethod y).before args s = true) (hsel : (Cond.selects C y y).before args s = true)
    (hcode : (Cond.codeWith y bytes maxL ret hh).before args s = true) (hy : y.cls ≠ "java/lang/invoke/MethodHandle" ∧ y.cls ≠ "java/lang/invoke/VarHandle")
    {W9 : Nat} {Pre : Pt → Array Value → Prop} {Post : Pt → Array Value → Option Value → Pt → Prop} (hK : Back l R p e below s args y 3 W9 Pre Post)
    {b : Addr} {cellB : Cell} (hcell : T.heap[b]? = some cellB) (hobj : cellB.vm.isStatics = false) (hcls : s.vm.findClass C = some cellB.cls)
    {g : JFrame} (hg : g.method = m) (hsize : g.locals.size = c.maxLocals) {argsL rest : List Value} (hlen : ∀ sig, parseMethodDescriptor y.desc = some sig → argsL.length = sig.parameters.length)
    (hstack : g.stack = argsL.reverse ++ .ref b :: rest) (hW : 2 * g.monitorRoom + (rest.map fun v => v.category).sum ≤ W9) (hdg : decode c.code g.pc = .ok (.invokevirtual index, 3))
    (hpre : ∀ vm₁, s.WarmedH vm₁ → Pre ⟨T.setVm vm₁, locs, cells, slots⟩ (Value.ref b :: argsL).toArray) :
    ∃ (v : Option Value) (vm₁ : Vm) (B : Pt), s.WarmedH vm₁ ∧ Stand p l e R s m args below meth c B.U B.locs B.cells B.slots ∧ Post ⟨T.setVm vm₁, locs, cells, slots⟩ (Value.ref b :: argsL).toArray v B ∧
      ∀ target, Steps p.tables e below (B.U.setTop { g with pc := g.pc + 3, stack := v.toList ++ rest }) target → Steps p.tables e below (T.setTop g) target := by
  obtain ⟨mk, methM, hnamed, hmethM, hstM, habM⟩ := Cond.instanceMethod_spec hinst
  obtain ⟨m8, methM', cM, hn8, hmethM', -, -, -, -, -, -, hsigM⟩ := Cond.codeWith_spec hcode
  cases Option.some.inj (hn8.symm.trans hnamed)
  cases hmethM.symm.trans hmethM'
  obtain ⟨c2, r2, m2, q1, q2, q3, q4, kP, hkP, hkPi⟩ := Cond.selects_spec hsel
  cases hcls.symm.trans q1
  cases (State.methodFound?_of_named hnamed hy).symm.trans q2
  cases hnamed.symm.trans q3
  have hselP : selectMethod e.platform s.vm cellB.cls mk = .method mk := by rw [Launch.admits_selectMethod X.admits]; exact q4
  obtain ⟨vm₁, X₁, hstep₁⟩ := X.invokevirtual hexec hown hlink hnamed hmethM hstM hkP hkPi hy (a := b) (cell := cellB) hcell
    (fun z h => by rw [h] at hobj; cases hobj) hselP hmethM habM hkP hkPi (g := g) hg (argsL := argsL) (rest := rest) (hlen _ hsigM) hstack hdg
  obtain ⟨v, B, X', hpost, hsteps⟩ := hK m meth c ⟨T.setVm vm₁, locs, cells, slots⟩ { g with stack := rest } (.invokevirtual index) mk (Value.ref b :: argsL).toArray X₁ hg hsize hdg hW (X₁.named hnamed) (hpre vm₁ X₁.warmed)
  exact ⟨v, vm₁, B, X₁.warmed, X', hpost, fun target h => hstep₁ _ fun acts => by rw [doInvoke_state]; exact hsteps.trans h⟩
abbrev vx_CVW (R : Room) (s : State) (args : Array Value) (own C : String) (index : Nat) (y : MethodName) (bytes : ByteArray) (maxL : Nat) (ret : Option FieldType) (hh : List (Nat × Nat × Nat × Nat)) (ws : List Cond) (rm : Room) (mc ms n : Nat) : Prop :=
  (rm.cells = mc ∧ rm.slots = ms ∧ rm.frames + 1 ≤ R.frames ∧ 8 + (maxL + 11) + rm.locals ≤ R.locals ∧ (∀ w ∈ ws, ∀ (a' : Array Value) (U : State), s.WarmedH U.vm → w.before a' U = true) ∧ Cond.codeWith y bytes maxL ret hh ∈ ws) ∧
  (Cond.codeWith y bytes maxL ret hh).before args s = true ∧ (Cond.initialized y.cls).before args s = true ∧ (y.cls ≠ "java/lang/invoke/MethodHandle" ∧ y.cls ≠ "java/lang/invoke/VarHandle") ∧
  (∀ sig, parseMethodDescriptor y.desc = some sig → n = sig.parameters.length) ∧ (Cond.methodLink own index y).before args s = true ∧ (Cond.instanceMethod y).before args s = true ∧ (Cond.selects C y y).before args s = true
theorem vx_cwVW {own C : String} {index maxL mc ms : Nat} {y : MethodName} {bytes : ByteArray} {ret : Option FieldType} {hh : List (Nat × Nat × Nat × Nat)} {Ts ws ws' : List Cond} {rm : Room} (n : Nat) (ht : ∀ w ∈ Ts, w.before args s = true) (hT : GoodIn Ts (wsV own index C y ws)) (hw : ws = Cond.codeWith y bytes maxL ret hh :: ws') (hrc : rm.cells = mc) (hrs : rm.slots = ms)
    (hd : y.cls = C ∧ y.cls ≠ "java/lang/invoke/MethodHandle" ∧ y.cls ≠ "java/lang/invoke/VarHandle" ∧ (parseMethodDescriptor y.desc).map (fun d => d.parameters.length) = some n) (hR : rm.frames + 1 ≤ R.frames ∧ 8 + (maxL + 11) + rm.locals ≤ R.locals) :
    vx_CVW R s args own C index y bytes maxL ret hh ws rm mc ms n := by
  obtain ⟨hC, hd⟩ := hd
  subst hC
  have ok : ∀ w ∈ wsV own index y.cls y ws, w.before args s = true := fun w h => ht w (hT w h).1
  have hG : GoodIn Ts ws := fun w h => hT w (by unfold wsV; exact List.mem_append_right _ h)
  have hc : Cond.codeWith y bytes maxL ret hh ∈ ws := by rw [hw]; exact List.mem_cons_self
  refine ⟨⟨hrc, hrs, hR.1, hR.2, pay_in ht hG, hc⟩, ht _ (hG _ hc).1, ok _ (by simp [wsV]), ⟨hd.1, hd.2.1⟩, fun sig h => ?_, ok _ (by simp [wsV]), ok _ (by simp [wsV]), ok _ (by simp [wsV])⟩
  have h2 := hd.2.2
  rw [h] at h2
  exact (Option.some.inj h2).symm
theorem vx_runVW {y : MethodName} {bytes cc : ByteArray} {maxL nL mc ms n index : Nat} {ret : Option FieldType} {hh : List (Nat × Nat × Nat × Nat)} {ws : List Cond} {rm : Room} {Pc : Array Value → State → Prop} {Qc : Array Value → State → Outcome → State → Prop} {free : Addr → Prop} {Ts : List Cond} {own C : String} {b : Addr} {As rest : List Value} {g : JFrame}
    (S : CallFix p m c cc nL s args Ts own) (hM : Met l y ws rm Pc Qc mc ms free) (cw : vx_CVW R s args own C index y bytes maxL ret hh ws rm mc ms n) (hp : PreV s H C b Pc As)
    (hg : g.method = m) (hn : As.length = n) (hsize : g.locals.size = nL) (hstack : g.stack = As.reverse ++ .ref b :: rest) (hW : 2 * g.monitorRoom + (rest.map fun v => v.category).sum ≤ 8) (hdg : decode cc g.pc = .ok (.invokevirtual index, 3)) (hf : cells + mc ≤ R.cells ∧ slots + ms ≤ R.slots) :
    va_Run p l e R s m args below meth c H locs cells slots mc ms g rest (Qc (Value.ref b :: As).toArray) free := by
  obtain ⟨⟨hrc, hrs, hfr, hlo, hws, hcw⟩, hcode, hini, hy, hlen, hl, hin, hse⟩ := cw
  have hK : Back l R p e below s args y 3 8 (PreOf R mc ms Pc) (PostOf Qc mc ms free) := va_backW (hh := hh) (bytes := bytes) (maxL := maxL) (ret := ret) hM hp.1 hrc hrs hfr hlo hws hcw (fun a' U hW => word_at hW (Or.inl (by first | rfl | simp [Cond.onTables, Cond.keeps, Cond.steady])) hini)
  obtain ⟨hx, hb, hml, ho, -⟩ := S
  obtain ⟨-, ⟨cellB, hcB, hoB, hclB⟩, hPc⟩ := hp
  intro T hT X
  obtain ⟨v, vm₁, ⟨U', l2, c2, s2⟩, hW₁, X', ⟨g', mk, t, L, e1, e2, hq, h1, hL, h2, h3⟩, st⟩ := vx_callVW X hx (C := C) (hh := hh) (bytes := bytes) (maxL := maxL) (ret := ret) ho hl hin hse hcode hy hK (by rw [hT]; exact hcB) hoB hclB hg (hsize.trans hml.symm) (argsL := As) (rest := rest) (fun sig h => hn.trans (hlen sig h)) hstack hW (by rw [hb]; exact hdg)
    (fun vm₁ hW₁ => ⟨hf.1, hf.2, hPc (T.setVm vm₁) hT hW₁⟩)
  dsimp only [Pt.U, Pt.locs, Pt.cells, Pt.slots] at X' e1 e2 h1 h2 h3 st
  subst h1; subst h2; subst h3
  exact ⟨v, (T.setVm vm₁).calling g' mk (Value.ref b :: As).toArray, t, U', L, hT, X', hL, e1, e2, hq, st⟩
section
variable {y : MethodName} {bytes cc : ByteArray} {maxL nL mc ms n index : Nat} {ret : Option FieldType} {ws : List Cond} {rm : Room} {Pc : Array Value → State → Prop} {Qc : Array Value → State → Outcome → State → Prop} {XC : String → State → State → Prop} {free : Addr → Prop} {Ts : List Cond} {own C : String} {b : Addr} {As rest : List Value} {g : JFrame}
theorem vx_runVX {hh : List (Nat × Nat × Nat × Nat)} (S : CallFix p m c cc nL s args Ts own) (hM : vx_Met l y ws rm Pc Qc XC mc ms free) (cw : vx_CVW R s args own C index y bytes maxL ret hh ws rm mc ms n) (hp : PreV s H C b Pc As)
    (hg : g.method = m) (hn : As.length = n) (hsize : g.locals.size = nL) (hstack : g.stack = As.reverse ++ .ref b :: rest) (hW : 2 * g.monitorRoom + (rest.map fun v => v.category).sum ≤ 8) (hdg : decode cc g.pc = .ok (.invokevirtual index, 3)) (hf : cells + mc ≤ R.cells ∧ slots + ms ≤ R.slots) :
    vx_Run p l e R s m args below meth c H locs cells slots mc ms g rest (Qc (Value.ref b :: As).toArray) XC free := by
  obtain ⟨⟨hrc, hrs, hfr, hlo, hws, hcw⟩, hcode, hini, hy, hlen, hl, hin, hse⟩ := cw
  have hK : vx_Back l R p e below s args y 3 8 (PreOf R mc ms Pc) (PostOf Qc mc ms free) (vx_Post XC mc ms free) := vx_backW (hh := hh) (bytes := bytes) (maxL := maxL) (ret := ret) hM hp.1 hrc hrs hfr hlo hws hcw (fun a' U hW => word_at hW (Or.inl (by first | rfl | simp [Cond.onTables, Cond.keeps, Cond.steady])) hini)
  obtain ⟨hx, hb, hml, ho, -⟩ := S
  obtain ⟨-, ⟨cellB, hcB, hoB, hclB⟩, hPc⟩ := hp
  intro T hT X
  rcases vx_callVX X hx (C := C) (hh := hh) (bytes := bytes) (maxL := maxL) (ret := ret) ho hl hin hse hcode hy hK (by rw [hT]; exact hcB) hoB hclB hg (hsize.trans hml.symm) (argsL := As) (rest := rest) (fun sig h => hn.trans (hlen sig h)) hstack hW (by rw [hb]; exact hdg)
    (fun vm₁ hW₁ => ⟨hf.1, hf.2, hPc (T.setVm vm₁) hT hW₁⟩) with ⟨v, vm₁, ⟨U', l2, c2, s2⟩, hW₁, X', ⟨g', mk, t, L, e1, e2, hq, h1, hL, h2, h3⟩, st⟩ | ⟨q, vm₁, ⟨U', l2, c2, s2⟩, hW₁, X', ⟨g', mk, t, L, E, ce, e1, e2, hq, hce, hcv, hcl, h1, hL, h2, h3⟩, st⟩
  · dsimp only [Pt.U, Pt.locs, Pt.cells, Pt.slots] at X' e1 e2 h1 h2 h3 st
    subst h1; subst h2; subst h3
    exact Or.inl ⟨v, (T.setVm vm₁).calling g' mk (Value.ref b :: As).toArray, t, U', L, hT, X', hL, e1, e2, hq, st⟩
  · dsimp only [Pt.U, Pt.locs, Pt.cells, Pt.slots] at X' e1 e2 h1 h2 h3 st hcl
    subst h1; subst h2; subst h3
    exact Or.inr ⟨q, (T.setVm vm₁).calling g' mk (Value.ref b :: As).toArray, t, U', L, E, ce, hT, X', hL, e1, e2, hq, hce, hcv, vx_cls hW₁ hcl, st⟩
theorem vx_runSX {hh : List (Nat × Nat × Nat × Nat)} (S : CallFix p m c cc nL s args Ts own) (hM : vx_Met l y ws rm Pc Qc XC mc ms free) (cw : vx_CSW R s args own index y bytes maxL ret hh ws rm mc ms n) (hp : PreS s H Pc As)
    (hg : g.method = m) (hn : As.length = n) (hsize : g.locals.size = nL) (hstack : g.stack = As.reverse ++ rest) (hW : 2 * g.monitorRoom + (rest.map fun v => v.category).sum ≤ 8) (hdg : decode cc g.pc = .ok (.invokestatic index, 3)) (hf : cells + mc ≤ R.cells ∧ slots + ms ≤ R.slots) :
    vx_Run p l e R s m args below meth c H locs cells slots mc ms g rest (Qc As.toArray) XC free := by
  obtain ⟨⟨hrc, hrs, hfr, hlo, hws, hcw⟩, hcode, hini, hy, hlen, hl, hstt⟩ := cw
  have hK : vx_Back l R p e below s args y 3 8 (PreOf R mc ms Pc) (PostOf Qc mc ms free) (vx_Post XC mc ms free) := vx_backW (hh := hh) (bytes := bytes) (maxL := maxL) (ret := ret) hM hp.1 hrc hrs hfr hlo hws hcw (fun a' U hW => word_at hW (Or.inl (by first | rfl | simp [Cond.onTables, Cond.keeps, Cond.steady])) hini)
  obtain ⟨hx, hb, hml, ho, -⟩ := S
  intro T hT X
  rcases vx_callSX X hx (hh := hh) (bytes := bytes) (maxL := maxL) (ret := ret) ho hl hstt hini hcode hy hK hg (hsize.trans hml.symm) (argsL := As) (rest := rest) (fun sig h => hn.trans (hlen sig h)) hstack hW (by rw [hb]; exact hdg)
    (fun vm₁ hW₁ => ⟨hf.1, hf.2, hp.2 (T.setVm vm₁) hT hW₁⟩) with ⟨v, vm₁, ⟨U', l2, c2, s2⟩, hW₁, X', ⟨g', mk, t, L, e1, e2, hq, h1, hL, h2, h3⟩, st⟩ | ⟨q, vm₁, ⟨U', l2, c2, s2⟩, hW₁, X', ⟨g', mk, t, L, E, ce, e1, e2, hq, hce, hcv, hcl, h1, hL, h2, h3⟩, st⟩
  · dsimp only [Pt.U, Pt.locs, Pt.cells, Pt.slots] at X' e1 e2 h1 h2 h3 st
    subst h1; subst h2; subst h3
    exact Or.inl ⟨v, (T.setVm vm₁).calling g' mk As.toArray, t, U', L, hT, X', hL, e1, e2, hq, st⟩
  · dsimp only [Pt.U, Pt.locs, Pt.cells, Pt.slots] at X' e1 e2 h1 h2 h3 st hcl
    subst h1; subst h2; subst h3
    exact Or.inr ⟨q, (T.setVm vm₁).calling g' mk As.toArray, t, U', L, E, ce, hT, X', hL, e1, e2, hq, hce, hcv, vx_cls hW₁ hcl, st⟩
end
end VXH
theorem vx_ofWH {l : Launch} {y : MethodName} {ws ws' : List Cond} {rm : Room} {Pc : Array Value → State → Prop} {Qc : Array Value → State → Outcome → State → Prop} {XC : String → State → State → Prop} {mc ms : Nat} {free : Addr → Prop} {cc : ByteArray} {maxL : Nat} {ret : Option FieldType} {hh : List (Nat × Nat × Nat × Nat)}
    (hy : plainName y.cls = true) (hw : ws = Cond.codeWith y cc maxL ret hh :: ws')
    (body : ∀ p e s m args below meth c s₁, BodyLoose p l y (headSpec ws rm) cc maxL ret e s m args below meth c s₁ → c.maxLocals = maxL → Pc args s →
      W p l e (headSpec ws rm).room s m args below meth c s.heap [] 0 0 (vx_MQ below Qc XC args s mc ms free) (entryFrame m args maxL)) : vx_Met l y ws rm Pc Qc XC mc ms free := by
  refine MetFree.of_bodyS (code := cc) (maxLocals := maxL) (ret := ret) hy ?_ ?_
  · intro args s m h hn
    obtain ⟨m9, meth, c, hn9, h1, h2, h3, h4, -, h5, h6, -⟩ := Cond.codeWith_spec (atoms_spec (ws := ws) h _ (by rw [hw]; exact List.mem_cons_self))
    cases hn.symm.trans hn9
    exact ⟨meth, c, h1, h2, h3, h4, h5, h6⟩
  · intro p e s m args below meth c s₁ B hml hP _
    have hh0 : s₁.heap = s.heap := by rw [B.state]; rfl
    obtain ⟨t, a1, o, b1, b2, b3⟩ := body p e s m args below meth c s₁ B hml hP s₁ hh0 (Stand.of_body B)
    exact ⟨t, o, a1, b1, b2, b3⟩
/-! ===== END ===== -/
end
section
/-! ===== BEGIN printed: names, fields, word lists, decode rows ===== -/
def RX0 : String := "ChoiceBoard$Constraint"
def TX0 : u_T := fun k => match k with
  | 0 => ("ChoiceBoard$Constraint", "weights", "[I", true)
  | 1 => ("ChoiceBoard$Constraint", "degree", "I", false)
  | _ => ("ChoiceBoard$Constraint", "given", "Z", false)
def tyX0 : Nat → FieldType := fun k => match k with
  | 0 => .array .int
  | 1 => .int
  | _ => .boolean
abbrev wsX00 : List Cond := u_ws RX0 TX0 3
theorem nmX0 : ∀ a, a < 3 → ∀ b, b < 3 → a ≠ b → (TX0 a).2.1 ≠ (TX0 b).2.1 := by decide +kernel
theorem tyX0_ok : ∀ k, k < 3 → parseFieldDescriptor (TX0 k).2.2.1 = some (tyX0 k) := by decide +kernel
abbrev cX0_init : ByteArray := prog_2_method_1_code
def yX0_init : MethodName := ⟨RX0, "<init>", "()V"⟩
abbrev cX0_become : ByteArray := prog_2_method_2_code
def yX0_become : MethodName := ⟨RX0, "become", "(LChoiceBoard$Constraint;)V"⟩
abbrev cX0_becomeAtLeast : ByteArray := prog_2_method_3_code
def yX0_becomeAtLeast : MethodName := ⟨RX0, "becomeAtLeast", "([II)V"⟩
abbrev cX0_becomeAtMost : ByteArray := prog_2_method_4_code
def yX0_becomeAtMost : MethodName := ⟨RX0, "becomeAtMost", "([II)V"⟩
abbrev cX0_normalize : ByteArray := prog_2_method_5_code
def yX0_normalize : MethodName := ⟨RX0, "normalize", "([III)V"⟩
abbrev cX0_becomeAxiom : ByteArray := prog_2_method_6_code
def yX0_becomeAxiom : MethodName := ⟨RX0, "becomeAxiom", "(IZ)V"⟩
abbrev cX0_becomeSum : ByteArray := prog_2_method_7_code
def yX0_becomeSum : MethodName := ⟨RX0, "becomeSum", "(LChoiceBoard$Constraint;LChoiceBoard$Constraint;)V"⟩
abbrev cX0_isOpposed : ByteArray := prog_2_method_8_code
def yX0_isOpposed : MethodName := ⟨RX0, "isOpposed", "(LChoiceBoard$Constraint;I)Z"⟩
abbrev cX0_becomeMultiple : ByteArray := prog_2_method_9_code
def yX0_becomeMultiple : MethodName := ⟨RX0, "becomeMultiple", "(LChoiceBoard$Constraint;I)V"⟩
abbrev cX0_divideRoundingUp : ByteArray := prog_2_method_10_code
def yX0_divideRoundingUp : MethodName := ⟨RX0, "divideRoundingUp", "(I)V"⟩
abbrev cX0_quotientRoundedUp : ByteArray := prog_2_method_11_code
def yX0_quotientRoundedUp : MethodName := ⟨RX0, "quotientRoundedUp", "(II)I"⟩
abbrev cX0_limitSizesToDegree : ByteArray := prog_2_method_12_code
def yX0_limitSizesToDegree : MethodName := ⟨RX0, "limitSizesToDegree", "()V"⟩
abbrev cX0_giveUp : ByteArray := prog_2_method_13_code
def yX0_giveUp : MethodName := ⟨RX0, "giveUp", "(I)V"⟩
abbrev cX0_turnToContrary : ByteArray := prog_2_method_14_code
def yX0_turnToContrary : MethodName := ⟨RX0, "turnToContrary", "()V"⟩
abbrev cX0_size : ByteArray := prog_2_method_15_code
def yX0_size : MethodName := ⟨RX0, "size", "(I)I"⟩
abbrev cX0_resize : ByteArray := prog_2_method_16_code
def yX0_resize : MethodName := ⟨RX0, "resize", "(II)V"⟩
abbrev cX0_sizeOfAll : ByteArray := prog_2_method_17_code
def yX0_sizeOfAll : MethodName := ⟨RX0, "sizeOfAll", "()I"⟩
abbrev cX0_weightOrDegree : ByteArray := prog_2_method_18_code
def yX0_weightOrDegree : MethodName := ⟨RX0, "weightOrDegree", "(I)I"⟩
abbrev cX0_isTooLarge : ByteArray := prog_2_method_19_code
def yX0_isTooLarge : MethodName := ⟨RX0, "isTooLarge", "()Z"⟩
abbrev cX0_isVoid : ByteArray := prog_2_method_20_code
def yX0_isVoid : MethodName := ⟨RX0, "isVoid", "()Z"⟩
abbrev cX0_isMetBy : ByteArray := prog_2_method_21_code
def yX0_isMetBy : MethodName := ⟨RX0, "isMetBy", "(I)Z"⟩
abbrev cX0_slack : ByteArray := prog_2_method_22_code
def yX0_slack : MethodName := ⟨RX0, "slack", "(II)I"⟩
abbrev cX0_countedTruth : ByteArray := prog_2_method_23_code
def yX0_countedTruth : MethodName := ⟨RX0, "countedTruth", "(I)I"⟩
abbrev cX0_forcedFrom : ByteArray := prog_2_method_24_code
def yX0_forcedFrom : MethodName := ⟨RX0, "forcedFrom", "(I)I"⟩
def RX1 : String := "ChoiceBoard"
def TX1 : u_T := fun k => match k with
  | 0 => ("ChoiceBoard", "draft", "[I", true)
  | 1 => ("ChoiceBoard", "objectiveFactors", "[I", true)
  | 2 => ("ChoiceBoard", "store", "[LChoiceBoard$Constraint;", true)
  | 3 => ("ChoiceBoard", "stored", "I", false)
  | 4 => ("ChoiceBoard", "stack", "[LChoiceBoard$Constraint;", true)
  | 5 => ("ChoiceBoard", "stacked", "I", false)
  | 6 => ("ChoiceBoard", "scratch", "LChoiceBoard$Constraint;", true)
  | 7 => ("ChoiceBoard", "taken", "Z", false)
  | 8 => ("ChoiceBoard", "bestValue", "I", false)
  | 9 => ("ChoiceBoard", "solved", "Z", false)
  | 10 => ("ChoiceBoard", "leastValue", "I", false)
  | _ => ("ChoiceBoard", "leastChoice", "I", false)
def tyX1 : Nat → FieldType := fun k => match k with
  | 0 => .array .int
  | 1 => .array .int
  | 2 => .array (.object "ChoiceBoard$Constraint")
  | 3 => .int
  | 4 => .array (.object "ChoiceBoard$Constraint")
  | 5 => .int
  | 6 => .object "ChoiceBoard$Constraint"
  | 7 => .boolean
  | 8 => .int
  | 9 => .boolean
  | 10 => .int
  | _ => .int
abbrev wsX10 : List Cond := u_ws RX1 TX1 12
theorem nmX1 : ∀ a, a < 12 → ∀ b, b < 12 → a ≠ b → (TX1 a).2.1 ≠ (TX1 b).2.1 := by decide +kernel
theorem tyX1_ok : ∀ k, k < 12 → parseFieldDescriptor (TX1 k).2.2.1 = some (tyX1 k) := by decide +kernel
abbrev cX1_init : ByteArray := prog_1_method_1_code
def yX1_init : MethodName := ⟨RX1, "<init>", "()V"⟩
abbrev cX1_term : ByteArray := prog_1_method_2_code
def yX1_term : MethodName := ⟨RX1, "term", "(II)V"⟩
abbrev cX1_clear : ByteArray := prog_1_method_3_code
def yX1_clear : MethodName := ⟨RX1, "clear", "()V"⟩
abbrev cX1_require : ByteArray := prog_1_method_4_code
def yX1_require : MethodName := ⟨RX1, "require", "(II)I"⟩
abbrev cX1_objective : ByteArray := prog_1_method_5_code
def yX1_objective : MethodName := ⟨RX1, "objective", "()V"⟩
abbrev cX1_constraints : ByteArray := prog_1_method_6_code
def yX1_constraints : MethodName := ⟨RX1, "constraints", "()I"⟩
abbrev cX1_constraint : ByteArray := prog_1_method_7_code
def yX1_constraint : MethodName := ⟨RX1, "constraint", "(II)I"⟩
abbrev cX1_close : ByteArray := prog_1_method_8_code
def yX1_close : MethodName := ⟨RX1, "close", "(II)I"⟩
abbrev cX1_load : ByteArray := prog_1_method_9_code
def yX1_load : MethodName := ⟨RX1, "load", "(I)V"⟩
abbrev cX1_axiom : ByteArray := prog_1_method_10_code
def yX1_axiom : MethodName := ⟨RX1, "axiom", "(IZ)V"⟩
abbrev cX1_add : ByteArray := prog_1_method_11_code
def yX1_add : MethodName := ⟨RX1, "add", "()V"⟩
abbrev cX1_times : ByteArray := prog_1_method_12_code
def yX1_times : MethodName := ⟨RX1, "times", "(I)V"⟩
abbrev cX1_divide : ByteArray := prog_1_method_13_code
def yX1_divide : MethodName := ⟨RX1, "divide", "(I)V"⟩
abbrev cX1_saturate : ByteArray := prog_1_method_14_code
def yX1_saturate : MethodName := ⟨RX1, "saturate", "()V"⟩
abbrev cX1_weaken : ByteArray := prog_1_method_15_code
def yX1_weaken : MethodName := ⟨RX1, "weaken", "(I)V"⟩
abbrev cX1_drop : ByteArray := prog_1_method_16_code
def yX1_drop : MethodName := ⟨RX1, "drop", "()V"⟩
abbrev cX1_top : ByteArray := prog_1_method_17_code
def yX1_top : MethodName := ⟨RX1, "top", "(I)I"⟩
abbrev cX1_learn : ByteArray := prog_1_method_18_code
def yX1_learn : MethodName := ⟨RX1, "learn", "()I"⟩
abbrev cX1_contradict : ByteArray := prog_1_method_19_code
def yX1_contradict : MethodName := ⟨RX1, "contradict", "(I)I"⟩
abbrev cX1_found : ByteArray := prog_1_method_20_code
def yX1_found : MethodName := ⟨RX1, "found", "(I)Z"⟩
abbrev cX1_verdict : ByteArray := prog_1_method_21_code
def yX1_verdict : MethodName := ⟨RX1, "verdict", "()I"⟩
abbrev cX1_best : ByteArray := prog_1_method_22_code
def yX1_best : MethodName := ⟨RX1, "best", "()I"⟩
abbrev cX1_solve : ByteArray := prog_1_method_23_code
def yX1_solve : MethodName := ⟨RX1, "solve", "()I"⟩
abbrev cX1_least : ByteArray := prog_1_method_24_code
def yX1_least : MethodName := ⟨RX1, "least", "()I"⟩
abbrev cX1_value : ByteArray := prog_1_method_25_code
def yX1_value : MethodName := ⟨RX1, "value", "(I)I"⟩
abbrev cX1_refuseFullStore : ByteArray := prog_1_method_26_code
def yX1_refuseFullStore : MethodName := ⟨RX1, "refuseFullStore", "()V"⟩
abbrev cX1_refuseFullStack : ByteArray := prog_1_method_27_code
def yX1_refuseFullStack : MethodName := ⟨RX1, "refuseFullStack", "()V"⟩
abbrev cX1_refuseEmptyStack : ByteArray := prog_1_method_28_code
def yX1_refuseEmptyStack : MethodName := ⟨RX1, "refuseEmptyStack", "()V"⟩
abbrev cX1_refuseTooLargeScratch : ByteArray := prog_1_method_29_code
def yX1_refuseTooLargeScratch : MethodName := ⟨RX1, "refuseTooLargeScratch", "()V"⟩
abbrev cX1_refuseUnsolved : ByteArray := prog_1_method_30_code
def yX1_refuseUnsolved : MethodName := ⟨RX1, "refuseUnsolved", "()V"⟩
abbrev cX1_isWithin : ByteArray := prog_1_method_31_code
def yX1_isWithin : MethodName := ⟨RX1, "isWithin", "(III)Z"⟩
abbrev cX1_isVariable : ByteArray := prog_1_method_32_code
def yX1_isVariable : MethodName := ⟨RX1, "isVariable", "(I)Z"⟩
abbrev cX1_isQuestion : ByteArray := prog_1_method_33_code
def yX1_isQuestion : MethodName := ⟨RX1, "isQuestion", "(I)Z"⟩
abbrev cX1_isChoice : ByteArray := prog_1_method_34_code
def yX1_isChoice : MethodName := ⟨RX1, "isChoice", "(I)Z"⟩
abbrev cX1_isStored : ByteArray := prog_1_method_35_code
def yX1_isStored : MethodName := ⟨RX1, "isStored", "(I)Z"⟩
abbrev cX1_isStoreFull : ByteArray := prog_1_method_36_code
def yX1_isStoreFull : MethodName := ⟨RX1, "isStoreFull", "()Z"⟩
abbrev cX1_keepNext : ByteArray := prog_1_method_37_code
def yX1_keepNext : MethodName := ⟨RX1, "keepNext", "(Z)I"⟩
abbrev cX1_meetsStore : ByteArray := prog_1_method_38_code
def yX1_meetsStore : MethodName := ⟨RX1, "meetsStore", "(IZ)Z"⟩
abbrev cX1_hasVoid : ByteArray := prog_1_method_39_code
def yX1_hasVoid : MethodName := ⟨RX1, "hasVoid", "()Z"⟩
abbrev cX1_closed : ByteArray := prog_1_method_40_code
def yX1_closed : MethodName := ⟨RX1, "closed", "(II)I"⟩
abbrev cX1_hasObjective : ByteArray := prog_1_method_41_code
def yX1_hasObjective : MethodName := ⟨RX1, "hasObjective", "()Z"⟩
abbrev cX1_objectiveValue : ByteArray := prog_1_method_42_code
def yX1_objectiveValue : MethodName := ⟨RX1, "objectiveValue", "(I)I"⟩
abbrev cX1_isPreferred : ByteArray := prog_1_method_43_code
def yX1_isPreferred : MethodName := ⟨RX1, "isPreferred", "(II)Z"⟩
abbrev cX1_comesBefore : ByteArray := prog_1_method_44_code
def yX1_comesBefore : MethodName := ⟨RX1, "comesBefore", "(II)Z"⟩
abbrev cX1_bit : ByteArray := prog_1_method_45_code
def yX1_bit : MethodName := ⟨RX1, "bit", "(II)I"⟩
def RX2 : String := "ChoiceBoardModel"
def TX2 : u_T := fun k => match k with
  | 0 => ("ChoiceBoardModel", "thrown", "I", false)
  | 1 => ("ChoiceBoardModel", "cell", "[I", true)
  | 2 => ("ChoiceBoardModel", "given", "[Z", true)
  | 3 => ("ChoiceBoardModel", "stored", "I", false)
  | 4 => ("ChoiceBoardModel", "stacked", "I", false)
  | 5 => ("ChoiceBoardModel", "draft", "[I", true)
  | 6 => ("ChoiceBoardModel", "goal", "[I", true)
  | 7 => ("ChoiceBoardModel", "taken", "Z", false)
  | 8 => ("ChoiceBoardModel", "best", "I", false)
  | 9 => ("ChoiceBoardModel", "solved", "Z", false)
  | 10 => ("ChoiceBoardModel", "least", "I", false)
  | 11 => ("ChoiceBoardModel", "answer", "I", false)
  | _ => ("ChoiceBoardModel", "state", "[I", true)
def tyX2 : Nat → FieldType := fun k => match k with
  | 0 => .int
  | 1 => .array .int
  | 2 => .array .boolean
  | 3 => .int
  | 4 => .int
  | 5 => .array .int
  | 6 => .array .int
  | 7 => .boolean
  | 8 => .int
  | 9 => .boolean
  | 10 => .int
  | 11 => .int
  | _ => .array .int
abbrev wsX20 : List Cond := u_ws RX2 TX2 13
theorem nmX2 : ∀ a, a < 13 → ∀ b, b < 13 → a ≠ b → (TX2 a).2.1 ≠ (TX2 b).2.1 := by decide +kernel
theorem tyX2_ok : ∀ k, k < 13 → parseFieldDescriptor (TX2 k).2.2.1 = some (tyX2 k) := by decide +kernel
abbrev cX2_init : ByteArray := prog_4_method_1_code
def yX2_init : MethodName := ⟨RX2, "<init>", "()V"⟩
abbrev cX2_thrown : ByteArray := prog_4_method_2_code
def yX2_thrown : MethodName := ⟨RX2, "thrown", "()I"⟩
abbrev cX2_outside : ByteArray := prog_4_method_3_code
def yX2_outside : MethodName := ⟨RX2, "outside", "(III)Z"⟩
abbrev cX2_fails : ByteArray := prog_4_method_4_code
def yX2_fails : MethodName := ⟨RX2, "fails", "(ZZZ)Z"⟩
abbrev cX2_size : ByteArray := prog_4_method_5_code
def yX2_size : MethodName := ⟨RX2, "size", "(I)I"⟩
abbrev cX2_sizes : ByteArray := prog_4_method_6_code
def yX2_sizes : MethodName := ⟨RX2, "sizes", "(I)I"⟩
abbrev cX2_copy : ByteArray := prog_4_method_7_code
def yX2_copy : MethodName := ⟨RX2, "copy", "(II)V"⟩
abbrev cX2_term : ByteArray := prog_4_method_8_code
def yX2_term : MethodName := ⟨RX2, "term", "(II)V"⟩
abbrev cX2_empty : ByteArray := prog_4_method_9_code
def yX2_empty : MethodName := ⟨RX2, "empty", "()V"⟩
abbrev cX2_clear : ByteArray := prog_4_method_10_code
def yX2_clear : MethodName := ⟨RX2, "clear", "()V"⟩
abbrev cX2_normalize : ByteArray := prog_4_method_11_code
def yX2_normalize : MethodName := ⟨RX2, "normalize", "(ZII)V"⟩
abbrev cX2_keep : ByteArray := prog_4_method_12_code
def yX2_keep : MethodName := ⟨RX2, "keep", "(IZ)I"⟩
abbrev cX2_require : ByteArray := prog_4_method_13_code
def yX2_require : MethodName := ⟨RX2, "require", "(II)I"⟩
abbrev cX2_objective : ByteArray := prog_4_method_14_code
def yX2_objective : MethodName := ⟨RX2, "objective", "()V"⟩
abbrev cX2_constraints : ByteArray := prog_4_method_15_code
def yX2_constraints : MethodName := ⟨RX2, "constraints", "()I"⟩
abbrev cX2_constraint : ByteArray := prog_4_method_16_code
def yX2_constraint : MethodName := ⟨RX2, "constraint", "(II)I"⟩
abbrev cX2_slack : ByteArray := prog_4_method_17_code
def yX2_slack : MethodName := ⟨RX2, "slack", "(I)I"⟩
abbrev cX2_tighten : ByteArray := prog_4_method_18_code
def yX2_tighten : MethodName := ⟨RX2, "tighten", "(I)I"⟩
abbrev cX2_closes : ByteArray := prog_4_method_19_code
def yX2_closes : MethodName := ⟨RX2, "closes", "(Z)Z"⟩
abbrev cX2_close : ByteArray := prog_4_method_20_code
def yX2_close : MethodName := ⟨RX2, "close", "(II)I"⟩
abbrev cX2_upper : ByteArray := prog_4_method_21_code
def yX2_upper : MethodName := ⟨RX2, "upper", "()I"⟩
abbrev cX2_load : ByteArray := prog_4_method_22_code
def yX2_load : MethodName := ⟨RX2, "load", "(I)V"⟩
abbrev cX2_axiom : ByteArray := prog_4_method_23_code
def yX2_axiom : MethodName := ⟨RX2, "axiom", "(IZ)V"⟩
abbrev cX2_large : ByteArray := prog_4_method_24_code
def yX2_large : MethodName := ⟨RX2, "large", "(I)Z"⟩
abbrev cX2_add : ByteArray := prog_4_method_25_code
def yX2_add : MethodName := ⟨RX2, "add", "()V"⟩
abbrev cX2_times : ByteArray := prog_4_method_26_code
def yX2_times : MethodName := ⟨RX2, "times", "(I)V"⟩
abbrev cX2_part : ByteArray := prog_4_method_27_code
def yX2_part : MethodName := ⟨RX2, "part", "(II)I"⟩
abbrev cX2_divide : ByteArray := prog_4_method_28_code
def yX2_divide : MethodName := ⟨RX2, "divide", "(I)V"⟩
abbrev cX2_saturate : ByteArray := prog_4_method_29_code
def yX2_saturate : MethodName := ⟨RX2, "saturate", "()V"⟩
abbrev cX2_weaken : ByteArray := prog_4_method_30_code
def yX2_weaken : MethodName := ⟨RX2, "weaken", "(I)V"⟩
abbrev cX2_drop : ByteArray := prog_4_method_31_code
def yX2_drop : MethodName := ⟨RX2, "drop", "()V"⟩
abbrev cX2_top : ByteArray := prog_4_method_32_code
def yX2_top : MethodName := ⟨RX2, "top", "(I)I"⟩
abbrev cX2_learn : ByteArray := prog_4_method_33_code
def yX2_learn : MethodName := ⟨RX2, "learn", "()I"⟩
abbrev cX2_contradict : ByteArray := prog_4_method_34_code
def yX2_contradict : MethodName := ⟨RX2, "contradict", "(I)I"⟩
abbrev cX2_meets : ByteArray := prog_4_method_35_code
def yX2_meets : MethodName := ⟨RX2, "meets", "(II)Z"⟩
abbrev cX2_worth : ByteArray := prog_4_method_36_code
def yX2_worth : MethodName := ⟨RX2, "worth", "(I)I"⟩
abbrev cX2_noGoal : ByteArray := prog_4_method_37_code
def yX2_noGoal : MethodName := ⟨RX2, "noGoal", "()Z"⟩
abbrev cX2_found : ByteArray := prog_4_method_38_code
def yX2_found : MethodName := ⟨RX2, "found", "(I)Z"⟩
abbrev cX2_verdict : ByteArray := prog_4_method_39_code
def yX2_verdict : MethodName := ⟨RX2, "verdict", "()I"⟩
abbrev cX2_best : ByteArray := prog_4_method_40_code
def yX2_best : MethodName := ⟨RX2, "best", "()I"⟩
abbrev cX2_turned : ByteArray := prog_4_method_41_code
def yX2_turned : MethodName := ⟨RX2, "turned", "(I)I"⟩
abbrev cX2_solve : ByteArray := prog_4_method_42_code
def yX2_solve : MethodName := ⟨RX2, "solve", "()I"⟩
abbrev cX2_least : ByteArray := prog_4_method_43_code
def yX2_least : MethodName := ⟨RX2, "least", "()I"⟩
abbrev cX2_value : ByteArray := prog_4_method_44_code
def yX2_value : MethodName := ⟨RX2, "value", "(I)I"⟩
def RJ9 : String := "java/lang/Math"
def TJ9 : u_T := fun k => match k with
  | _ => ("", "", "", false)
def tyJ9 : Nat → FieldType := fun k => match k with
  | _ => .int
abbrev wsJ90 : List Cond := u_ws RJ9 TJ9 0
theorem nmJ9 : ∀ a, a < 0 → ∀ b, b < 0 → a ≠ b → (TJ9 a).2.1 ≠ (TJ9 b).2.1 := by decide +kernel
theorem tyJ9_ok : ∀ k, k < 0 → parseFieldDescriptor (TJ9 k).2.2.1 = some (tyJ9 k) := by decide +kernel
abbrev cJ9_abs_0f7a4 : ByteArray := prog_9_method_59_code
def yJ9_abs_0f7a4 : MethodName := ⟨RJ9, "abs", "(I)I"⟩
abbrev cJ9_max_7cf53 : ByteArray := prog_9_method_65_code
def yJ9_max_7cf53 : MethodName := ⟨RJ9, "max", "(II)I"⟩
abbrev cJ9_min_7cf53 : ByteArray := prog_9_method_69_code
def yJ9_min_7cf53 : MethodName := ⟨RJ9, "min", "(II)I"⟩
def RJ10 : String := "java/lang/System"
def TJ10 : u_T := fun k => match k with
  | _ => ("", "", "", false)
def tyJ10 : Nat → FieldType := fun k => match k with
  | _ => .int
abbrev wsJ100 : List Cond := u_ws RJ10 TJ10 0
theorem nmJ10 : ∀ a, a < 0 → ∀ b, b < 0 → a ≠ b → (TJ10 a).2.1 ≠ (TJ10 b).2.1 := by decide +kernel
theorem tyJ10_ok : ∀ k, k < 0 → parseFieldDescriptor (TJ10 k).2.2.1 = some (tyJ10 k) := by decide +kernel
def RJ7 : String := "java/util/Arrays"
def TJ7 : u_T := fun k => match k with
  | _ => ("", "", "", false)
def tyJ7 : Nat → FieldType := fun k => match k with
  | _ => .int
abbrev wsJ70 : List Cond := u_ws RJ7 TJ7 0
theorem nmJ7 : ∀ a, a < 0 → ∀ b, b < 0 → a ≠ b → (TJ7 a).2.1 ≠ (TJ7 b).2.1 := by decide +kernel
theorem tyJ7_ok : ∀ k, k < 0 → parseFieldDescriptor (TJ7 k).2.2.1 = some (tyJ7 k) := by decide +kernel
abbrev cJ7_fill_53178 : ByteArray := prog_13_method_103_code
def yJ7_fill_53178 : MethodName := ⟨RJ7, "fill", "([II)V"⟩
def RL : String := "ChoiceBoardLaw"
abbrev cL_term : ByteArray := method_3_code
def yL_term : MethodName := ⟨RL, "term", "(LChoiceBoard;II)I"⟩
abbrev cL_require : ByteArray := method_4_code
def yL_require : MethodName := ⟨RL, "require", "(LChoiceBoard;II[J)I"⟩
abbrev cL_objective : ByteArray := method_5_code
def yL_objective : MethodName := ⟨RL, "objective", "(LChoiceBoard;)I"⟩
abbrev cL_constraint : ByteArray := method_6_code
def yL_constraint : MethodName := ⟨RL, "constraint", "(LChoiceBoard;II[J)I"⟩
abbrev cL_close : ByteArray := method_7_code
def yL_close : MethodName := ⟨RL, "close", "(LChoiceBoard;II[J)I"⟩
abbrev cL_load : ByteArray := method_8_code
def yL_load : MethodName := ⟨RL, "load", "(LChoiceBoard;I)I"⟩
abbrev cL_axiom : ByteArray := method_9_code
def yL_axiom : MethodName := ⟨RL, "axiom", "(LChoiceBoard;IZ)I"⟩
abbrev cL_add : ByteArray := method_10_code
def yL_add : MethodName := ⟨RL, "add", "(LChoiceBoard;)I"⟩
abbrev cL_times : ByteArray := method_11_code
def yL_times : MethodName := ⟨RL, "times", "(LChoiceBoard;I)I"⟩
abbrev cL_divide : ByteArray := method_12_code
def yL_divide : MethodName := ⟨RL, "divide", "(LChoiceBoard;I)I"⟩
abbrev cL_saturate : ByteArray := method_13_code
def yL_saturate : MethodName := ⟨RL, "saturate", "(LChoiceBoard;)I"⟩
abbrev cL_weaken : ByteArray := method_14_code
def yL_weaken : MethodName := ⟨RL, "weaken", "(LChoiceBoard;I)I"⟩
abbrev cL_drop : ByteArray := method_15_code
def yL_drop : MethodName := ⟨RL, "drop", "(LChoiceBoard;)I"⟩
abbrev cL_top : ByteArray := method_16_code
def yL_top : MethodName := ⟨RL, "top", "(LChoiceBoard;I[J)I"⟩
abbrev cL_learn : ByteArray := method_17_code
def yL_learn : MethodName := ⟨RL, "learn", "(LChoiceBoard;[J)I"⟩
abbrev cL_contradict : ByteArray := method_18_code
def yL_contradict : MethodName := ⟨RL, "contradict", "(LChoiceBoard;I[J)I"⟩
abbrev cL_found : ByteArray := method_19_code
def yL_found : MethodName := ⟨RL, "found", "(LChoiceBoard;I[J)I"⟩
abbrev cL_best : ByteArray := method_20_code
def yL_best : MethodName := ⟨RL, "best", "(LChoiceBoard;[J)I"⟩
abbrev cL_least : ByteArray := method_21_code
def yL_least : MethodName := ⟨RL, "least", "(LChoiceBoard;[J)I"⟩
abbrev cL_value : ByteArray := method_22_code
def yL_value : MethodName := ⟨RL, "value", "(LChoiceBoard;I[J)I"⟩
abbrev cL_law : ByteArray := code
def yL_law : MethodName := ⟨RL, "law", "([I)Z"⟩
def wsX0_init : List Cond := .code yX0_init cX0_init 1 none :: ([.methodLink RX0 3 objectInit, .instanceMethod objectInit, .code objectInit ⟨#[0xb1]⟩ 1 none, .arrayClass .int, .fieldLink RX0 9 "ChoiceBoard$Constraint" "weights" "[I", .fieldLink RX0 15 "ChoiceBoard$Constraint" "degree" "I", .fieldLink RX0 19 "ChoiceBoard$Constraint" "given" "Z"] ++ wsX00)
def wsX0_become : List Cond := .code yX0_become cX0_become 2 none :: ([.fieldLink RX0 9 "ChoiceBoard$Constraint" "weights" "[I", .methodLink RX0 23 arraycopyName, .native arraycopyName, .static arraycopyName, .initialized "java/lang/System", .fieldLink RX0 15 "ChoiceBoard$Constraint" "degree" "I"] ++ wsX00)
def wsX0_size : List Cond := .code yX0_size cX0_size 2 (some .int) :: ([.fieldLink RX0 9 "ChoiceBoard$Constraint" "weights" "[I", .methodLink RX0 67 Lib.Math.abs.name, .static Lib.Math.abs.name, .initialized "java/lang/Math", .code Lib.Math.abs.name Lib.Math.abs.code 1 (some .int)] ++ wsX00)
def wsX0_normalize : List Cond := .code yX0_normalize cX0_normalize 6 none :: ([.fieldLink RX0 9 "ChoiceBoard$Constraint" "weights" "[I", .methodLink RX0 37 Lib.Math.max.name, .static Lib.Math.max.name, .initialized "java/lang/Math", .code Lib.Math.max.name Lib.Math.max.code 2 (some .int), .fieldLink RX0 15 "ChoiceBoard$Constraint" "degree" "I", .methodLink RX0 33 yX0_size, .instanceMethod yX0_size, .selects RX0 yX0_size yX0_size, .initialized RX0, .code yX0_size cX0_size 2 (some .int), .methodLink RX0 67 Lib.Math.abs.name, .static Lib.Math.abs.name, .code Lib.Math.abs.name Lib.Math.abs.code 1 (some .int)] ++ wsX00)
def wsX0_becomeAtLeast : List Cond := .code yX0_becomeAtLeast cX0_becomeAtLeast 3 none :: ([.methodLink RX0 29 yX0_normalize, .instanceMethod yX0_normalize, .selects RX0 yX0_normalize yX0_normalize, .initialized RX0, .code yX0_normalize cX0_normalize 6 none, .fieldLink RX0 9 "ChoiceBoard$Constraint" "weights" "[I", .methodLink RX0 37 Lib.Math.max.name, .static Lib.Math.max.name, .initialized "java/lang/Math", .code Lib.Math.max.name Lib.Math.max.code 2 (some .int), .fieldLink RX0 15 "ChoiceBoard$Constraint" "degree" "I", .methodLink RX0 33 yX0_size, .instanceMethod yX0_size, .selects RX0 yX0_size yX0_size, .code yX0_size cX0_size 2 (some .int), .methodLink RX0 67 Lib.Math.abs.name, .static Lib.Math.abs.name, .code Lib.Math.abs.name Lib.Math.abs.code 1 (some .int)] ++ wsX00)
def wsX0_becomeAtMost : List Cond := .code yX0_becomeAtMost cX0_becomeAtMost 3 none :: ([.methodLink RX0 29 yX0_normalize, .instanceMethod yX0_normalize, .selects RX0 yX0_normalize yX0_normalize, .initialized RX0, .code yX0_normalize cX0_normalize 6 none, .fieldLink RX0 9 "ChoiceBoard$Constraint" "weights" "[I", .methodLink RX0 37 Lib.Math.max.name, .static Lib.Math.max.name, .initialized "java/lang/Math", .code Lib.Math.max.name Lib.Math.max.code 2 (some .int), .fieldLink RX0 15 "ChoiceBoard$Constraint" "degree" "I", .methodLink RX0 33 yX0_size, .instanceMethod yX0_size, .selects RX0 yX0_size yX0_size, .code yX0_size cX0_size 2 (some .int), .methodLink RX0 67 Lib.Math.abs.name, .static Lib.Math.abs.name, .code Lib.Math.abs.name Lib.Math.abs.code 1 (some .int)] ++ wsX00)
def wsJ7_fill_53178 : List Cond := .code yJ7_fill_53178 cJ7_fill_53178 4 none :: ([])
def wsX0_becomeAxiom : List Cond := .code yX0_becomeAxiom cX0_becomeAxiom 3 none :: ([.fieldLink RX0 9 "ChoiceBoard$Constraint" "weights" "[I", .fieldLink RX0 15 "ChoiceBoard$Constraint" "degree" "I", .methodLink RX0 43 yJ7_fill_53178, .static yJ7_fill_53178, .initialized RJ7, .code yJ7_fill_53178 cJ7_fill_53178 4 none] ++ wsX00)
def wsX0_isOpposed : List Cond := .code yX0_isOpposed cX0_isOpposed 3 (some .boolean) :: ([.fieldLink RX0 9 "ChoiceBoard$Constraint" "weights" "[I"] ++ wsX00)
def wsX0_becomeSum : List Cond := .code yX0_becomeSum cX0_becomeSum 5 none :: ([.fieldLink RX0 15 "ChoiceBoard$Constraint" "degree" "I", .fieldLink RX0 9 "ChoiceBoard$Constraint" "weights" "[I", .methodLink RX0 53 Lib.Math.min.name, .static Lib.Math.min.name, .initialized "java/lang/Math", .code Lib.Math.min.name Lib.Math.min.code 2 (some .int), .methodLink RX0 37 Lib.Math.max.name, .static Lib.Math.max.name, .code Lib.Math.max.name Lib.Math.max.code 2 (some .int), .methodLink RX0 49 yX0_isOpposed, .instanceMethod yX0_isOpposed, .selects RX0 yX0_isOpposed yX0_isOpposed, .initialized RX0, .code yX0_isOpposed cX0_isOpposed 3 (some .boolean), .methodLink RX0 33 yX0_size, .instanceMethod yX0_size, .selects RX0 yX0_size yX0_size, .code yX0_size cX0_size 2 (some .int), .methodLink RX0 67 Lib.Math.abs.name, .static Lib.Math.abs.name, .code Lib.Math.abs.name Lib.Math.abs.code 1 (some .int)] ++ wsX00)
def wsX0_becomeMultiple : List Cond := .code yX0_becomeMultiple cX0_becomeMultiple 4 none :: ([.fieldLink RX0 9 "ChoiceBoard$Constraint" "weights" "[I", .fieldLink RX0 15 "ChoiceBoard$Constraint" "degree" "I"] ++ wsX00)
def wsX0_quotientRoundedUp : List Cond := .code yX0_quotientRoundedUp cX0_quotientRoundedUp 2 (some .int) :: ([])
def wsX0_resize : List Cond := .code yX0_resize cX0_resize 3 none :: ([.fieldLink RX0 9 "ChoiceBoard$Constraint" "weights" "[I"] ++ wsX00)
def wsX0_divideRoundingUp : List Cond := .code yX0_divideRoundingUp cX0_divideRoundingUp 3 none :: ([.fieldLink RX0 15 "ChoiceBoard$Constraint" "degree" "I", .methodLink RX0 33 yX0_size, .instanceMethod yX0_size, .selects RX0 yX0_size yX0_size, .initialized RX0, .code yX0_size cX0_size 2 (some .int), .fieldLink RX0 9 "ChoiceBoard$Constraint" "weights" "[I", .methodLink RX0 67 Lib.Math.abs.name, .static Lib.Math.abs.name, .initialized "java/lang/Math", .code Lib.Math.abs.name Lib.Math.abs.code 1 (some .int), .methodLink RX0 56 yX0_quotientRoundedUp, .static yX0_quotientRoundedUp, .code yX0_quotientRoundedUp cX0_quotientRoundedUp 2 (some .int), .methodLink RX0 59 yX0_resize, .instanceMethod yX0_resize, .selects RX0 yX0_resize yX0_resize, .code yX0_resize cX0_resize 3 none] ++ wsX00)
def wsX0_limitSizesToDegree : List Cond := .code yX0_limitSizesToDegree cX0_limitSizesToDegree 2 none :: ([.fieldLink RX0 15 "ChoiceBoard$Constraint" "degree" "I", .methodLink RX0 53 Lib.Math.min.name, .static Lib.Math.min.name, .initialized "java/lang/Math", .code Lib.Math.min.name Lib.Math.min.code 2 (some .int), .methodLink RX0 33 yX0_size, .instanceMethod yX0_size, .selects RX0 yX0_size yX0_size, .initialized RX0, .code yX0_size cX0_size 2 (some .int), .fieldLink RX0 9 "ChoiceBoard$Constraint" "weights" "[I", .methodLink RX0 67 Lib.Math.abs.name, .static Lib.Math.abs.name, .code Lib.Math.abs.name Lib.Math.abs.code 1 (some .int), .methodLink RX0 59 yX0_resize, .instanceMethod yX0_resize, .selects RX0 yX0_resize yX0_resize, .code yX0_resize cX0_resize 3 none] ++ wsX00)
def wsX0_giveUp : List Cond := .code yX0_giveUp cX0_giveUp 2 none :: ([.fieldLink RX0 15 "ChoiceBoard$Constraint" "degree" "I", .methodLink RX0 37 Lib.Math.max.name, .static Lib.Math.max.name, .initialized "java/lang/Math", .code Lib.Math.max.name Lib.Math.max.code 2 (some .int), .fieldLink RX0 9 "ChoiceBoard$Constraint" "weights" "[I", .methodLink RX0 33 yX0_size, .instanceMethod yX0_size, .selects RX0 yX0_size yX0_size, .initialized RX0, .code yX0_size cX0_size 2 (some .int), .methodLink RX0 67 Lib.Math.abs.name, .static Lib.Math.abs.name, .code Lib.Math.abs.name Lib.Math.abs.code 1 (some .int)] ++ wsX00)
def wsX0_sizeOfAll : List Cond := .code yX0_sizeOfAll cX0_sizeOfAll 3 (some .int) :: ([.methodLink RX0 33 yX0_size, .instanceMethod yX0_size, .selects RX0 yX0_size yX0_size, .initialized RX0, .code yX0_size cX0_size 2 (some .int), .fieldLink RX0 9 "ChoiceBoard$Constraint" "weights" "[I", .methodLink RX0 67 Lib.Math.abs.name, .static Lib.Math.abs.name, .initialized "java/lang/Math", .code Lib.Math.abs.name Lib.Math.abs.code 1 (some .int)] ++ wsX00)
def wsX0_turnToContrary : List Cond := .code yX0_turnToContrary cX0_turnToContrary 2 none :: ([.fieldLink RX0 15 "ChoiceBoard$Constraint" "degree" "I", .methodLink RX0 37 Lib.Math.max.name, .static Lib.Math.max.name, .initialized "java/lang/Math", .code Lib.Math.max.name Lib.Math.max.code 2 (some .int), .fieldLink RX0 9 "ChoiceBoard$Constraint" "weights" "[I", .methodLink RX0 63 yX0_sizeOfAll, .instanceMethod yX0_sizeOfAll, .selects RX0 yX0_sizeOfAll yX0_sizeOfAll, .initialized RX0, .code yX0_sizeOfAll cX0_sizeOfAll 3 (some .int), .methodLink RX0 33 yX0_size, .instanceMethod yX0_size, .selects RX0 yX0_size yX0_size, .code yX0_size cX0_size 2 (some .int), .methodLink RX0 67 Lib.Math.abs.name, .static Lib.Math.abs.name, .code Lib.Math.abs.name Lib.Math.abs.code 1 (some .int)] ++ wsX00)
def wsX0_weightOrDegree : List Cond := .code yX0_weightOrDegree cX0_weightOrDegree 2 (some .int) :: ([.fieldLink RX0 15 "ChoiceBoard$Constraint" "degree" "I", .fieldLink RX0 9 "ChoiceBoard$Constraint" "weights" "[I"] ++ wsX00)
def wsX0_isTooLarge : List Cond := .code yX0_isTooLarge cX0_isTooLarge 2 (some .boolean) :: ([.constant RX0 70 (1000000), .fieldLink RX0 15 "ChoiceBoard$Constraint" "degree" "I", .methodLink RX0 33 yX0_size, .instanceMethod yX0_size, .selects RX0 yX0_size yX0_size, .initialized RX0, .code yX0_size cX0_size 2 (some .int), .fieldLink RX0 9 "ChoiceBoard$Constraint" "weights" "[I", .methodLink RX0 67 Lib.Math.abs.name, .static Lib.Math.abs.name, .initialized "java/lang/Math", .code Lib.Math.abs.name Lib.Math.abs.code 1 (some .int)] ++ wsX00)
def wsX0_isVoid : List Cond := .code yX0_isVoid cX0_isVoid 1 (some .boolean) :: ([.fieldLink RX0 15 "ChoiceBoard$Constraint" "degree" "I", .methodLink RX0 63 yX0_sizeOfAll, .instanceMethod yX0_sizeOfAll, .selects RX0 yX0_sizeOfAll yX0_sizeOfAll, .initialized RX0, .code yX0_sizeOfAll cX0_sizeOfAll 3 (some .int), .methodLink RX0 33 yX0_size, .instanceMethod yX0_size, .selects RX0 yX0_size yX0_size, .code yX0_size cX0_size 2 (some .int), .fieldLink RX0 9 "ChoiceBoard$Constraint" "weights" "[I", .methodLink RX0 67 Lib.Math.abs.name, .static Lib.Math.abs.name, .initialized "java/lang/Math", .code Lib.Math.abs.name Lib.Math.abs.code 1 (some .int)] ++ wsX00)
def wsX1_bit : List Cond := .code yX1_bit cX1_bit 2 (some .int) :: ([])
def wsX0_countedTruth : List Cond := .code yX0_countedTruth cX0_countedTruth 2 (some .int) :: ([.fieldLink RX0 9 "ChoiceBoard$Constraint" "weights" "[I"] ++ wsX00)
def wsX0_slack : List Cond := .code yX0_slack cX0_slack 5 (some .int) :: ([.fieldLink RX0 15 "ChoiceBoard$Constraint" "degree" "I", .static yX1_bit, .initialized RX1, .code yX1_bit cX1_bit 2 (some .int), .methodLink RX0 77 yX0_countedTruth, .instanceMethod yX0_countedTruth, .selects RX0 yX0_countedTruth yX0_countedTruth, .initialized RX0, .code yX0_countedTruth cX0_countedTruth 2 (some .int), .fieldLink RX0 9 "ChoiceBoard$Constraint" "weights" "[I", .methodLink RX0 33 yX0_size, .instanceMethod yX0_size, .selects RX0 yX0_size yX0_size, .code yX0_size cX0_size 2 (some .int), .methodLink RX0 67 Lib.Math.abs.name, .static Lib.Math.abs.name, .initialized "java/lang/Math", .code Lib.Math.abs.name Lib.Math.abs.code 1 (some .int)] ++ wsX00)
def wsX0_isMetBy : List Cond := .code yX0_isMetBy cX0_isMetBy 2 (some .boolean) :: ([.methodLink RX0 71 yX0_slack, .instanceMethod yX0_slack, .selects RX0 yX0_slack yX0_slack, .initialized RX0, .code yX0_slack cX0_slack 5 (some .int), .fieldLink RX0 15 "ChoiceBoard$Constraint" "degree" "I", .static yX1_bit, .initialized RX1, .code yX1_bit cX1_bit 2 (some .int), .methodLink RX0 77 yX0_countedTruth, .instanceMethod yX0_countedTruth, .selects RX0 yX0_countedTruth yX0_countedTruth, .code yX0_countedTruth cX0_countedTruth 2 (some .int), .fieldLink RX0 9 "ChoiceBoard$Constraint" "weights" "[I", .methodLink RX0 33 yX0_size, .instanceMethod yX0_size, .selects RX0 yX0_size yX0_size, .code yX0_size cX0_size 2 (some .int), .methodLink RX0 67 Lib.Math.abs.name, .static Lib.Math.abs.name, .initialized "java/lang/Math", .code Lib.Math.abs.name Lib.Math.abs.code 1 (some .int)] ++ wsX00)
def wsX0_forcedFrom : List Cond := .code yX0_forcedFrom cX0_forcedFrom 6 (some .int) :: ([.methodLink RX0 71 yX0_slack, .instanceMethod yX0_slack, .selects RX0 yX0_slack yX0_slack, .initialized RX0, .code yX0_slack cX0_slack 5 (some .int), .fieldLink RX0 15 "ChoiceBoard$Constraint" "degree" "I", .static yX1_bit, .initialized RX1, .code yX1_bit cX1_bit 2 (some .int), .methodLink RX0 77 yX0_countedTruth, .instanceMethod yX0_countedTruth, .selects RX0 yX0_countedTruth yX0_countedTruth, .code yX0_countedTruth cX0_countedTruth 2 (some .int), .fieldLink RX0 9 "ChoiceBoard$Constraint" "weights" "[I", .methodLink RX0 33 yX0_size, .instanceMethod yX0_size, .selects RX0 yX0_size yX0_size, .code yX0_size cX0_size 2 (some .int), .methodLink RX0 67 Lib.Math.abs.name, .static Lib.Math.abs.name, .initialized "java/lang/Math", .code Lib.Math.abs.name Lib.Math.abs.code 1 (some .int)] ++ wsX00)
def wsX1_init_r1 : List Cond := [Cond.methodLink RX1 3 objectInit, Cond.instanceMethod objectInit, Cond.code objectInit ⟨#[0xb1]⟩ 1 none, Cond.arrayClass .int, Cond.fieldLink RX1 9 "ChoiceBoard" "draft" "[I", Cond.fieldLink RX1 13 "ChoiceBoard" "objectiveFactors" "[I", Cond.classLink RX1 16 RX0, Cond.fieldLink RX1 18 "ChoiceBoard" "store" "[LChoiceBoard$Constraint;", Cond.fieldLink RX1 22 "ChoiceBoard" "stored" "I", Cond.fieldLink RX1 26 "ChoiceBoard" "stack" "[LChoiceBoard$Constraint;", Cond.fieldLink RX1 29 "ChoiceBoard" "stacked" "I", Cond.instantiable RX0 3, Cond.initialized RX0, Cond.fieldLink RX1 33 "ChoiceBoard" "scratch" "LChoiceBoard$Constraint;", Cond.fieldLink RX1 37 "ChoiceBoard" "taken" "Z", Cond.fieldLink RX1 41 "ChoiceBoard" "bestValue" "I", Cond.fieldLink RX1 44 "ChoiceBoard" "solved" "Z", Cond.fieldLink RX1 47 "ChoiceBoard" "leastValue" "I", Cond.fieldLink RX1 50 "ChoiceBoard" "leastChoice" "I", Cond.instanceMethod yX0_init, Cond.code yX0_init cX0_init 1 none, Cond.methodLink RX0 3 objectInit, Cond.fieldLink RX0 9 "ChoiceBoard$Constraint" "weights" "[I", Cond.fieldLink RX0 15 "ChoiceBoard$Constraint" "degree" "I"]
def wsX1_init_r2 : List Cond := [Cond.fieldLink RX0 19 "ChoiceBoard$Constraint" "given" "Z"]
def wsX1_init : List Cond := .code yX1_init cX1_init 2 none :: ((wsX1_init_r1 ++ wsX1_init_r2) ++ wsX10 ++ wsX00)
def wsX1_isWithin : List Cond := .code yX1_isWithin cX1_isWithin 3 (some .boolean) :: ([])
def wsX1_isVariable : List Cond := .code yX1_isVariable cX1_isVariable 1 (some .boolean) :: ([.methodLink RX1 57 yX1_isWithin, .static yX1_isWithin, .initialized RX1, .code yX1_isWithin cX1_isWithin 3 (some .boolean)])
def wsX1_term : List Cond := .code yX1_term cX1_term 3 none :: ([.classLink RX1 61 "java/lang/IllegalArgumentException", .initialized "java/lang/IllegalArgumentException", .fieldLink RX1 9 "ChoiceBoard" "draft" "[I", .methodLink RX1 53 yX1_isVariable, .static yX1_isVariable, .initialized RX1, .code yX1_isVariable cX1_isVariable 1 (some .boolean), .methodLink RX1 57 yX1_isWithin, .static yX1_isWithin, .code yX1_isWithin cX1_isWithin 3 (some .boolean)] ++ wsX10 ++ (vx_at0 RX1 63 "java/lang/IllegalArgumentException" ["java/lang/RuntimeException", "java/lang/Exception"]).filter goodWord)
def wsX1_clear : List Cond := .code yX1_clear cX1_clear 1 none :: ([.fieldLink RX1 9 "ChoiceBoard" "draft" "[I", .methodLink RX1 64 yJ7_fill_53178, .static yJ7_fill_53178, .initialized RJ7, .code yJ7_fill_53178 cJ7_fill_53178 4 none] ++ wsX10)
def wsX1_isStoreFull : List Cond := .code yX1_isStoreFull cX1_isStoreFull 1 (some .boolean) :: ([.fieldLink RX1 22 "ChoiceBoard" "stored" "I"] ++ wsX10)
def wsX1_keepNext : List Cond := .code yX1_keepNext cX1_keepNext 2 (some .int) :: ([.fieldLink RX1 18 "ChoiceBoard" "store" "[LChoiceBoard$Constraint;", .fieldLink RX1 22 "ChoiceBoard" "stored" "I"] ++ wsX10 ++ wsX00)
def wsX1_require_r1 : List Cond := [Cond.classLink RX1 61 "java/lang/IllegalArgumentException", Cond.initialized "java/lang/IllegalArgumentException", Cond.classLink RX1 74 "java/lang/IllegalStateException", Cond.initialized "java/lang/IllegalStateException", Cond.fieldLink RX1 37 "ChoiceBoard" "taken" "Z", Cond.fieldLink RX1 18 "ChoiceBoard" "store" "[LChoiceBoard$Constraint;", Cond.fieldLink RX1 22 "ChoiceBoard" "stored" "I", Cond.fieldLink RX1 9 "ChoiceBoard" "draft" "[I", Cond.methodLink RX1 57 yX1_isWithin, Cond.static yX1_isWithin, Cond.initialized RX1, Cond.code yX1_isWithin cX1_isWithin 3 (some .boolean), Cond.methodLink RX1 70 yX1_isStoreFull, Cond.instanceMethod yX1_isStoreFull, Cond.selects RX1 yX1_isStoreFull yX1_isStoreFull, Cond.code yX1_isStoreFull cX1_isStoreFull 1 (some .boolean), Cond.methodLink RX1 77 yX0_becomeAtLeast, Cond.instanceMethod yX0_becomeAtLeast, Cond.selects RX0 yX0_becomeAtLeast yX0_becomeAtLeast, Cond.initialized RX0, Cond.code yX0_becomeAtLeast cX0_becomeAtLeast 3 none, Cond.methodLink RX0 29 yX0_normalize, Cond.instanceMethod yX0_normalize, Cond.selects RX0 yX0_normalize yX0_normalize]
def wsX1_require_r2 : List Cond := [Cond.code yX0_normalize cX0_normalize 6 none, Cond.fieldLink RX0 9 "ChoiceBoard$Constraint" "weights" "[I", Cond.methodLink RX0 37 Lib.Math.max.name, Cond.static Lib.Math.max.name, Cond.initialized "java/lang/Math", Cond.code Lib.Math.max.name Lib.Math.max.code 2 (some .int), Cond.fieldLink RX0 15 "ChoiceBoard$Constraint" "degree" "I", Cond.methodLink RX0 33 yX0_size, Cond.instanceMethod yX0_size, Cond.selects RX0 yX0_size yX0_size, Cond.code yX0_size cX0_size 2 (some .int), Cond.methodLink RX0 67 Lib.Math.abs.name, Cond.static Lib.Math.abs.name, Cond.code Lib.Math.abs.name Lib.Math.abs.code 1 (some .int), Cond.methodLink RX1 80 yX0_becomeAtMost, Cond.instanceMethod yX0_becomeAtMost, Cond.selects RX0 yX0_becomeAtMost yX0_becomeAtMost, Cond.code yX0_becomeAtMost cX0_becomeAtMost 3 none, Cond.methodLink RX1 83 yX1_clear, Cond.instanceMethod yX1_clear, Cond.selects RX1 yX1_clear yX1_clear, Cond.code yX1_clear cX1_clear 1 none, Cond.methodLink RX1 64 yJ7_fill_53178, Cond.static yJ7_fill_53178]
def wsX1_require_r3 : List Cond := [Cond.initialized RJ7, Cond.code yJ7_fill_53178 cJ7_fill_53178 4 none, Cond.methodLink RX1 86 yX1_keepNext, Cond.instanceMethod yX1_keepNext, Cond.selects RX1 yX1_keepNext yX1_keepNext, Cond.code yX1_keepNext cX1_keepNext 2 (some .int)]
def wsX1_require : List Cond := .code yX1_require cX1_require 3 (some .int) :: ((wsX1_require_r1 ++ (wsX1_require_r2 ++ wsX1_require_r3)) ++ wsX10 ++ wsX00 ++ (vx_at0 RX1 63 "java/lang/IllegalArgumentException" ["java/lang/RuntimeException", "java/lang/Exception"]).filter goodWord ++ (vx_at0 RX1 76 "java/lang/IllegalStateException" ["java/lang/RuntimeException", "java/lang/Exception"]).filter goodWord)
def wsX1_objective : List Cond := .code yX1_objective cX1_objective 1 none :: ([.classLink RX1 74 "java/lang/IllegalStateException", .initialized "java/lang/IllegalStateException", .fieldLink RX1 37 "ChoiceBoard" "taken" "Z", .fieldLink RX1 9 "ChoiceBoard" "draft" "[I", .fieldLink RX1 13 "ChoiceBoard" "objectiveFactors" "[I", .methodLink RX1 90 arraycopyName, .native arraycopyName, .static arraycopyName, .initialized "java/lang/System", .methodLink RX1 83 yX1_clear, .instanceMethod yX1_clear, .selects RX1 yX1_clear yX1_clear, .initialized RX1, .code yX1_clear cX1_clear 1 none, .methodLink RX1 64 yJ7_fill_53178, .static yJ7_fill_53178, .initialized RJ7, .code yJ7_fill_53178 cJ7_fill_53178 4 none] ++ wsX10 ++ (vx_at0 RX1 76 "java/lang/IllegalStateException" ["java/lang/RuntimeException", "java/lang/Exception"]).filter goodWord)
def wsX1_constraints : List Cond := .code yX1_constraints cX1_constraints 1 (some .int) :: ([.fieldLink RX1 22 "ChoiceBoard" "stored" "I"] ++ wsX10)
def wsX1_isStored : List Cond := .code yX1_isStored cX1_isStored 2 (some .boolean) :: ([.fieldLink RX1 22 "ChoiceBoard" "stored" "I", .methodLink RX1 57 yX1_isWithin, .static yX1_isWithin, .initialized RX1, .code yX1_isWithin cX1_isWithin 3 (some .boolean)] ++ wsX10)
def wsX1_isQuestion : List Cond := .code yX1_isQuestion cX1_isQuestion 1 (some .boolean) :: ([.methodLink RX1 57 yX1_isWithin, .static yX1_isWithin, .initialized RX1, .code yX1_isWithin cX1_isWithin 3 (some .boolean)])
def wsX1_constraint : List Cond := .code yX1_constraint cX1_constraint 3 (some .int) :: ([.classLink RX1 99 "java/util/NoSuchElementException", .initialized "java/util/NoSuchElementException", .classLink RX1 61 "java/lang/IllegalArgumentException", .initialized "java/lang/IllegalArgumentException", .fieldLink RX1 18 "ChoiceBoard" "store" "[LChoiceBoard$Constraint;", .methodLink RX1 96 yX1_isStored, .instanceMethod yX1_isStored, .selects RX1 yX1_isStored yX1_isStored, .initialized RX1, .code yX1_isStored cX1_isStored 2 (some .boolean), .fieldLink RX1 22 "ChoiceBoard" "stored" "I", .methodLink RX1 57 yX1_isWithin, .static yX1_isWithin, .code yX1_isWithin cX1_isWithin 3 (some .boolean), .methodLink RX1 102 yX1_isQuestion, .static yX1_isQuestion, .code yX1_isQuestion cX1_isQuestion 1 (some .boolean), .methodLink RX1 108 yX0_weightOrDegree, .instanceMethod yX0_weightOrDegree, .selects RX0 yX0_weightOrDegree yX0_weightOrDegree, .initialized RX0, .code yX0_weightOrDegree cX0_weightOrDegree 2 (some .int), .fieldLink RX0 15 "ChoiceBoard$Constraint" "degree" "I", .fieldLink RX0 9 "ChoiceBoard$Constraint" "weights" "[I"] ++ wsX10 ++ wsX00 ++ (vx_at0 RX1 101 "java/util/NoSuchElementException" ["java/lang/RuntimeException", "java/lang/Exception"]).filter goodWord ++ (vx_at0 RX1 63 "java/lang/IllegalArgumentException" ["java/lang/RuntimeException", "java/lang/Exception"]).filter goodWord)
def wsX1_isChoice : List Cond := .code yX1_isChoice cX1_isChoice 1 (some .boolean) :: ([.methodLink RX1 57 yX1_isWithin, .static yX1_isWithin, .initialized RX1, .code yX1_isWithin cX1_isWithin 3 (some .boolean)])
def wsX1_closed_r1 : List Cond := [Cond.fieldLink RX1 18 "ChoiceBoard" "store" "[LChoiceBoard$Constraint;", Cond.methodLink RX1 196 yX0_forcedFrom, Cond.instanceMethod yX0_forcedFrom, Cond.selects RX0 yX0_forcedFrom yX0_forcedFrom, Cond.initialized RX0, Cond.code yX0_forcedFrom cX0_forcedFrom 6 (some .int), Cond.methodLink RX0 71 yX0_slack, Cond.instanceMethod yX0_slack, Cond.selects RX0 yX0_slack yX0_slack, Cond.code yX0_slack cX0_slack 5 (some .int), Cond.fieldLink RX0 15 "ChoiceBoard$Constraint" "degree" "I", Cond.static yX1_bit, Cond.initialized RX1, Cond.code yX1_bit cX1_bit 2 (some .int), Cond.methodLink RX0 77 yX0_countedTruth, Cond.instanceMethod yX0_countedTruth, Cond.selects RX0 yX0_countedTruth yX0_countedTruth, Cond.code yX0_countedTruth cX0_countedTruth 2 (some .int), Cond.fieldLink RX0 9 "ChoiceBoard$Constraint" "weights" "[I", Cond.methodLink RX0 33 yX0_size, Cond.instanceMethod yX0_size, Cond.selects RX0 yX0_size yX0_size, Cond.code yX0_size cX0_size 2 (some .int), Cond.methodLink RX0 67 Lib.Math.abs.name]
def wsX1_closed_r2 : List Cond := [Cond.static Lib.Math.abs.name, Cond.initialized "java/lang/Math", Cond.code Lib.Math.abs.name Lib.Math.abs.code 1 (some .int)]
def wsX1_closed : List Cond := .code yX1_closed cX1_closed 7 (some .int) :: ((wsX1_closed_r1 ++ wsX1_closed_r2) ++ wsX10 ++ wsX00)
def wsX1_close_r1 : List Cond := [Cond.classLink RX1 61 "java/lang/IllegalArgumentException", Cond.initialized "java/lang/IllegalArgumentException", Cond.fieldLink RX1 22 "ChoiceBoard" "stored" "I", Cond.methodLink RX1 112 yX1_isChoice, Cond.static yX1_isChoice, Cond.initialized RX1, Cond.code yX1_isChoice cX1_isChoice 1 (some .boolean), Cond.methodLink RX1 57 yX1_isWithin, Cond.static yX1_isWithin, Cond.code yX1_isWithin cX1_isWithin 3 (some .boolean), Cond.methodLink RX1 115 yX1_closed, Cond.instanceMethod yX1_closed, Cond.selects RX1 yX1_closed yX1_closed, Cond.code yX1_closed cX1_closed 7 (some .int), Cond.fieldLink RX1 18 "ChoiceBoard" "store" "[LChoiceBoard$Constraint;", Cond.methodLink RX1 196 yX0_forcedFrom, Cond.instanceMethod yX0_forcedFrom, Cond.selects RX0 yX0_forcedFrom yX0_forcedFrom, Cond.initialized RX0, Cond.code yX0_forcedFrom cX0_forcedFrom 6 (some .int), Cond.methodLink RX0 71 yX0_slack, Cond.instanceMethod yX0_slack, Cond.selects RX0 yX0_slack yX0_slack, Cond.code yX0_slack cX0_slack 5 (some .int)]
def wsX1_close_r2 : List Cond := [Cond.fieldLink RX0 15 "ChoiceBoard$Constraint" "degree" "I", Cond.static yX1_bit, Cond.code yX1_bit cX1_bit 2 (some .int), Cond.methodLink RX0 77 yX0_countedTruth, Cond.instanceMethod yX0_countedTruth, Cond.selects RX0 yX0_countedTruth yX0_countedTruth, Cond.code yX0_countedTruth cX0_countedTruth 2 (some .int), Cond.fieldLink RX0 9 "ChoiceBoard$Constraint" "weights" "[I", Cond.methodLink RX0 33 yX0_size, Cond.instanceMethod yX0_size, Cond.selects RX0 yX0_size yX0_size, Cond.code yX0_size cX0_size 2 (some .int), Cond.methodLink RX0 67 Lib.Math.abs.name, Cond.static Lib.Math.abs.name, Cond.initialized "java/lang/Math", Cond.code Lib.Math.abs.name Lib.Math.abs.code 1 (some .int)]
def wsX1_close : List Cond := .code yX1_close cX1_close 3 (some .int) :: ((wsX1_close_r1 ++ wsX1_close_r2) ++ wsX10 ++ wsX00 ++ (vx_at0 RX1 63 "java/lang/IllegalArgumentException" ["java/lang/RuntimeException", "java/lang/Exception"]).filter goodWord)
def wsX1_refuseFullStack : List Cond := .code yX1_refuseFullStack cX1_refuseFullStack 1 none :: ([.classLink RX1 74 "java/lang/IllegalStateException", .initialized "java/lang/IllegalStateException", .fieldLink RX1 29 "ChoiceBoard" "stacked" "I"] ++ wsX10 ++ (vx_at0 RX1 76 "java/lang/IllegalStateException" ["java/lang/RuntimeException", "java/lang/Exception"]).filter goodWord)
def wsX1_load_r1 : List Cond := [Cond.classLink RX1 99 "java/util/NoSuchElementException", Cond.initialized "java/util/NoSuchElementException", Cond.fieldLink RX1 26 "ChoiceBoard" "stack" "[LChoiceBoard$Constraint;", Cond.fieldLink RX1 29 "ChoiceBoard" "stacked" "I", Cond.fieldLink RX1 18 "ChoiceBoard" "store" "[LChoiceBoard$Constraint;", Cond.methodLink RX1 96 yX1_isStored, Cond.instanceMethod yX1_isStored, Cond.selects RX1 yX1_isStored yX1_isStored, Cond.initialized RX1, Cond.code yX1_isStored cX1_isStored 2 (some .boolean), Cond.fieldLink RX1 22 "ChoiceBoard" "stored" "I", Cond.methodLink RX1 57 yX1_isWithin, Cond.static yX1_isWithin, Cond.code yX1_isWithin cX1_isWithin 3 (some .boolean), Cond.methodLink RX1 119 yX1_refuseFullStack, Cond.instanceMethod yX1_refuseFullStack, Cond.selects RX1 yX1_refuseFullStack yX1_refuseFullStack, Cond.code yX1_refuseFullStack cX1_refuseFullStack 1 none, Cond.classLink RX1 74 "java/lang/IllegalStateException", Cond.initialized "java/lang/IllegalStateException", Cond.methodLink RX1 122 yX0_become, Cond.instanceMethod yX0_become, Cond.selects RX0 yX0_become yX0_become, Cond.initialized RX0]
def wsX1_load_r2 : List Cond := [Cond.code yX0_become cX0_become 2 none, Cond.fieldLink RX0 9 "ChoiceBoard$Constraint" "weights" "[I", Cond.methodLink RX0 23 arraycopyName, Cond.native arraycopyName, Cond.static arraycopyName, Cond.initialized "java/lang/System", Cond.fieldLink RX0 15 "ChoiceBoard$Constraint" "degree" "I"]
def wsX1_load : List Cond := .code yX1_load cX1_load 2 none :: ((wsX1_load_r1 ++ wsX1_load_r2) ++ wsX10 ++ wsX00 ++ (vx_at0 RX1 101 "java/util/NoSuchElementException" ["java/lang/RuntimeException", "java/lang/Exception"]).filter goodWord ++ (vx_at0 RX1 76 "java/lang/IllegalStateException" ["java/lang/RuntimeException", "java/lang/Exception"]).filter goodWord)
def wsX1_axiom_r1 : List Cond := [Cond.classLink RX1 99 "java/util/NoSuchElementException", Cond.initialized "java/util/NoSuchElementException", Cond.fieldLink RX1 26 "ChoiceBoard" "stack" "[LChoiceBoard$Constraint;", Cond.fieldLink RX1 29 "ChoiceBoard" "stacked" "I", Cond.methodLink RX1 53 yX1_isVariable, Cond.static yX1_isVariable, Cond.initialized RX1, Cond.code yX1_isVariable cX1_isVariable 1 (some .boolean), Cond.methodLink RX1 57 yX1_isWithin, Cond.static yX1_isWithin, Cond.code yX1_isWithin cX1_isWithin 3 (some .boolean), Cond.methodLink RX1 119 yX1_refuseFullStack, Cond.instanceMethod yX1_refuseFullStack, Cond.selects RX1 yX1_refuseFullStack yX1_refuseFullStack, Cond.code yX1_refuseFullStack cX1_refuseFullStack 1 none, Cond.classLink RX1 74 "java/lang/IllegalStateException", Cond.initialized "java/lang/IllegalStateException", Cond.methodLink RX1 126 yX0_becomeAxiom, Cond.instanceMethod yX0_becomeAxiom, Cond.selects RX0 yX0_becomeAxiom yX0_becomeAxiom, Cond.initialized RX0, Cond.code yX0_becomeAxiom cX0_becomeAxiom 3 none, Cond.fieldLink RX0 9 "ChoiceBoard$Constraint" "weights" "[I", Cond.fieldLink RX0 15 "ChoiceBoard$Constraint" "degree" "I"]
def wsX1_axiom_r2 : List Cond := [Cond.methodLink RX0 43 yJ7_fill_53178, Cond.static yJ7_fill_53178, Cond.initialized RJ7, Cond.code yJ7_fill_53178 cJ7_fill_53178 4 none]
def wsX1_axiom : List Cond := .code yX1_axiom cX1_axiom 3 none :: ((wsX1_axiom_r1 ++ wsX1_axiom_r2) ++ wsX10 ++ wsX00 ++ (vx_at0 RX1 101 "java/util/NoSuchElementException" ["java/lang/RuntimeException", "java/lang/Exception"]).filter goodWord ++ (vx_at0 RX1 76 "java/lang/IllegalStateException" ["java/lang/RuntimeException", "java/lang/Exception"]).filter goodWord)
def wsX1_refuseTooLargeScratch : List Cond := .code yX1_refuseTooLargeScratch cX1_refuseTooLargeScratch 1 none :: ([.classLink RX1 187 "java/lang/ArithmeticException", .initialized "java/lang/ArithmeticException", .fieldLink RX1 33 "ChoiceBoard" "scratch" "LChoiceBoard$Constraint;", .methodLink RX1 184 yX0_isTooLarge, .instanceMethod yX0_isTooLarge, .selects RX0 yX0_isTooLarge yX0_isTooLarge, .initialized RX0, .code yX0_isTooLarge cX0_isTooLarge 2 (some .boolean), .constant RX0 70 (1000000), .fieldLink RX0 15 "ChoiceBoard$Constraint" "degree" "I", .methodLink RX0 33 yX0_size, .instanceMethod yX0_size, .selects RX0 yX0_size yX0_size, .code yX0_size cX0_size 2 (some .int), .fieldLink RX0 9 "ChoiceBoard$Constraint" "weights" "[I", .methodLink RX0 67 Lib.Math.abs.name, .static Lib.Math.abs.name, .initialized "java/lang/Math", .code Lib.Math.abs.name Lib.Math.abs.code 1 (some .int)] ++ wsX10 ++ wsX00 ++ (vx_at0 RX1 189 "java/lang/ArithmeticException" ["java/lang/RuntimeException", "java/lang/Exception"]).filter goodWord)
def wsX1_add_r1 : List Cond := [Cond.classLink RX1 74 "java/lang/IllegalStateException", Cond.initialized "java/lang/IllegalStateException", Cond.fieldLink RX1 29 "ChoiceBoard" "stacked" "I", Cond.fieldLink RX1 33 "ChoiceBoard" "scratch" "LChoiceBoard$Constraint;", Cond.fieldLink RX1 26 "ChoiceBoard" "stack" "[LChoiceBoard$Constraint;", Cond.methodLink RX1 130 yX0_becomeSum, Cond.instanceMethod yX0_becomeSum, Cond.selects RX0 yX0_becomeSum yX0_becomeSum, Cond.initialized RX0, Cond.code yX0_becomeSum cX0_becomeSum 5 none, Cond.fieldLink RX0 15 "ChoiceBoard$Constraint" "degree" "I", Cond.fieldLink RX0 9 "ChoiceBoard$Constraint" "weights" "[I", Cond.methodLink RX0 53 Lib.Math.min.name, Cond.static Lib.Math.min.name, Cond.initialized "java/lang/Math", Cond.code Lib.Math.min.name Lib.Math.min.code 2 (some .int), Cond.methodLink RX0 37 Lib.Math.max.name, Cond.static Lib.Math.max.name, Cond.code Lib.Math.max.name Lib.Math.max.code 2 (some .int), Cond.methodLink RX0 49 yX0_isOpposed, Cond.instanceMethod yX0_isOpposed, Cond.selects RX0 yX0_isOpposed yX0_isOpposed, Cond.code yX0_isOpposed cX0_isOpposed 3 (some .boolean), Cond.methodLink RX0 33 yX0_size]
def wsX1_add_r2 : List Cond := [Cond.instanceMethod yX0_size, Cond.selects RX0 yX0_size yX0_size, Cond.code yX0_size cX0_size 2 (some .int), Cond.methodLink RX0 67 Lib.Math.abs.name, Cond.static Lib.Math.abs.name, Cond.code Lib.Math.abs.name Lib.Math.abs.code 1 (some .int), Cond.methodLink RX1 134 yX1_refuseTooLargeScratch, Cond.instanceMethod yX1_refuseTooLargeScratch, Cond.selects RX1 yX1_refuseTooLargeScratch yX1_refuseTooLargeScratch, Cond.initialized RX1, Cond.code yX1_refuseTooLargeScratch cX1_refuseTooLargeScratch 1 none, Cond.classLink RX1 187 "java/lang/ArithmeticException", Cond.initialized "java/lang/ArithmeticException", Cond.methodLink RX1 184 yX0_isTooLarge, Cond.instanceMethod yX0_isTooLarge, Cond.selects RX0 yX0_isTooLarge yX0_isTooLarge, Cond.code yX0_isTooLarge cX0_isTooLarge 2 (some .boolean), Cond.constant RX0 70 (1000000), Cond.methodLink RX1 122 yX0_become, Cond.instanceMethod yX0_become, Cond.selects RX0 yX0_become yX0_become, Cond.code yX0_become cX0_become 2 none, Cond.methodLink RX0 23 arraycopyName, Cond.native arraycopyName]
def wsX1_add_r3 : List Cond := [Cond.static arraycopyName, Cond.initialized "java/lang/System"]
def wsX1_add : List Cond := .code yX1_add cX1_add 1 none :: ((wsX1_add_r1 ++ (wsX1_add_r2 ++ wsX1_add_r3)) ++ wsX10 ++ wsX00 ++ (vx_at0 RX1 76 "java/lang/IllegalStateException" ["java/lang/RuntimeException", "java/lang/Exception"]).filter goodWord ++ (vx_at0 RX1 189 "java/lang/ArithmeticException" ["java/lang/RuntimeException", "java/lang/Exception"]).filter goodWord)
def wsX1_refuseEmptyStack : List Cond := .code yX1_refuseEmptyStack cX1_refuseEmptyStack 1 none :: ([.classLink RX1 74 "java/lang/IllegalStateException", .initialized "java/lang/IllegalStateException", .fieldLink RX1 29 "ChoiceBoard" "stacked" "I"] ++ wsX10 ++ (vx_at0 RX1 76 "java/lang/IllegalStateException" ["java/lang/RuntimeException", "java/lang/Exception"]).filter goodWord)
def wsX1_times_r1 : List Cond := [Cond.classLink RX1 61 "java/lang/IllegalArgumentException", Cond.initialized "java/lang/IllegalArgumentException", Cond.fieldLink RX1 33 "ChoiceBoard" "scratch" "LChoiceBoard$Constraint;", Cond.fieldLink RX1 26 "ChoiceBoard" "stack" "[LChoiceBoard$Constraint;", Cond.fieldLink RX1 29 "ChoiceBoard" "stacked" "I", Cond.methodLink RX1 137 yX1_refuseEmptyStack, Cond.instanceMethod yX1_refuseEmptyStack, Cond.selects RX1 yX1_refuseEmptyStack yX1_refuseEmptyStack, Cond.initialized RX1, Cond.code yX1_refuseEmptyStack cX1_refuseEmptyStack 1 none, Cond.classLink RX1 74 "java/lang/IllegalStateException", Cond.initialized "java/lang/IllegalStateException", Cond.methodLink RX1 57 yX1_isWithin, Cond.static yX1_isWithin, Cond.code yX1_isWithin cX1_isWithin 3 (some .boolean), Cond.methodLink RX1 140 yX0_becomeMultiple, Cond.instanceMethod yX0_becomeMultiple, Cond.selects RX0 yX0_becomeMultiple yX0_becomeMultiple, Cond.initialized RX0, Cond.code yX0_becomeMultiple cX0_becomeMultiple 4 none, Cond.fieldLink RX0 9 "ChoiceBoard$Constraint" "weights" "[I", Cond.fieldLink RX0 15 "ChoiceBoard$Constraint" "degree" "I", Cond.methodLink RX1 134 yX1_refuseTooLargeScratch, Cond.instanceMethod yX1_refuseTooLargeScratch]
def wsX1_times_r2 : List Cond := [Cond.selects RX1 yX1_refuseTooLargeScratch yX1_refuseTooLargeScratch, Cond.code yX1_refuseTooLargeScratch cX1_refuseTooLargeScratch 1 none, Cond.classLink RX1 187 "java/lang/ArithmeticException", Cond.initialized "java/lang/ArithmeticException", Cond.methodLink RX1 184 yX0_isTooLarge, Cond.instanceMethod yX0_isTooLarge, Cond.selects RX0 yX0_isTooLarge yX0_isTooLarge, Cond.code yX0_isTooLarge cX0_isTooLarge 2 (some .boolean), Cond.constant RX0 70 (1000000), Cond.methodLink RX0 33 yX0_size, Cond.instanceMethod yX0_size, Cond.selects RX0 yX0_size yX0_size, Cond.code yX0_size cX0_size 2 (some .int), Cond.methodLink RX0 67 Lib.Math.abs.name, Cond.static Lib.Math.abs.name, Cond.initialized "java/lang/Math", Cond.code Lib.Math.abs.name Lib.Math.abs.code 1 (some .int), Cond.methodLink RX1 122 yX0_become, Cond.instanceMethod yX0_become, Cond.selects RX0 yX0_become yX0_become, Cond.code yX0_become cX0_become 2 none, Cond.methodLink RX0 23 arraycopyName, Cond.native arraycopyName, Cond.static arraycopyName]
def wsX1_times_r3 : List Cond := [Cond.initialized "java/lang/System"]
def wsX1_times : List Cond := .code yX1_times cX1_times 2 none :: ((wsX1_times_r1 ++ (wsX1_times_r2 ++ wsX1_times_r3)) ++ wsX10 ++ wsX00 ++ (vx_at0 RX1 63 "java/lang/IllegalArgumentException" ["java/lang/RuntimeException", "java/lang/Exception"]).filter goodWord ++ (vx_at0 RX1 76 "java/lang/IllegalStateException" ["java/lang/RuntimeException", "java/lang/Exception"]).filter goodWord ++ (vx_at0 RX1 189 "java/lang/ArithmeticException" ["java/lang/RuntimeException", "java/lang/Exception"]).filter goodWord)
def wsX1_divide_r1 : List Cond := [Cond.classLink RX1 61 "java/lang/IllegalArgumentException", Cond.initialized "java/lang/IllegalArgumentException", Cond.constant RX1 144 (1000000), Cond.fieldLink RX1 26 "ChoiceBoard" "stack" "[LChoiceBoard$Constraint;", Cond.fieldLink RX1 29 "ChoiceBoard" "stacked" "I", Cond.methodLink RX1 137 yX1_refuseEmptyStack, Cond.instanceMethod yX1_refuseEmptyStack, Cond.selects RX1 yX1_refuseEmptyStack yX1_refuseEmptyStack, Cond.initialized RX1, Cond.code yX1_refuseEmptyStack cX1_refuseEmptyStack 1 none, Cond.classLink RX1 74 "java/lang/IllegalStateException", Cond.initialized "java/lang/IllegalStateException", Cond.methodLink RX1 57 yX1_isWithin, Cond.static yX1_isWithin, Cond.code yX1_isWithin cX1_isWithin 3 (some .boolean), Cond.methodLink RX1 145 yX0_divideRoundingUp, Cond.instanceMethod yX0_divideRoundingUp, Cond.selects RX0 yX0_divideRoundingUp yX0_divideRoundingUp, Cond.initialized RX0, Cond.code yX0_divideRoundingUp cX0_divideRoundingUp 3 none, Cond.fieldLink RX0 15 "ChoiceBoard$Constraint" "degree" "I", Cond.methodLink RX0 33 yX0_size, Cond.instanceMethod yX0_size, Cond.selects RX0 yX0_size yX0_size]
def wsX1_divide_r2 : List Cond := [Cond.code yX0_size cX0_size 2 (some .int), Cond.fieldLink RX0 9 "ChoiceBoard$Constraint" "weights" "[I", Cond.methodLink RX0 67 Lib.Math.abs.name, Cond.static Lib.Math.abs.name, Cond.initialized "java/lang/Math", Cond.code Lib.Math.abs.name Lib.Math.abs.code 1 (some .int), Cond.methodLink RX0 56 yX0_quotientRoundedUp, Cond.static yX0_quotientRoundedUp, Cond.code yX0_quotientRoundedUp cX0_quotientRoundedUp 2 (some .int), Cond.methodLink RX0 59 yX0_resize, Cond.instanceMethod yX0_resize, Cond.selects RX0 yX0_resize yX0_resize, Cond.code yX0_resize cX0_resize 3 none]
def wsX1_divide : List Cond := .code yX1_divide cX1_divide 2 none :: ((wsX1_divide_r1 ++ wsX1_divide_r2) ++ wsX10 ++ wsX00 ++ (vx_at0 RX1 63 "java/lang/IllegalArgumentException" ["java/lang/RuntimeException", "java/lang/Exception"]).filter goodWord ++ (vx_at0 RX1 76 "java/lang/IllegalStateException" ["java/lang/RuntimeException", "java/lang/Exception"]).filter goodWord)
def wsX1_saturate_r1 : List Cond := [Cond.fieldLink RX1 26 "ChoiceBoard" "stack" "[LChoiceBoard$Constraint;", Cond.fieldLink RX1 29 "ChoiceBoard" "stacked" "I", Cond.methodLink RX1 137 yX1_refuseEmptyStack, Cond.instanceMethod yX1_refuseEmptyStack, Cond.selects RX1 yX1_refuseEmptyStack yX1_refuseEmptyStack, Cond.initialized RX1, Cond.code yX1_refuseEmptyStack cX1_refuseEmptyStack 1 none, Cond.classLink RX1 74 "java/lang/IllegalStateException", Cond.initialized "java/lang/IllegalStateException", Cond.methodLink RX1 149 yX0_limitSizesToDegree, Cond.instanceMethod yX0_limitSizesToDegree, Cond.selects RX0 yX0_limitSizesToDegree yX0_limitSizesToDegree, Cond.initialized RX0, Cond.code yX0_limitSizesToDegree cX0_limitSizesToDegree 2 none, Cond.fieldLink RX0 15 "ChoiceBoard$Constraint" "degree" "I", Cond.methodLink RX0 53 Lib.Math.min.name, Cond.static Lib.Math.min.name, Cond.initialized "java/lang/Math", Cond.code Lib.Math.min.name Lib.Math.min.code 2 (some .int), Cond.methodLink RX0 33 yX0_size, Cond.instanceMethod yX0_size, Cond.selects RX0 yX0_size yX0_size, Cond.code yX0_size cX0_size 2 (some .int), Cond.fieldLink RX0 9 "ChoiceBoard$Constraint" "weights" "[I"]
def wsX1_saturate_r2 : List Cond := [Cond.methodLink RX0 67 Lib.Math.abs.name, Cond.static Lib.Math.abs.name, Cond.code Lib.Math.abs.name Lib.Math.abs.code 1 (some .int), Cond.methodLink RX0 59 yX0_resize, Cond.instanceMethod yX0_resize, Cond.selects RX0 yX0_resize yX0_resize, Cond.code yX0_resize cX0_resize 3 none]
def wsX1_saturate : List Cond := .code yX1_saturate cX1_saturate 1 none :: ((wsX1_saturate_r1 ++ wsX1_saturate_r2) ++ wsX10 ++ wsX00 ++ (vx_at0 RX1 76 "java/lang/IllegalStateException" ["java/lang/RuntimeException", "java/lang/Exception"]).filter goodWord)
def wsX1_weaken_r1 : List Cond := [Cond.classLink RX1 99 "java/util/NoSuchElementException", Cond.initialized "java/util/NoSuchElementException", Cond.fieldLink RX1 26 "ChoiceBoard" "stack" "[LChoiceBoard$Constraint;", Cond.fieldLink RX1 29 "ChoiceBoard" "stacked" "I", Cond.methodLink RX1 137 yX1_refuseEmptyStack, Cond.instanceMethod yX1_refuseEmptyStack, Cond.selects RX1 yX1_refuseEmptyStack yX1_refuseEmptyStack, Cond.initialized RX1, Cond.code yX1_refuseEmptyStack cX1_refuseEmptyStack 1 none, Cond.classLink RX1 74 "java/lang/IllegalStateException", Cond.initialized "java/lang/IllegalStateException", Cond.methodLink RX1 53 yX1_isVariable, Cond.static yX1_isVariable, Cond.code yX1_isVariable cX1_isVariable 1 (some .boolean), Cond.methodLink RX1 57 yX1_isWithin, Cond.static yX1_isWithin, Cond.code yX1_isWithin cX1_isWithin 3 (some .boolean), Cond.methodLink RX1 152 yX0_giveUp, Cond.instanceMethod yX0_giveUp, Cond.selects RX0 yX0_giveUp yX0_giveUp, Cond.initialized RX0, Cond.code yX0_giveUp cX0_giveUp 2 none, Cond.fieldLink RX0 15 "ChoiceBoard$Constraint" "degree" "I", Cond.methodLink RX0 37 Lib.Math.max.name]
def wsX1_weaken_r2 : List Cond := [Cond.static Lib.Math.max.name, Cond.initialized "java/lang/Math", Cond.code Lib.Math.max.name Lib.Math.max.code 2 (some .int), Cond.fieldLink RX0 9 "ChoiceBoard$Constraint" "weights" "[I", Cond.methodLink RX0 33 yX0_size, Cond.instanceMethod yX0_size, Cond.selects RX0 yX0_size yX0_size, Cond.code yX0_size cX0_size 2 (some .int), Cond.methodLink RX0 67 Lib.Math.abs.name, Cond.static Lib.Math.abs.name, Cond.code Lib.Math.abs.name Lib.Math.abs.code 1 (some .int)]
def wsX1_weaken : List Cond := .code yX1_weaken cX1_weaken 2 none :: ((wsX1_weaken_r1 ++ wsX1_weaken_r2) ++ wsX10 ++ wsX00 ++ (vx_at0 RX1 101 "java/util/NoSuchElementException" ["java/lang/RuntimeException", "java/lang/Exception"]).filter goodWord ++ (vx_at0 RX1 76 "java/lang/IllegalStateException" ["java/lang/RuntimeException", "java/lang/Exception"]).filter goodWord)
def wsX1_drop : List Cond := .code yX1_drop cX1_drop 1 none :: ([.fieldLink RX1 29 "ChoiceBoard" "stacked" "I", .methodLink RX1 137 yX1_refuseEmptyStack, .instanceMethod yX1_refuseEmptyStack, .selects RX1 yX1_refuseEmptyStack yX1_refuseEmptyStack, .initialized RX1, .code yX1_refuseEmptyStack cX1_refuseEmptyStack 1 none, .classLink RX1 74 "java/lang/IllegalStateException", .initialized "java/lang/IllegalStateException"] ++ wsX10 ++ (vx_at0 RX1 76 "java/lang/IllegalStateException" ["java/lang/RuntimeException", "java/lang/Exception"]).filter goodWord)
def wsX1_top : List Cond := .code yX1_top cX1_top 2 (some .int) :: ([.classLink RX1 61 "java/lang/IllegalArgumentException", .initialized "java/lang/IllegalArgumentException", .fieldLink RX1 29 "ChoiceBoard" "stacked" "I", .fieldLink RX1 26 "ChoiceBoard" "stack" "[LChoiceBoard$Constraint;", .methodLink RX1 102 yX1_isQuestion, .static yX1_isQuestion, .initialized RX1, .code yX1_isQuestion cX1_isQuestion 1 (some .boolean), .methodLink RX1 57 yX1_isWithin, .static yX1_isWithin, .code yX1_isWithin cX1_isWithin 3 (some .boolean), .methodLink RX1 137 yX1_refuseEmptyStack, .instanceMethod yX1_refuseEmptyStack, .selects RX1 yX1_refuseEmptyStack yX1_refuseEmptyStack, .code yX1_refuseEmptyStack cX1_refuseEmptyStack 1 none, .classLink RX1 74 "java/lang/IllegalStateException", .initialized "java/lang/IllegalStateException", .methodLink RX1 108 yX0_weightOrDegree, .instanceMethod yX0_weightOrDegree, .selects RX0 yX0_weightOrDegree yX0_weightOrDegree, .initialized RX0, .code yX0_weightOrDegree cX0_weightOrDegree 2 (some .int), .fieldLink RX0 15 "ChoiceBoard$Constraint" "degree" "I", .fieldLink RX0 9 "ChoiceBoard$Constraint" "weights" "[I"] ++ wsX10 ++ wsX00 ++ (vx_at0 RX1 63 "java/lang/IllegalArgumentException" ["java/lang/RuntimeException", "java/lang/Exception"]).filter goodWord ++ (vx_at0 RX1 76 "java/lang/IllegalStateException" ["java/lang/RuntimeException", "java/lang/Exception"]).filter goodWord)
def wsX1_refuseFullStore : List Cond := .code yX1_refuseFullStore cX1_refuseFullStore 1 none :: ([.classLink RX1 74 "java/lang/IllegalStateException", .initialized "java/lang/IllegalStateException", .methodLink RX1 70 yX1_isStoreFull, .instanceMethod yX1_isStoreFull, .selects RX1 yX1_isStoreFull yX1_isStoreFull, .initialized RX1, .code yX1_isStoreFull cX1_isStoreFull 1 (some .boolean), .fieldLink RX1 22 "ChoiceBoard" "stored" "I"] ++ wsX10 ++ (vx_at0 RX1 76 "java/lang/IllegalStateException" ["java/lang/RuntimeException", "java/lang/Exception"]).filter goodWord)
def wsX1_learn_r1 : List Cond := [Cond.fieldLink RX1 29 "ChoiceBoard" "stacked" "I", Cond.fieldLink RX1 18 "ChoiceBoard" "store" "[LChoiceBoard$Constraint;", Cond.fieldLink RX1 22 "ChoiceBoard" "stored" "I", Cond.fieldLink RX1 26 "ChoiceBoard" "stack" "[LChoiceBoard$Constraint;", Cond.methodLink RX1 137 yX1_refuseEmptyStack, Cond.instanceMethod yX1_refuseEmptyStack, Cond.selects RX1 yX1_refuseEmptyStack yX1_refuseEmptyStack, Cond.initialized RX1, Cond.code yX1_refuseEmptyStack cX1_refuseEmptyStack 1 none, Cond.classLink RX1 74 "java/lang/IllegalStateException", Cond.initialized "java/lang/IllegalStateException", Cond.methodLink RX1 155 yX1_refuseFullStore, Cond.instanceMethod yX1_refuseFullStore, Cond.selects RX1 yX1_refuseFullStore yX1_refuseFullStore, Cond.code yX1_refuseFullStore cX1_refuseFullStore 1 none, Cond.methodLink RX1 70 yX1_isStoreFull, Cond.instanceMethod yX1_isStoreFull, Cond.selects RX1 yX1_isStoreFull yX1_isStoreFull, Cond.code yX1_isStoreFull cX1_isStoreFull 1 (some .boolean), Cond.methodLink RX1 122 yX0_become, Cond.instanceMethod yX0_become, Cond.selects RX0 yX0_become yX0_become, Cond.initialized RX0, Cond.code yX0_become cX0_become 2 none]
def wsX1_learn_r2 : List Cond := [Cond.fieldLink RX0 9 "ChoiceBoard$Constraint" "weights" "[I", Cond.methodLink RX0 23 arraycopyName, Cond.native arraycopyName, Cond.static arraycopyName, Cond.initialized "java/lang/System", Cond.fieldLink RX0 15 "ChoiceBoard$Constraint" "degree" "I", Cond.methodLink RX1 86 yX1_keepNext, Cond.instanceMethod yX1_keepNext, Cond.selects RX1 yX1_keepNext yX1_keepNext, Cond.code yX1_keepNext cX1_keepNext 2 (some .int)]
def wsX1_learn : List Cond := .code yX1_learn cX1_learn 1 (some .int) :: ((wsX1_learn_r1 ++ wsX1_learn_r2) ++ wsX10 ++ wsX00 ++ (vx_at0 RX1 76 "java/lang/IllegalStateException" ["java/lang/RuntimeException", "java/lang/Exception"]).filter goodWord)
def wsX1_contradict_r1 : List Cond := [Cond.classLink RX1 61 "java/lang/IllegalArgumentException", Cond.initialized "java/lang/IllegalArgumentException", Cond.fieldLink RX1 18 "ChoiceBoard" "store" "[LChoiceBoard$Constraint;", Cond.fieldLink RX1 22 "ChoiceBoard" "stored" "I", Cond.fieldLink RX1 9 "ChoiceBoard" "draft" "[I", Cond.methodLink RX1 57 yX1_isWithin, Cond.static yX1_isWithin, Cond.initialized RX1, Cond.code yX1_isWithin cX1_isWithin 3 (some .boolean), Cond.methodLink RX1 155 yX1_refuseFullStore, Cond.instanceMethod yX1_refuseFullStore, Cond.selects RX1 yX1_refuseFullStore yX1_refuseFullStore, Cond.code yX1_refuseFullStore cX1_refuseFullStore 1 none, Cond.classLink RX1 74 "java/lang/IllegalStateException", Cond.initialized "java/lang/IllegalStateException", Cond.methodLink RX1 70 yX1_isStoreFull, Cond.instanceMethod yX1_isStoreFull, Cond.selects RX1 yX1_isStoreFull yX1_isStoreFull, Cond.code yX1_isStoreFull cX1_isStoreFull 1 (some .boolean), Cond.methodLink RX1 77 yX0_becomeAtLeast, Cond.instanceMethod yX0_becomeAtLeast, Cond.selects RX0 yX0_becomeAtLeast yX0_becomeAtLeast, Cond.initialized RX0, Cond.code yX0_becomeAtLeast cX0_becomeAtLeast 3 none]
def wsX1_contradict_r2 : List Cond := [Cond.methodLink RX0 29 yX0_normalize, Cond.instanceMethod yX0_normalize, Cond.selects RX0 yX0_normalize yX0_normalize, Cond.code yX0_normalize cX0_normalize 6 none, Cond.fieldLink RX0 9 "ChoiceBoard$Constraint" "weights" "[I", Cond.methodLink RX0 37 Lib.Math.max.name, Cond.static Lib.Math.max.name, Cond.initialized "java/lang/Math", Cond.code Lib.Math.max.name Lib.Math.max.code 2 (some .int), Cond.fieldLink RX0 15 "ChoiceBoard$Constraint" "degree" "I", Cond.methodLink RX0 33 yX0_size, Cond.instanceMethod yX0_size, Cond.selects RX0 yX0_size yX0_size, Cond.code yX0_size cX0_size 2 (some .int), Cond.methodLink RX0 67 Lib.Math.abs.name, Cond.static Lib.Math.abs.name, Cond.code Lib.Math.abs.name Lib.Math.abs.code 1 (some .int), Cond.methodLink RX1 158 yX0_turnToContrary, Cond.instanceMethod yX0_turnToContrary, Cond.selects RX0 yX0_turnToContrary yX0_turnToContrary, Cond.code yX0_turnToContrary cX0_turnToContrary 2 none, Cond.methodLink RX0 63 yX0_sizeOfAll, Cond.instanceMethod yX0_sizeOfAll, Cond.selects RX0 yX0_sizeOfAll yX0_sizeOfAll]
def wsX1_contradict_r3 : List Cond := [Cond.code yX0_sizeOfAll cX0_sizeOfAll 3 (some .int), Cond.methodLink RX1 115 yX1_closed, Cond.instanceMethod yX1_closed, Cond.selects RX1 yX1_closed yX1_closed, Cond.code yX1_closed cX1_closed 7 (some .int), Cond.methodLink RX1 196 yX0_forcedFrom, Cond.instanceMethod yX0_forcedFrom, Cond.selects RX0 yX0_forcedFrom yX0_forcedFrom, Cond.code yX0_forcedFrom cX0_forcedFrom 6 (some .int), Cond.methodLink RX0 71 yX0_slack, Cond.instanceMethod yX0_slack, Cond.selects RX0 yX0_slack yX0_slack, Cond.code yX0_slack cX0_slack 5 (some .int), Cond.static yX1_bit, Cond.code yX1_bit cX1_bit 2 (some .int), Cond.methodLink RX0 77 yX0_countedTruth, Cond.instanceMethod yX0_countedTruth, Cond.selects RX0 yX0_countedTruth yX0_countedTruth, Cond.code yX0_countedTruth cX0_countedTruth 2 (some .int), Cond.methodLink RX1 83 yX1_clear, Cond.instanceMethod yX1_clear, Cond.selects RX1 yX1_clear yX1_clear, Cond.code yX1_clear cX1_clear 1 none, Cond.methodLink RX1 64 yJ7_fill_53178]
def wsX1_contradict_r4 : List Cond := [Cond.static yJ7_fill_53178, Cond.initialized RJ7, Cond.code yJ7_fill_53178 cJ7_fill_53178 4 none, Cond.methodLink RX1 86 yX1_keepNext, Cond.instanceMethod yX1_keepNext, Cond.selects RX1 yX1_keepNext yX1_keepNext, Cond.code yX1_keepNext cX1_keepNext 2 (some .int)]
def wsX1_contradict : List Cond := .code yX1_contradict cX1_contradict 2 (some .int) :: ((wsX1_contradict_r1 ++ (wsX1_contradict_r2 ++ (wsX1_contradict_r3 ++ wsX1_contradict_r4))) ++ wsX10 ++ wsX00 ++ (vx_at0 RX1 63 "java/lang/IllegalArgumentException" ["java/lang/RuntimeException", "java/lang/Exception"]).filter goodWord ++ (vx_at0 RX1 76 "java/lang/IllegalStateException" ["java/lang/RuntimeException", "java/lang/Exception"]).filter goodWord)
def wsX1_meetsStore_r1 : List Cond := [Cond.fieldLink RX1 22 "ChoiceBoard" "stored" "I", Cond.fieldLink RX1 18 "ChoiceBoard" "store" "[LChoiceBoard$Constraint;", Cond.methodLink RX1 190 yX0_isMetBy, Cond.instanceMethod yX0_isMetBy, Cond.selects RX0 yX0_isMetBy yX0_isMetBy, Cond.initialized RX0, Cond.code yX0_isMetBy cX0_isMetBy 2 (some .boolean), Cond.methodLink RX0 71 yX0_slack, Cond.instanceMethod yX0_slack, Cond.selects RX0 yX0_slack yX0_slack, Cond.code yX0_slack cX0_slack 5 (some .int), Cond.fieldLink RX0 15 "ChoiceBoard$Constraint" "degree" "I", Cond.static yX1_bit, Cond.initialized RX1, Cond.code yX1_bit cX1_bit 2 (some .int), Cond.methodLink RX0 77 yX0_countedTruth, Cond.instanceMethod yX0_countedTruth, Cond.selects RX0 yX0_countedTruth yX0_countedTruth, Cond.code yX0_countedTruth cX0_countedTruth 2 (some .int), Cond.fieldLink RX0 9 "ChoiceBoard$Constraint" "weights" "[I", Cond.methodLink RX0 33 yX0_size, Cond.instanceMethod yX0_size, Cond.selects RX0 yX0_size yX0_size, Cond.code yX0_size cX0_size 2 (some .int)]
def wsX1_meetsStore_r2 : List Cond := [Cond.methodLink RX0 67 Lib.Math.abs.name, Cond.static Lib.Math.abs.name, Cond.initialized "java/lang/Math", Cond.code Lib.Math.abs.name Lib.Math.abs.code 1 (some .int)]
def wsX1_meetsStore : List Cond := .code yX1_meetsStore cX1_meetsStore 5 (some .boolean) :: ((wsX1_meetsStore_r1 ++ wsX1_meetsStore_r2) ++ wsX10 ++ wsX00)
def wsX1_objectiveValue : List Cond := .code yX1_objectiveValue cX1_objectiveValue 4 (some .int) :: ([.fieldLink RX1 13 "ChoiceBoard" "objectiveFactors" "[I", .methodLink RX1 181 yX1_bit, .static yX1_bit, .initialized RX1, .code yX1_bit cX1_bit 2 (some .int)] ++ wsX10)
def wsX1_hasObjective : List Cond := .code yX1_hasObjective cX1_hasObjective 2 (some .boolean) :: ([.fieldLink RX1 13 "ChoiceBoard" "objectiveFactors" "[I"] ++ wsX10)
def wsX1_found_r1 : List Cond := [Cond.classLink RX1 61 "java/lang/IllegalArgumentException", Cond.initialized "java/lang/IllegalArgumentException", Cond.fieldLink RX1 37 "ChoiceBoard" "taken" "Z", Cond.fieldLink RX1 41 "ChoiceBoard" "bestValue" "I", Cond.fieldLink RX1 18 "ChoiceBoard" "store" "[LChoiceBoard$Constraint;", Cond.fieldLink RX1 22 "ChoiceBoard" "stored" "I", Cond.fieldLink RX1 13 "ChoiceBoard" "objectiveFactors" "[I", Cond.methodLink RX1 112 yX1_isChoice, Cond.static yX1_isChoice, Cond.initialized RX1, Cond.code yX1_isChoice cX1_isChoice 1 (some .boolean), Cond.methodLink RX1 57 yX1_isWithin, Cond.static yX1_isWithin, Cond.code yX1_isWithin cX1_isWithin 3 (some .boolean), Cond.methodLink RX1 155 yX1_refuseFullStore, Cond.instanceMethod yX1_refuseFullStore, Cond.selects RX1 yX1_refuseFullStore yX1_refuseFullStore, Cond.code yX1_refuseFullStore cX1_refuseFullStore 1 none, Cond.classLink RX1 74 "java/lang/IllegalStateException", Cond.initialized "java/lang/IllegalStateException", Cond.methodLink RX1 70 yX1_isStoreFull, Cond.instanceMethod yX1_isStoreFull, Cond.selects RX1 yX1_isStoreFull yX1_isStoreFull, Cond.code yX1_isStoreFull cX1_isStoreFull 1 (some .boolean)]
def wsX1_found_r2 : List Cond := [Cond.methodLink RX1 161 yX1_meetsStore, Cond.instanceMethod yX1_meetsStore, Cond.selects RX1 yX1_meetsStore yX1_meetsStore, Cond.code yX1_meetsStore cX1_meetsStore 5 (some .boolean), Cond.methodLink RX1 190 yX0_isMetBy, Cond.instanceMethod yX0_isMetBy, Cond.selects RX0 yX0_isMetBy yX0_isMetBy, Cond.initialized RX0, Cond.code yX0_isMetBy cX0_isMetBy 2 (some .boolean), Cond.methodLink RX0 71 yX0_slack, Cond.instanceMethod yX0_slack, Cond.selects RX0 yX0_slack yX0_slack, Cond.code yX0_slack cX0_slack 5 (some .int), Cond.fieldLink RX0 15 "ChoiceBoard$Constraint" "degree" "I", Cond.static yX1_bit, Cond.code yX1_bit cX1_bit 2 (some .int), Cond.methodLink RX0 77 yX0_countedTruth, Cond.instanceMethod yX0_countedTruth, Cond.selects RX0 yX0_countedTruth yX0_countedTruth, Cond.code yX0_countedTruth cX0_countedTruth 2 (some .int), Cond.fieldLink RX0 9 "ChoiceBoard$Constraint" "weights" "[I", Cond.methodLink RX0 33 yX0_size, Cond.instanceMethod yX0_size, Cond.selects RX0 yX0_size yX0_size]
def wsX1_found_r3 : List Cond := [Cond.code yX0_size cX0_size 2 (some .int), Cond.methodLink RX0 67 Lib.Math.abs.name, Cond.static Lib.Math.abs.name, Cond.initialized "java/lang/Math", Cond.code Lib.Math.abs.name Lib.Math.abs.code 1 (some .int), Cond.methodLink RX1 165 yX1_objectiveValue, Cond.instanceMethod yX1_objectiveValue, Cond.selects RX1 yX1_objectiveValue yX1_objectiveValue, Cond.code yX1_objectiveValue cX1_objectiveValue 4 (some .int), Cond.methodLink RX1 181 yX1_bit, Cond.methodLink RX1 168 yX1_hasObjective, Cond.instanceMethod yX1_hasObjective, Cond.selects RX1 yX1_hasObjective yX1_hasObjective, Cond.code yX1_hasObjective cX1_hasObjective 2 (some .boolean), Cond.methodLink RX1 80 yX0_becomeAtMost, Cond.instanceMethod yX0_becomeAtMost, Cond.selects RX0 yX0_becomeAtMost yX0_becomeAtMost, Cond.code yX0_becomeAtMost cX0_becomeAtMost 3 none, Cond.methodLink RX0 29 yX0_normalize, Cond.instanceMethod yX0_normalize, Cond.selects RX0 yX0_normalize yX0_normalize, Cond.code yX0_normalize cX0_normalize 6 none, Cond.methodLink RX0 37 Lib.Math.max.name, Cond.static Lib.Math.max.name]
def wsX1_found_r4 : List Cond := [Cond.code Lib.Math.max.name Lib.Math.max.code 2 (some .int), Cond.methodLink RX1 86 yX1_keepNext, Cond.instanceMethod yX1_keepNext, Cond.selects RX1 yX1_keepNext yX1_keepNext, Cond.code yX1_keepNext cX1_keepNext 2 (some .int)]
def wsX1_found : List Cond := .code yX1_found cX1_found 2 (some .boolean) :: ((wsX1_found_r1 ++ (wsX1_found_r2 ++ (wsX1_found_r3 ++ wsX1_found_r4))) ++ wsX10 ++ wsX00 ++ (vx_at0 RX1 63 "java/lang/IllegalArgumentException" ["java/lang/RuntimeException", "java/lang/Exception"]).filter goodWord ++ (vx_at0 RX1 76 "java/lang/IllegalStateException" ["java/lang/RuntimeException", "java/lang/Exception"]).filter goodWord)
def wsX1_hasVoid : List Cond := .code yX1_hasVoid cX1_hasVoid 2 (some .boolean) :: ([.fieldLink RX1 22 "ChoiceBoard" "stored" "I", .fieldLink RX1 18 "ChoiceBoard" "store" "[LChoiceBoard$Constraint;", .methodLink RX1 193 yX0_isVoid, .instanceMethod yX0_isVoid, .selects RX0 yX0_isVoid yX0_isVoid, .initialized RX0, .code yX0_isVoid cX0_isVoid 1 (some .boolean), .fieldLink RX0 15 "ChoiceBoard$Constraint" "degree" "I", .methodLink RX0 63 yX0_sizeOfAll, .instanceMethod yX0_sizeOfAll, .selects RX0 yX0_sizeOfAll yX0_sizeOfAll, .code yX0_sizeOfAll cX0_sizeOfAll 3 (some .int), .methodLink RX0 33 yX0_size, .instanceMethod yX0_size, .selects RX0 yX0_size yX0_size, .code yX0_size cX0_size 2 (some .int), .fieldLink RX0 9 "ChoiceBoard$Constraint" "weights" "[I", .methodLink RX0 67 Lib.Math.abs.name, .static Lib.Math.abs.name, .initialized "java/lang/Math", .code Lib.Math.abs.name Lib.Math.abs.code 1 (some .int)] ++ wsX10 ++ wsX00)
def wsX1_verdict_r1 : List Cond := [Cond.fieldLink RX1 37 "ChoiceBoard" "taken" "Z", Cond.methodLink RX1 171 yX1_hasVoid, Cond.instanceMethod yX1_hasVoid, Cond.selects RX1 yX1_hasVoid yX1_hasVoid, Cond.initialized RX1, Cond.code yX1_hasVoid cX1_hasVoid 2 (some .boolean), Cond.fieldLink RX1 22 "ChoiceBoard" "stored" "I", Cond.fieldLink RX1 18 "ChoiceBoard" "store" "[LChoiceBoard$Constraint;", Cond.methodLink RX1 193 yX0_isVoid, Cond.instanceMethod yX0_isVoid, Cond.selects RX0 yX0_isVoid yX0_isVoid, Cond.initialized RX0, Cond.code yX0_isVoid cX0_isVoid 1 (some .boolean), Cond.fieldLink RX0 15 "ChoiceBoard$Constraint" "degree" "I", Cond.methodLink RX0 63 yX0_sizeOfAll, Cond.instanceMethod yX0_sizeOfAll, Cond.selects RX0 yX0_sizeOfAll yX0_sizeOfAll, Cond.code yX0_sizeOfAll cX0_sizeOfAll 3 (some .int), Cond.methodLink RX0 33 yX0_size, Cond.instanceMethod yX0_size, Cond.selects RX0 yX0_size yX0_size, Cond.code yX0_size cX0_size 2 (some .int), Cond.fieldLink RX0 9 "ChoiceBoard$Constraint" "weights" "[I", Cond.methodLink RX0 67 Lib.Math.abs.name]
def wsX1_verdict_r2 : List Cond := [Cond.static Lib.Math.abs.name, Cond.initialized "java/lang/Math", Cond.code Lib.Math.abs.name Lib.Math.abs.code 1 (some .int), Cond.methodLink RX1 168 yX1_hasObjective, Cond.instanceMethod yX1_hasObjective, Cond.selects RX1 yX1_hasObjective yX1_hasObjective, Cond.code yX1_hasObjective cX1_hasObjective 2 (some .boolean), Cond.fieldLink RX1 13 "ChoiceBoard" "objectiveFactors" "[I"]
def wsX1_verdict : List Cond := .code yX1_verdict cX1_verdict 1 (some .int) :: ((wsX1_verdict_r1 ++ wsX1_verdict_r2) ++ wsX10 ++ wsX00)
def wsX1_best : List Cond := .code yX1_best cX1_best 1 (some .int) :: ([.classLink RX1 99 "java/util/NoSuchElementException", .initialized "java/util/NoSuchElementException", .fieldLink RX1 37 "ChoiceBoard" "taken" "Z", .fieldLink RX1 41 "ChoiceBoard" "bestValue" "I"] ++ wsX10 ++ (vx_at0 RX1 101 "java/util/NoSuchElementException" ["java/lang/RuntimeException", "java/lang/Exception"]).filter goodWord)
def wsX1_comesBefore : List Cond := .code yX1_comesBefore cX1_comesBefore 4 (some .boolean) :: ([])
def wsX1_isPreferred : List Cond := .code yX1_isPreferred cX1_isPreferred 3 (some .boolean) :: ([.fieldLink RX1 44 "ChoiceBoard" "solved" "Z", .fieldLink RX1 47 "ChoiceBoard" "leastValue" "I", .fieldLink RX1 50 "ChoiceBoard" "leastChoice" "I", .methodLink RX1 199 yX1_comesBefore, .static yX1_comesBefore, .initialized RX1, .code yX1_comesBefore cX1_comesBefore 4 (some .boolean)] ++ wsX10)
def wsX1_solve_r1 : List Cond := [Cond.fieldLink RX1 44 "ChoiceBoard" "solved" "Z", Cond.fieldLink RX1 47 "ChoiceBoard" "leastValue" "I", Cond.fieldLink RX1 50 "ChoiceBoard" "leastChoice" "I", Cond.methodLink RX1 165 yX1_objectiveValue, Cond.instanceMethod yX1_objectiveValue, Cond.selects RX1 yX1_objectiveValue yX1_objectiveValue, Cond.initialized RX1, Cond.code yX1_objectiveValue cX1_objectiveValue 4 (some .int), Cond.fieldLink RX1 13 "ChoiceBoard" "objectiveFactors" "[I", Cond.methodLink RX1 181 yX1_bit, Cond.static yX1_bit, Cond.code yX1_bit cX1_bit 2 (some .int), Cond.methodLink RX1 174 yX1_isPreferred, Cond.instanceMethod yX1_isPreferred, Cond.selects RX1 yX1_isPreferred yX1_isPreferred, Cond.code yX1_isPreferred cX1_isPreferred 3 (some .boolean), Cond.methodLink RX1 199 yX1_comesBefore, Cond.static yX1_comesBefore, Cond.code yX1_comesBefore cX1_comesBefore 4 (some .boolean), Cond.methodLink RX1 161 yX1_meetsStore, Cond.instanceMethod yX1_meetsStore, Cond.selects RX1 yX1_meetsStore yX1_meetsStore, Cond.code yX1_meetsStore cX1_meetsStore 5 (some .boolean), Cond.fieldLink RX1 22 "ChoiceBoard" "stored" "I"]
def wsX1_solve_r2 : List Cond := [Cond.fieldLink RX1 18 "ChoiceBoard" "store" "[LChoiceBoard$Constraint;", Cond.methodLink RX1 190 yX0_isMetBy, Cond.instanceMethod yX0_isMetBy, Cond.selects RX0 yX0_isMetBy yX0_isMetBy, Cond.initialized RX0, Cond.code yX0_isMetBy cX0_isMetBy 2 (some .boolean), Cond.methodLink RX0 71 yX0_slack, Cond.instanceMethod yX0_slack, Cond.selects RX0 yX0_slack yX0_slack, Cond.code yX0_slack cX0_slack 5 (some .int), Cond.fieldLink RX0 15 "ChoiceBoard$Constraint" "degree" "I", Cond.methodLink RX0 77 yX0_countedTruth, Cond.instanceMethod yX0_countedTruth, Cond.selects RX0 yX0_countedTruth yX0_countedTruth, Cond.code yX0_countedTruth cX0_countedTruth 2 (some .int), Cond.fieldLink RX0 9 "ChoiceBoard$Constraint" "weights" "[I", Cond.methodLink RX0 33 yX0_size, Cond.instanceMethod yX0_size, Cond.selects RX0 yX0_size yX0_size, Cond.code yX0_size cX0_size 2 (some .int), Cond.methodLink RX0 67 Lib.Math.abs.name, Cond.static Lib.Math.abs.name, Cond.initialized "java/lang/Math", Cond.code Lib.Math.abs.name Lib.Math.abs.code 1 (some .int)]
def wsX1_solve : List Cond := .code yX1_solve cX1_solve 3 (some .int) :: ((wsX1_solve_r1 ++ wsX1_solve_r2) ++ wsX10 ++ wsX00)
def wsX1_refuseUnsolved : List Cond := .code yX1_refuseUnsolved cX1_refuseUnsolved 1 none :: ([.classLink RX1 99 "java/util/NoSuchElementException", .initialized "java/util/NoSuchElementException", .fieldLink RX1 44 "ChoiceBoard" "solved" "Z"] ++ wsX10 ++ (vx_at0 RX1 101 "java/util/NoSuchElementException" ["java/lang/RuntimeException", "java/lang/Exception"]).filter goodWord)
def wsX1_least : List Cond := .code yX1_least cX1_least 1 (some .int) :: ([.fieldLink RX1 47 "ChoiceBoard" "leastValue" "I", .methodLink RX1 178 yX1_refuseUnsolved, .instanceMethod yX1_refuseUnsolved, .selects RX1 yX1_refuseUnsolved yX1_refuseUnsolved, .initialized RX1, .code yX1_refuseUnsolved cX1_refuseUnsolved 1 none, .classLink RX1 99 "java/util/NoSuchElementException", .initialized "java/util/NoSuchElementException", .fieldLink RX1 44 "ChoiceBoard" "solved" "Z"] ++ wsX10 ++ (vx_at0 RX1 101 "java/util/NoSuchElementException" ["java/lang/RuntimeException", "java/lang/Exception"]).filter goodWord)
def wsX1_value : List Cond := .code yX1_value cX1_value 2 (some .int) :: ([.classLink RX1 61 "java/lang/IllegalArgumentException", .initialized "java/lang/IllegalArgumentException", .fieldLink RX1 50 "ChoiceBoard" "leastChoice" "I", .methodLink RX1 178 yX1_refuseUnsolved, .instanceMethod yX1_refuseUnsolved, .selects RX1 yX1_refuseUnsolved yX1_refuseUnsolved, .initialized RX1, .code yX1_refuseUnsolved cX1_refuseUnsolved 1 none, .classLink RX1 99 "java/util/NoSuchElementException", .initialized "java/util/NoSuchElementException", .fieldLink RX1 44 "ChoiceBoard" "solved" "Z", .methodLink RX1 53 yX1_isVariable, .static yX1_isVariable, .code yX1_isVariable cX1_isVariable 1 (some .boolean), .methodLink RX1 57 yX1_isWithin, .static yX1_isWithin, .code yX1_isWithin cX1_isWithin 3 (some .boolean), .methodLink RX1 181 yX1_bit, .static yX1_bit, .code yX1_bit cX1_bit 2 (some .int)] ++ wsX10 ++ (vx_at0 RX1 63 "java/lang/IllegalArgumentException" ["java/lang/RuntimeException", "java/lang/Exception"]).filter goodWord ++ (vx_at0 RX1 101 "java/util/NoSuchElementException" ["java/lang/RuntimeException", "java/lang/Exception"]).filter goodWord)
def wsX2_init : List Cond := .code yX2_init cX2_init 1 none :: ([.methodLink RX2 1 objectInit, .instanceMethod objectInit, .code objectInit ⟨#[0xb1]⟩ 1 none, .arrayClass .int, .fieldLink RX2 7 "ChoiceBoardModel" "cell" "[I", .arrayClass .boolean, .fieldLink RX2 13 "ChoiceBoardModel" "given" "[Z", .fieldLink RX2 17 "ChoiceBoardModel" "draft" "[I", .fieldLink RX2 20 "ChoiceBoardModel" "goal" "[I", .fieldLink RX2 23 "ChoiceBoardModel" "state" "[I"] ++ wsX20)
def wsX2_thrown : List Cond := .code yX2_thrown cX2_thrown 1 (some .int) :: ([.fieldLink RX2 26 "ChoiceBoardModel" "thrown" "I"] ++ wsX20)
def wsX2_outside : List Cond := .code yX2_outside cX2_outside 3 (some .boolean) :: ([])
def wsX2_fails : List Cond := .code yX2_fails cX2_fails 4 (some .boolean) :: ([.fieldLink RX2 26 "ChoiceBoardModel" "thrown" "I"] ++ wsX20)
def wsX2_size : List Cond := .code yX2_size cX2_size 1 (some .int) :: ([])
def wsX2_sizes : List Cond := .code yX2_sizes cX2_sizes 4 (some .int) :: ([.fieldLink RX2 7 "ChoiceBoardModel" "cell" "[I", .methodLink RX2 30 yX2_size, .static yX2_size, .initialized RX2, .code yX2_size cX2_size 1 (some .int)] ++ wsX20)
def wsX2_copy : List Cond := .code yX2_copy cX2_copy 4 none :: ([.fieldLink RX2 7 "ChoiceBoardModel" "cell" "[I"] ++ wsX20)
def wsX2_term : List Cond := .code yX2_term cX2_term 3 none :: ([.fieldLink RX2 17 "ChoiceBoardModel" "draft" "[I", .methodLink RX2 34 yX2_outside, .static yX2_outside, .initialized RX2, .code yX2_outside cX2_outside 3 (some .boolean), .methodLink RX2 38 yX2_fails, .instanceMethod yX2_fails, .selects RX2 yX2_fails yX2_fails, .code yX2_fails cX2_fails 4 (some .boolean), .fieldLink RX2 26 "ChoiceBoardModel" "thrown" "I"] ++ wsX20)
def wsX2_empty : List Cond := .code yX2_empty cX2_empty 2 none :: ([.fieldLink RX2 17 "ChoiceBoardModel" "draft" "[I"] ++ wsX20)
def wsX2_clear : List Cond := .code yX2_clear cX2_clear 1 none :: ([.fieldLink RX2 26 "ChoiceBoardModel" "thrown" "I", .methodLink RX2 42 yX2_empty, .instanceMethod yX2_empty, .selects RX2 yX2_empty yX2_empty, .initialized RX2, .code yX2_empty cX2_empty 2 none, .fieldLink RX2 17 "ChoiceBoardModel" "draft" "[I"] ++ wsX20)
def wsX2_normalize : List Cond := .code yX2_normalize cX2_normalize 7 none :: ([.fieldLink RX2 20 "ChoiceBoardModel" "goal" "[I", .fieldLink RX2 17 "ChoiceBoardModel" "draft" "[I", .fieldLink RX2 7 "ChoiceBoardModel" "cell" "[I"] ++ wsX20)
def wsX2_keep : List Cond := .code yX2_keep cX2_keep 3 (some .int) :: ([.fieldLink RX2 45 "ChoiceBoardModel" "stored" "I", .fieldLink RX2 13 "ChoiceBoardModel" "given" "[Z", .methodLink RX2 48 yX2_copy, .instanceMethod yX2_copy, .selects RX2 yX2_copy yX2_copy, .initialized RX2, .code yX2_copy cX2_copy 4 none, .fieldLink RX2 7 "ChoiceBoardModel" "cell" "[I"] ++ wsX20)
def wsX2_require_r1 : List Cond := [Cond.fieldLink RX2 45 "ChoiceBoardModel" "stored" "I", Cond.fieldLink RX2 52 "ChoiceBoardModel" "taken" "Z", Cond.methodLink RX2 34 yX2_outside, Cond.static yX2_outside, Cond.initialized RX2, Cond.code yX2_outside cX2_outside 3 (some .boolean), Cond.methodLink RX2 38 yX2_fails, Cond.instanceMethod yX2_fails, Cond.selects RX2 yX2_fails yX2_fails, Cond.code yX2_fails cX2_fails 4 (some .boolean), Cond.fieldLink RX2 26 "ChoiceBoardModel" "thrown" "I", Cond.methodLink RX2 56 yX2_normalize, Cond.instanceMethod yX2_normalize, Cond.selects RX2 yX2_normalize yX2_normalize, Cond.code yX2_normalize cX2_normalize 7 none, Cond.fieldLink RX2 20 "ChoiceBoardModel" "goal" "[I", Cond.fieldLink RX2 17 "ChoiceBoardModel" "draft" "[I", Cond.fieldLink RX2 7 "ChoiceBoardModel" "cell" "[I", Cond.methodLink RX2 42 yX2_empty, Cond.instanceMethod yX2_empty, Cond.selects RX2 yX2_empty yX2_empty, Cond.code yX2_empty cX2_empty 2 none, Cond.methodLink RX2 60 yX2_keep, Cond.instanceMethod yX2_keep]
def wsX2_require_r2 : List Cond := [Cond.selects RX2 yX2_keep yX2_keep, Cond.code yX2_keep cX2_keep 3 (some .int), Cond.fieldLink RX2 13 "ChoiceBoardModel" "given" "[Z", Cond.methodLink RX2 48 yX2_copy, Cond.instanceMethod yX2_copy, Cond.selects RX2 yX2_copy yX2_copy, Cond.code yX2_copy cX2_copy 4 none]
def wsX2_require : List Cond := .code yX2_require cX2_require 3 (some .int) :: ((wsX2_require_r1 ++ wsX2_require_r2) ++ wsX20)
def wsX2_objective : List Cond := .code yX2_objective cX2_objective 2 none :: ([.fieldLink RX2 52 "ChoiceBoardModel" "taken" "Z", .fieldLink RX2 20 "ChoiceBoardModel" "goal" "[I", .fieldLink RX2 17 "ChoiceBoardModel" "draft" "[I", .methodLink RX2 38 yX2_fails, .instanceMethod yX2_fails, .selects RX2 yX2_fails yX2_fails, .initialized RX2, .code yX2_fails cX2_fails 4 (some .boolean), .fieldLink RX2 26 "ChoiceBoardModel" "thrown" "I", .methodLink RX2 42 yX2_empty, .instanceMethod yX2_empty, .selects RX2 yX2_empty yX2_empty, .code yX2_empty cX2_empty 2 none] ++ wsX20)
def wsX2_constraints : List Cond := .code yX2_constraints cX2_constraints 1 (some .int) :: ([.fieldLink RX2 26 "ChoiceBoardModel" "thrown" "I", .fieldLink RX2 45 "ChoiceBoardModel" "stored" "I"] ++ wsX20)
def wsX2_constraint : List Cond := .code yX2_constraint cX2_constraint 3 (some .int) :: ([.fieldLink RX2 45 "ChoiceBoardModel" "stored" "I", .fieldLink RX2 13 "ChoiceBoardModel" "given" "[Z", .fieldLink RX2 7 "ChoiceBoardModel" "cell" "[I", .methodLink RX2 34 yX2_outside, .static yX2_outside, .initialized RX2, .code yX2_outside cX2_outside 3 (some .boolean), .methodLink RX2 38 yX2_fails, .instanceMethod yX2_fails, .selects RX2 yX2_fails yX2_fails, .code yX2_fails cX2_fails 4 (some .boolean), .fieldLink RX2 26 "ChoiceBoardModel" "thrown" "I"] ++ wsX20)
def wsX2_slack : List Cond := .code yX2_slack cX2_slack 6 (some .int) :: ([.fieldLink RX2 7 "ChoiceBoardModel" "cell" "[I", .fieldLink RX2 23 "ChoiceBoardModel" "state" "[I", .methodLink RX2 30 yX2_size, .static yX2_size, .initialized RX2, .code yX2_size cX2_size 1 (some .int)] ++ wsX20)
def wsX2_tighten : List Cond := .code yX2_tighten cX2_tighten 6 (some .int) :: ([.fieldLink RX2 7 "ChoiceBoardModel" "cell" "[I", .fieldLink RX2 23 "ChoiceBoardModel" "state" "[I", .methodLink RX2 64 yX2_slack, .instanceMethod yX2_slack, .selects RX2 yX2_slack yX2_slack, .initialized RX2, .code yX2_slack cX2_slack 6 (some .int), .methodLink RX2 30 yX2_size, .static yX2_size, .code yX2_size cX2_size 1 (some .int)] ++ wsX20)
def wsX2_closes : List Cond := .code yX2_closes cX2_closes 6 (some .boolean) :: ([.fieldLink RX2 45 "ChoiceBoardModel" "stored" "I", .methodLink RX2 67 yX2_tighten, .instanceMethod yX2_tighten, .selects RX2 yX2_tighten yX2_tighten, .initialized RX2, .code yX2_tighten cX2_tighten 6 (some .int), .fieldLink RX2 7 "ChoiceBoardModel" "cell" "[I", .fieldLink RX2 23 "ChoiceBoardModel" "state" "[I", .methodLink RX2 64 yX2_slack, .instanceMethod yX2_slack, .selects RX2 yX2_slack yX2_slack, .code yX2_slack cX2_slack 6 (some .int), .methodLink RX2 30 yX2_size, .static yX2_size, .code yX2_size cX2_size 1 (some .int)] ++ wsX20)
def wsX2_close_r1 : List Cond := [Cond.fieldLink RX2 23 "ChoiceBoardModel" "state" "[I", Cond.methodLink RX2 34 yX2_outside, Cond.static yX2_outside, Cond.initialized RX2, Cond.code yX2_outside cX2_outside 3 (some .boolean), Cond.methodLink RX2 38 yX2_fails, Cond.instanceMethod yX2_fails, Cond.selects RX2 yX2_fails yX2_fails, Cond.code yX2_fails cX2_fails 4 (some .boolean), Cond.fieldLink RX2 26 "ChoiceBoardModel" "thrown" "I", Cond.methodLink RX2 70 yX2_closes, Cond.instanceMethod yX2_closes, Cond.selects RX2 yX2_closes yX2_closes, Cond.code yX2_closes cX2_closes 6 (some .boolean), Cond.fieldLink RX2 45 "ChoiceBoardModel" "stored" "I", Cond.methodLink RX2 67 yX2_tighten, Cond.instanceMethod yX2_tighten, Cond.selects RX2 yX2_tighten yX2_tighten, Cond.code yX2_tighten cX2_tighten 6 (some .int), Cond.fieldLink RX2 7 "ChoiceBoardModel" "cell" "[I", Cond.methodLink RX2 64 yX2_slack, Cond.instanceMethod yX2_slack, Cond.selects RX2 yX2_slack yX2_slack, Cond.code yX2_slack cX2_slack 6 (some .int)]
def wsX2_close_r2 : List Cond := [Cond.methodLink RX2 30 yX2_size, Cond.static yX2_size, Cond.code yX2_size cX2_size 1 (some .int)]
def wsX2_close : List Cond := .code yX2_close cX2_close 5 (some .int) :: ((wsX2_close_r1 ++ wsX2_close_r2) ++ wsX20)
def wsX2_upper : List Cond := .code yX2_upper cX2_upper 1 (some .int) :: ([.fieldLink RX2 74 "ChoiceBoardModel" "stacked" "I"] ++ wsX20)
def wsX2_load : List Cond := .code yX2_load cX2_load 2 none :: ([.fieldLink RX2 45 "ChoiceBoardModel" "stored" "I", .fieldLink RX2 74 "ChoiceBoardModel" "stacked" "I", .methodLink RX2 34 yX2_outside, .static yX2_outside, .initialized RX2, .code yX2_outside cX2_outside 3 (some .boolean), .methodLink RX2 38 yX2_fails, .instanceMethod yX2_fails, .selects RX2 yX2_fails yX2_fails, .code yX2_fails cX2_fails 4 (some .boolean), .fieldLink RX2 26 "ChoiceBoardModel" "thrown" "I", .methodLink RX2 77 yX2_upper, .instanceMethod yX2_upper, .selects RX2 yX2_upper yX2_upper, .code yX2_upper cX2_upper 1 (some .int), .methodLink RX2 48 yX2_copy, .instanceMethod yX2_copy, .selects RX2 yX2_copy yX2_copy, .code yX2_copy cX2_copy 4 none, .fieldLink RX2 7 "ChoiceBoardModel" "cell" "[I"] ++ wsX20)
def wsX2_axiom : List Cond := .code yX2_axiom cX2_axiom 4 none :: ([.fieldLink RX2 74 "ChoiceBoardModel" "stacked" "I", .fieldLink RX2 7 "ChoiceBoardModel" "cell" "[I", .methodLink RX2 34 yX2_outside, .static yX2_outside, .initialized RX2, .code yX2_outside cX2_outside 3 (some .boolean), .methodLink RX2 38 yX2_fails, .instanceMethod yX2_fails, .selects RX2 yX2_fails yX2_fails, .code yX2_fails cX2_fails 4 (some .boolean), .fieldLink RX2 26 "ChoiceBoardModel" "thrown" "I", .methodLink RX2 77 yX2_upper, .instanceMethod yX2_upper, .selects RX2 yX2_upper yX2_upper, .code yX2_upper cX2_upper 1 (some .int)] ++ wsX20)
def wsX2_large : List Cond := .code yX2_large cX2_large 4 (some .boolean) :: ([.fieldLink RX2 7 "ChoiceBoardModel" "cell" "[I", .constant RX2 81 (1000000), .methodLink RX2 30 yX2_size, .static yX2_size, .initialized RX2, .code yX2_size cX2_size 1 (some .int)] ++ wsX20)
def wsX2_add : List Cond := .code yX2_add cX2_add 8 none :: ([.fieldLink RX2 74 "ChoiceBoardModel" "stacked" "I", .fieldLink RX2 7 "ChoiceBoardModel" "cell" "[I", .methodLink RX2 38 yX2_fails, .instanceMethod yX2_fails, .selects RX2 yX2_fails yX2_fails, .initialized RX2, .code yX2_fails cX2_fails 4 (some .boolean), .fieldLink RX2 26 "ChoiceBoardModel" "thrown" "I", .methodLink RX2 77 yX2_upper, .instanceMethod yX2_upper, .selects RX2 yX2_upper yX2_upper, .code yX2_upper cX2_upper 1 (some .int), .methodLink RX2 30 yX2_size, .static yX2_size, .code yX2_size cX2_size 1 (some .int), .methodLink RX2 82 yX2_large, .instanceMethod yX2_large, .selects RX2 yX2_large yX2_large, .code yX2_large cX2_large 4 (some .boolean), .constant RX2 81 (1000000), .methodLink RX2 48 yX2_copy, .instanceMethod yX2_copy, .selects RX2 yX2_copy yX2_copy, .code yX2_copy cX2_copy 4 none] ++ wsX20)
def wsX2_times_r1 : List Cond := [Cond.fieldLink RX2 74 "ChoiceBoardModel" "stacked" "I", Cond.fieldLink RX2 7 "ChoiceBoardModel" "cell" "[I", Cond.methodLink RX2 34 yX2_outside, Cond.static yX2_outside, Cond.initialized RX2, Cond.code yX2_outside cX2_outside 3 (some .boolean), Cond.methodLink RX2 38 yX2_fails, Cond.instanceMethod yX2_fails, Cond.selects RX2 yX2_fails yX2_fails, Cond.code yX2_fails cX2_fails 4 (some .boolean), Cond.fieldLink RX2 26 "ChoiceBoardModel" "thrown" "I", Cond.methodLink RX2 77 yX2_upper, Cond.instanceMethod yX2_upper, Cond.selects RX2 yX2_upper yX2_upper, Cond.code yX2_upper cX2_upper 1 (some .int), Cond.methodLink RX2 82 yX2_large, Cond.instanceMethod yX2_large, Cond.selects RX2 yX2_large yX2_large, Cond.code yX2_large cX2_large 4 (some .boolean), Cond.constant RX2 81 (1000000), Cond.methodLink RX2 30 yX2_size, Cond.static yX2_size, Cond.code yX2_size cX2_size 1 (some .int), Cond.methodLink RX2 48 yX2_copy]
def wsX2_times_r2 : List Cond := [Cond.instanceMethod yX2_copy, Cond.selects RX2 yX2_copy yX2_copy, Cond.code yX2_copy cX2_copy 4 none]
def wsX2_times : List Cond := .code yX2_times cX2_times 3 none :: ((wsX2_times_r1 ++ wsX2_times_r2) ++ wsX20)
def wsX2_part : List Cond := .code yX2_part cX2_part 2 (some .int) :: ([])
def wsX2_divide : List Cond := .code yX2_divide cX2_divide 4 none :: ([.fieldLink RX2 74 "ChoiceBoardModel" "stacked" "I", .constant RX2 81 (1000000), .fieldLink RX2 7 "ChoiceBoardModel" "cell" "[I", .methodLink RX2 34 yX2_outside, .static yX2_outside, .initialized RX2, .code yX2_outside cX2_outside 3 (some .boolean), .methodLink RX2 38 yX2_fails, .instanceMethod yX2_fails, .selects RX2 yX2_fails yX2_fails, .code yX2_fails cX2_fails 4 (some .boolean), .fieldLink RX2 26 "ChoiceBoardModel" "thrown" "I", .methodLink RX2 77 yX2_upper, .instanceMethod yX2_upper, .selects RX2 yX2_upper yX2_upper, .code yX2_upper cX2_upper 1 (some .int), .methodLink RX2 86 yX2_part, .static yX2_part, .code yX2_part cX2_part 2 (some .int)] ++ wsX20)
def wsX2_saturate : List Cond := .code yX2_saturate cX2_saturate 4 none :: ([.fieldLink RX2 74 "ChoiceBoardModel" "stacked" "I", .fieldLink RX2 7 "ChoiceBoardModel" "cell" "[I", .methodLink RX2 38 yX2_fails, .instanceMethod yX2_fails, .selects RX2 yX2_fails yX2_fails, .initialized RX2, .code yX2_fails cX2_fails 4 (some .boolean), .fieldLink RX2 26 "ChoiceBoardModel" "thrown" "I", .methodLink RX2 77 yX2_upper, .instanceMethod yX2_upper, .selects RX2 yX2_upper yX2_upper, .code yX2_upper cX2_upper 1 (some .int), .methodLink RX2 30 yX2_size, .static yX2_size, .code yX2_size cX2_size 1 (some .int)] ++ wsX20)
def wsX2_weaken : List Cond := .code yX2_weaken cX2_weaken 3 none :: ([.fieldLink RX2 74 "ChoiceBoardModel" "stacked" "I", .fieldLink RX2 7 "ChoiceBoardModel" "cell" "[I", .methodLink RX2 34 yX2_outside, .static yX2_outside, .initialized RX2, .code yX2_outside cX2_outside 3 (some .boolean), .methodLink RX2 38 yX2_fails, .instanceMethod yX2_fails, .selects RX2 yX2_fails yX2_fails, .code yX2_fails cX2_fails 4 (some .boolean), .fieldLink RX2 26 "ChoiceBoardModel" "thrown" "I", .methodLink RX2 77 yX2_upper, .instanceMethod yX2_upper, .selects RX2 yX2_upper yX2_upper, .code yX2_upper cX2_upper 1 (some .int), .methodLink RX2 30 yX2_size, .static yX2_size, .code yX2_size cX2_size 1 (some .int)] ++ wsX20)
def wsX2_drop : List Cond := .code yX2_drop cX2_drop 1 none :: ([.fieldLink RX2 74 "ChoiceBoardModel" "stacked" "I", .methodLink RX2 38 yX2_fails, .instanceMethod yX2_fails, .selects RX2 yX2_fails yX2_fails, .initialized RX2, .code yX2_fails cX2_fails 4 (some .boolean), .fieldLink RX2 26 "ChoiceBoardModel" "thrown" "I"] ++ wsX20)
def wsX2_top : List Cond := .code yX2_top cX2_top 2 (some .int) :: ([.fieldLink RX2 74 "ChoiceBoardModel" "stacked" "I", .fieldLink RX2 7 "ChoiceBoardModel" "cell" "[I", .methodLink RX2 34 yX2_outside, .static yX2_outside, .initialized RX2, .code yX2_outside cX2_outside 3 (some .boolean), .methodLink RX2 38 yX2_fails, .instanceMethod yX2_fails, .selects RX2 yX2_fails yX2_fails, .code yX2_fails cX2_fails 4 (some .boolean), .fieldLink RX2 26 "ChoiceBoardModel" "thrown" "I", .methodLink RX2 77 yX2_upper, .instanceMethod yX2_upper, .selects RX2 yX2_upper yX2_upper, .code yX2_upper cX2_upper 1 (some .int)] ++ wsX20)
def wsX2_learn : List Cond := .code yX2_learn cX2_learn 2 (some .int) :: ([.fieldLink RX2 74 "ChoiceBoardModel" "stacked" "I", .fieldLink RX2 45 "ChoiceBoardModel" "stored" "I", .methodLink RX2 38 yX2_fails, .instanceMethod yX2_fails, .selects RX2 yX2_fails yX2_fails, .initialized RX2, .code yX2_fails cX2_fails 4 (some .boolean), .fieldLink RX2 26 "ChoiceBoardModel" "thrown" "I", .methodLink RX2 77 yX2_upper, .instanceMethod yX2_upper, .selects RX2 yX2_upper yX2_upper, .code yX2_upper cX2_upper 1 (some .int), .methodLink RX2 60 yX2_keep, .instanceMethod yX2_keep, .selects RX2 yX2_keep yX2_keep, .code yX2_keep cX2_keep 3 (some .int), .fieldLink RX2 13 "ChoiceBoardModel" "given" "[Z", .methodLink RX2 48 yX2_copy, .instanceMethod yX2_copy, .selects RX2 yX2_copy yX2_copy, .code yX2_copy cX2_copy 4 none, .fieldLink RX2 7 "ChoiceBoardModel" "cell" "[I"] ++ wsX20)
def wsX2_contradict_r1 : List Cond := [Cond.fieldLink RX2 45 "ChoiceBoardModel" "stored" "I", Cond.fieldLink RX2 7 "ChoiceBoardModel" "cell" "[I", Cond.fieldLink RX2 23 "ChoiceBoardModel" "state" "[I", Cond.methodLink RX2 34 yX2_outside, Cond.static yX2_outside, Cond.initialized RX2, Cond.code yX2_outside cX2_outside 3 (some .boolean), Cond.methodLink RX2 38 yX2_fails, Cond.instanceMethod yX2_fails, Cond.selects RX2 yX2_fails yX2_fails, Cond.code yX2_fails cX2_fails 4 (some .boolean), Cond.fieldLink RX2 26 "ChoiceBoardModel" "thrown" "I", Cond.methodLink RX2 56 yX2_normalize, Cond.instanceMethod yX2_normalize, Cond.selects RX2 yX2_normalize yX2_normalize, Cond.code yX2_normalize cX2_normalize 7 none, Cond.fieldLink RX2 20 "ChoiceBoardModel" "goal" "[I", Cond.fieldLink RX2 17 "ChoiceBoardModel" "draft" "[I", Cond.methodLink RX2 90 yX2_sizes, Cond.instanceMethod yX2_sizes, Cond.selects RX2 yX2_sizes yX2_sizes, Cond.code yX2_sizes cX2_sizes 4 (some .int), Cond.methodLink RX2 30 yX2_size, Cond.static yX2_size]
def wsX2_contradict_r2 : List Cond := [Cond.code yX2_size cX2_size 1 (some .int), Cond.methodLink RX2 70 yX2_closes, Cond.instanceMethod yX2_closes, Cond.selects RX2 yX2_closes yX2_closes, Cond.code yX2_closes cX2_closes 6 (some .boolean), Cond.methodLink RX2 67 yX2_tighten, Cond.instanceMethod yX2_tighten, Cond.selects RX2 yX2_tighten yX2_tighten, Cond.code yX2_tighten cX2_tighten 6 (some .int), Cond.methodLink RX2 64 yX2_slack, Cond.instanceMethod yX2_slack, Cond.selects RX2 yX2_slack yX2_slack, Cond.code yX2_slack cX2_slack 6 (some .int), Cond.methodLink RX2 42 yX2_empty, Cond.instanceMethod yX2_empty, Cond.selects RX2 yX2_empty yX2_empty, Cond.code yX2_empty cX2_empty 2 none, Cond.methodLink RX2 60 yX2_keep, Cond.instanceMethod yX2_keep, Cond.selects RX2 yX2_keep yX2_keep, Cond.code yX2_keep cX2_keep 3 (some .int), Cond.fieldLink RX2 13 "ChoiceBoardModel" "given" "[Z", Cond.methodLink RX2 48 yX2_copy, Cond.instanceMethod yX2_copy]
def wsX2_contradict_r3 : List Cond := [Cond.selects RX2 yX2_copy yX2_copy, Cond.code yX2_copy cX2_copy 4 none]
def wsX2_contradict : List Cond := .code yX2_contradict cX2_contradict 4 (some .int) :: ((wsX2_contradict_r1 ++ (wsX2_contradict_r2 ++ wsX2_contradict_r3)) ++ wsX20)
def wsX2_meets : List Cond := .code yX2_meets cX2_meets 7 (some .boolean) :: ([.fieldLink RX2 7 "ChoiceBoardModel" "cell" "[I", .methodLink RX2 30 yX2_size, .static yX2_size, .initialized RX2, .code yX2_size cX2_size 1 (some .int)] ++ wsX20)
def wsX2_worth : List Cond := .code yX2_worth cX2_worth 4 (some .int) :: ([.fieldLink RX2 20 "ChoiceBoardModel" "goal" "[I"] ++ wsX20)
def wsX2_noGoal : List Cond := .code yX2_noGoal cX2_noGoal 3 (some .boolean) :: ([.fieldLink RX2 20 "ChoiceBoardModel" "goal" "[I"] ++ wsX20)
def wsX2_found_r1 : List Cond := [Cond.fieldLink RX2 45 "ChoiceBoardModel" "stored" "I", Cond.fieldLink RX2 52 "ChoiceBoardModel" "taken" "Z", Cond.fieldLink RX2 100 "ChoiceBoardModel" "best" "I", Cond.methodLink RX2 34 yX2_outside, Cond.static yX2_outside, Cond.initialized RX2, Cond.code yX2_outside cX2_outside 3 (some .boolean), Cond.methodLink RX2 38 yX2_fails, Cond.instanceMethod yX2_fails, Cond.selects RX2 yX2_fails yX2_fails, Cond.code yX2_fails cX2_fails 4 (some .boolean), Cond.fieldLink RX2 26 "ChoiceBoardModel" "thrown" "I", Cond.methodLink RX2 93 yX2_meets, Cond.instanceMethod yX2_meets, Cond.selects RX2 yX2_meets yX2_meets, Cond.code yX2_meets cX2_meets 7 (some .boolean), Cond.fieldLink RX2 7 "ChoiceBoardModel" "cell" "[I", Cond.methodLink RX2 30 yX2_size, Cond.static yX2_size, Cond.code yX2_size cX2_size 1 (some .int), Cond.methodLink RX2 97 yX2_worth, Cond.instanceMethod yX2_worth, Cond.selects RX2 yX2_worth yX2_worth, Cond.code yX2_worth cX2_worth 4 (some .int)]
def wsX2_found_r2 : List Cond := [Cond.fieldLink RX2 20 "ChoiceBoardModel" "goal" "[I", Cond.methodLink RX2 103 yX2_noGoal, Cond.instanceMethod yX2_noGoal, Cond.selects RX2 yX2_noGoal yX2_noGoal, Cond.code yX2_noGoal cX2_noGoal 3 (some .boolean), Cond.methodLink RX2 56 yX2_normalize, Cond.instanceMethod yX2_normalize, Cond.selects RX2 yX2_normalize yX2_normalize, Cond.code yX2_normalize cX2_normalize 7 none, Cond.fieldLink RX2 17 "ChoiceBoardModel" "draft" "[I", Cond.methodLink RX2 60 yX2_keep, Cond.instanceMethod yX2_keep, Cond.selects RX2 yX2_keep yX2_keep, Cond.code yX2_keep cX2_keep 3 (some .int), Cond.fieldLink RX2 13 "ChoiceBoardModel" "given" "[Z", Cond.methodLink RX2 48 yX2_copy, Cond.instanceMethod yX2_copy, Cond.selects RX2 yX2_copy yX2_copy, Cond.code yX2_copy cX2_copy 4 none]
def wsX2_found : List Cond := .code yX2_found cX2_found 3 (some .boolean) :: ((wsX2_found_r1 ++ wsX2_found_r2) ++ wsX20)
def wsX2_verdict : List Cond := .code yX2_verdict cX2_verdict 2 (some .int) :: ([.fieldLink RX2 26 "ChoiceBoardModel" "thrown" "I", .fieldLink RX2 45 "ChoiceBoardModel" "stored" "I", .fieldLink RX2 7 "ChoiceBoardModel" "cell" "[I", .fieldLink RX2 52 "ChoiceBoardModel" "taken" "Z", .methodLink RX2 90 yX2_sizes, .instanceMethod yX2_sizes, .selects RX2 yX2_sizes yX2_sizes, .initialized RX2, .code yX2_sizes cX2_sizes 4 (some .int), .methodLink RX2 30 yX2_size, .static yX2_size, .code yX2_size cX2_size 1 (some .int), .methodLink RX2 103 yX2_noGoal, .instanceMethod yX2_noGoal, .selects RX2 yX2_noGoal yX2_noGoal, .code yX2_noGoal cX2_noGoal 3 (some .boolean), .fieldLink RX2 20 "ChoiceBoardModel" "goal" "[I"] ++ wsX20)
def wsX2_best : List Cond := .code yX2_best cX2_best 1 (some .int) :: ([.fieldLink RX2 52 "ChoiceBoardModel" "taken" "Z", .fieldLink RX2 100 "ChoiceBoardModel" "best" "I", .methodLink RX2 38 yX2_fails, .instanceMethod yX2_fails, .selects RX2 yX2_fails yX2_fails, .initialized RX2, .code yX2_fails cX2_fails 4 (some .boolean), .fieldLink RX2 26 "ChoiceBoardModel" "thrown" "I"] ++ wsX20)
def wsX2_turned : List Cond := .code yX2_turned cX2_turned 3 (some .int) :: ([])
def wsX2_solve : List Cond := .code yX2_solve cX2_solve 6 (some .int) :: ([.fieldLink RX2 26 "ChoiceBoardModel" "thrown" "I", .fieldLink RX2 107 "ChoiceBoardModel" "solved" "Z", .fieldLink RX2 113 "ChoiceBoardModel" "least" "I", .fieldLink RX2 45 "ChoiceBoardModel" "stored" "I", .fieldLink RX2 13 "ChoiceBoardModel" "given" "[Z", .fieldLink RX2 116 "ChoiceBoardModel" "answer" "I", .methodLink RX2 110 yX2_turned, .static yX2_turned, .initialized RX2, .code yX2_turned cX2_turned 3 (some .int), .methodLink RX2 97 yX2_worth, .instanceMethod yX2_worth, .selects RX2 yX2_worth yX2_worth, .code yX2_worth cX2_worth 4 (some .int), .fieldLink RX2 20 "ChoiceBoardModel" "goal" "[I", .methodLink RX2 93 yX2_meets, .instanceMethod yX2_meets, .selects RX2 yX2_meets yX2_meets, .code yX2_meets cX2_meets 7 (some .boolean), .fieldLink RX2 7 "ChoiceBoardModel" "cell" "[I", .methodLink RX2 30 yX2_size, .static yX2_size, .code yX2_size cX2_size 1 (some .int)] ++ wsX20)
def wsX2_least : List Cond := .code yX2_least cX2_least 1 (some .int) :: ([.fieldLink RX2 107 "ChoiceBoardModel" "solved" "Z", .fieldLink RX2 113 "ChoiceBoardModel" "least" "I", .methodLink RX2 38 yX2_fails, .instanceMethod yX2_fails, .selects RX2 yX2_fails yX2_fails, .initialized RX2, .code yX2_fails cX2_fails 4 (some .boolean), .fieldLink RX2 26 "ChoiceBoardModel" "thrown" "I"] ++ wsX20)
def wsX2_value : List Cond := .code yX2_value cX2_value 2 (some .int) :: ([.fieldLink RX2 107 "ChoiceBoardModel" "solved" "Z", .fieldLink RX2 116 "ChoiceBoardModel" "answer" "I", .methodLink RX2 34 yX2_outside, .static yX2_outside, .initialized RX2, .code yX2_outside cX2_outside 3 (some .boolean), .methodLink RX2 38 yX2_fails, .instanceMethod yX2_fails, .selects RX2 yX2_fails yX2_fails, .code yX2_fails cX2_fails 4 (some .boolean), .fieldLink RX2 26 "ChoiceBoardModel" "thrown" "I"] ++ wsX20)
def wsJ9_abs_0f7a4 : List Cond := .code yJ9_abs_0f7a4 cJ9_abs_0f7a4 1 (some .int) :: ([])
def wsJ9_max_7cf53 : List Cond := .code yJ9_max_7cf53 cJ9_max_7cf53 2 (some .int) :: ([])
def wsJ9_min_7cf53 : List Cond := .code yJ9_min_7cf53 cJ9_min_7cf53 2 (some .int) :: ([])
def wsL_term : List Cond := .codeWith yL_term cL_term 4 (some .int) [(0, 6, 9, 13)] :: ([.classLink RL 13 "java/lang/IllegalArgumentException", .methodLink RL 7 yX1_term, .instanceMethod yX1_term, .selects RX1 yX1_term yX1_term, .initialized RX1, .code yX1_term cX1_term 3 none, .classLink RX1 61 "java/lang/IllegalArgumentException", .initialized "java/lang/IllegalArgumentException", .fieldLink RX1 9 "ChoiceBoard" "draft" "[I", .methodLink RX1 53 yX1_isVariable, .static yX1_isVariable, .code yX1_isVariable cX1_isVariable 1 (some .boolean), .methodLink RX1 57 yX1_isWithin, .static yX1_isWithin, .code yX1_isWithin cX1_isWithin 3 (some .boolean)] ++ wsX10 ++ (vx_at0 RX1 63 "java/lang/IllegalArgumentException" ["java/lang/RuntimeException", "java/lang/Exception"]).filter goodWord)
def wsL_require_r1 : List Cond := [Cond.classLink RL 13 "java/lang/IllegalArgumentException", Cond.classLink RL 19 "java/lang/IllegalStateException", Cond.methodLink RL 15 yX1_require, Cond.instanceMethod yX1_require, Cond.selects RX1 yX1_require yX1_require, Cond.initialized RX1, Cond.code yX1_require cX1_require 3 (some .int), Cond.classLink RX1 61 "java/lang/IllegalArgumentException", Cond.initialized "java/lang/IllegalArgumentException", Cond.classLink RX1 74 "java/lang/IllegalStateException", Cond.initialized "java/lang/IllegalStateException", Cond.fieldLink RX1 37 "ChoiceBoard" "taken" "Z", Cond.fieldLink RX1 18 "ChoiceBoard" "store" "[LChoiceBoard$Constraint;", Cond.fieldLink RX1 22 "ChoiceBoard" "stored" "I", Cond.fieldLink RX1 9 "ChoiceBoard" "draft" "[I", Cond.methodLink RX1 57 yX1_isWithin, Cond.static yX1_isWithin, Cond.code yX1_isWithin cX1_isWithin 3 (some .boolean), Cond.methodLink RX1 70 yX1_isStoreFull, Cond.instanceMethod yX1_isStoreFull, Cond.selects RX1 yX1_isStoreFull yX1_isStoreFull, Cond.code yX1_isStoreFull cX1_isStoreFull 1 (some .boolean), Cond.methodLink RX1 77 yX0_becomeAtLeast, Cond.instanceMethod yX0_becomeAtLeast]
def wsL_require_r2 : List Cond := [Cond.selects RX0 yX0_becomeAtLeast yX0_becomeAtLeast, Cond.initialized RX0, Cond.code yX0_becomeAtLeast cX0_becomeAtLeast 3 none, Cond.methodLink RX0 29 yX0_normalize, Cond.instanceMethod yX0_normalize, Cond.selects RX0 yX0_normalize yX0_normalize, Cond.code yX0_normalize cX0_normalize 6 none, Cond.fieldLink RX0 9 "ChoiceBoard$Constraint" "weights" "[I", Cond.methodLink RX0 37 Lib.Math.max.name, Cond.static Lib.Math.max.name, Cond.initialized "java/lang/Math", Cond.code Lib.Math.max.name Lib.Math.max.code 2 (some .int), Cond.fieldLink RX0 15 "ChoiceBoard$Constraint" "degree" "I", Cond.methodLink RX0 33 yX0_size, Cond.instanceMethod yX0_size, Cond.selects RX0 yX0_size yX0_size, Cond.code yX0_size cX0_size 2 (some .int), Cond.methodLink RX0 67 Lib.Math.abs.name, Cond.static Lib.Math.abs.name, Cond.code Lib.Math.abs.name Lib.Math.abs.code 1 (some .int), Cond.methodLink RX1 80 yX0_becomeAtMost, Cond.instanceMethod yX0_becomeAtMost, Cond.selects RX0 yX0_becomeAtMost yX0_becomeAtMost, Cond.code yX0_becomeAtMost cX0_becomeAtMost 3 none]
def wsL_require_r3 : List Cond := [Cond.methodLink RX1 83 yX1_clear, Cond.instanceMethod yX1_clear, Cond.selects RX1 yX1_clear yX1_clear, Cond.code yX1_clear cX1_clear 1 none, Cond.methodLink RX1 64 yJ7_fill_53178, Cond.static yJ7_fill_53178, Cond.initialized RJ7, Cond.code yJ7_fill_53178 cJ7_fill_53178 4 none, Cond.methodLink RX1 86 yX1_keepNext, Cond.instanceMethod yX1_keepNext, Cond.selects RX1 yX1_keepNext yX1_keepNext, Cond.code yX1_keepNext cX1_keepNext 2 (some .int)]
def wsL_require : List Cond := .codeWith yL_require cL_require 5 (some .int) [(0, 10, 13, 13), (0, 10, 17, 19)] :: ((wsL_require_r1 ++ (wsL_require_r2 ++ wsL_require_r3)) ++ wsX10 ++ wsX00 ++ (vx_at0 RX1 63 "java/lang/IllegalArgumentException" ["java/lang/RuntimeException", "java/lang/Exception"]).filter goodWord ++ (vx_at0 RX1 76 "java/lang/IllegalStateException" ["java/lang/RuntimeException", "java/lang/Exception"]).filter goodWord)
def wsL_objective : List Cond := .codeWith yL_objective cL_objective 2 (some .int) [(0, 4, 7, 19)] :: ([.classLink RL 19 "java/lang/IllegalStateException", .methodLink RL 21 yX1_objective, .instanceMethod yX1_objective, .selects RX1 yX1_objective yX1_objective, .initialized RX1, .code yX1_objective cX1_objective 1 none, .classLink RX1 74 "java/lang/IllegalStateException", .initialized "java/lang/IllegalStateException", .fieldLink RX1 37 "ChoiceBoard" "taken" "Z", .fieldLink RX1 9 "ChoiceBoard" "draft" "[I", .fieldLink RX1 13 "ChoiceBoard" "objectiveFactors" "[I", .methodLink RX1 90 arraycopyName, .native arraycopyName, .static arraycopyName, .initialized "java/lang/System", .methodLink RX1 83 yX1_clear, .instanceMethod yX1_clear, .selects RX1 yX1_clear yX1_clear, .code yX1_clear cX1_clear 1 none, .methodLink RX1 64 yJ7_fill_53178, .static yJ7_fill_53178, .initialized RJ7, .code yJ7_fill_53178 cJ7_fill_53178 4 none] ++ wsX10 ++ (vx_at0 RX1 76 "java/lang/IllegalStateException" ["java/lang/RuntimeException", "java/lang/Exception"]).filter goodWord)
def wsL_constraint_r1 : List Cond := [Cond.classLink RL 27 "java/util/NoSuchElementException", Cond.classLink RL 13 "java/lang/IllegalArgumentException", Cond.methodLink RL 24 yX1_constraint, Cond.instanceMethod yX1_constraint, Cond.selects RX1 yX1_constraint yX1_constraint, Cond.initialized RX1, Cond.code yX1_constraint cX1_constraint 3 (some .int), Cond.classLink RX1 99 "java/util/NoSuchElementException", Cond.initialized "java/util/NoSuchElementException", Cond.classLink RX1 61 "java/lang/IllegalArgumentException", Cond.initialized "java/lang/IllegalArgumentException", Cond.fieldLink RX1 18 "ChoiceBoard" "store" "[LChoiceBoard$Constraint;", Cond.methodLink RX1 96 yX1_isStored, Cond.instanceMethod yX1_isStored, Cond.selects RX1 yX1_isStored yX1_isStored, Cond.code yX1_isStored cX1_isStored 2 (some .boolean), Cond.fieldLink RX1 22 "ChoiceBoard" "stored" "I", Cond.methodLink RX1 57 yX1_isWithin, Cond.static yX1_isWithin, Cond.code yX1_isWithin cX1_isWithin 3 (some .boolean), Cond.methodLink RX1 102 yX1_isQuestion, Cond.static yX1_isQuestion, Cond.code yX1_isQuestion cX1_isQuestion 1 (some .boolean), Cond.methodLink RX1 108 yX0_weightOrDegree]
def wsL_constraint_r2 : List Cond := [Cond.instanceMethod yX0_weightOrDegree, Cond.selects RX0 yX0_weightOrDegree yX0_weightOrDegree, Cond.initialized RX0, Cond.code yX0_weightOrDegree cX0_weightOrDegree 2 (some .int), Cond.fieldLink RX0 15 "ChoiceBoard$Constraint" "degree" "I", Cond.fieldLink RX0 9 "ChoiceBoard$Constraint" "weights" "[I"]
def wsL_constraint : List Cond := .codeWith yL_constraint cL_constraint 5 (some .int) [(0, 10, 13, 27), (0, 10, 17, 13)] :: ((wsL_constraint_r1 ++ wsL_constraint_r2) ++ wsX10 ++ wsX00 ++ (vx_at0 RX1 101 "java/util/NoSuchElementException" ["java/lang/RuntimeException", "java/lang/Exception"]).filter goodWord ++ (vx_at0 RX1 63 "java/lang/IllegalArgumentException" ["java/lang/RuntimeException", "java/lang/Exception"]).filter goodWord)
def wsL_close_r1 : List Cond := [Cond.classLink RL 13 "java/lang/IllegalArgumentException", Cond.methodLink RL 29 yX1_close, Cond.instanceMethod yX1_close, Cond.selects RX1 yX1_close yX1_close, Cond.initialized RX1, Cond.code yX1_close cX1_close 3 (some .int), Cond.classLink RX1 61 "java/lang/IllegalArgumentException", Cond.initialized "java/lang/IllegalArgumentException", Cond.fieldLink RX1 22 "ChoiceBoard" "stored" "I", Cond.methodLink RX1 112 yX1_isChoice, Cond.static yX1_isChoice, Cond.code yX1_isChoice cX1_isChoice 1 (some .boolean), Cond.methodLink RX1 57 yX1_isWithin, Cond.static yX1_isWithin, Cond.code yX1_isWithin cX1_isWithin 3 (some .boolean), Cond.methodLink RX1 115 yX1_closed, Cond.instanceMethod yX1_closed, Cond.selects RX1 yX1_closed yX1_closed, Cond.code yX1_closed cX1_closed 7 (some .int), Cond.fieldLink RX1 18 "ChoiceBoard" "store" "[LChoiceBoard$Constraint;", Cond.methodLink RX1 196 yX0_forcedFrom, Cond.instanceMethod yX0_forcedFrom, Cond.selects RX0 yX0_forcedFrom yX0_forcedFrom, Cond.initialized RX0]
def wsL_close_r2 : List Cond := [Cond.code yX0_forcedFrom cX0_forcedFrom 6 (some .int), Cond.methodLink RX0 71 yX0_slack, Cond.instanceMethod yX0_slack, Cond.selects RX0 yX0_slack yX0_slack, Cond.code yX0_slack cX0_slack 5 (some .int), Cond.fieldLink RX0 15 "ChoiceBoard$Constraint" "degree" "I", Cond.static yX1_bit, Cond.code yX1_bit cX1_bit 2 (some .int), Cond.methodLink RX0 77 yX0_countedTruth, Cond.instanceMethod yX0_countedTruth, Cond.selects RX0 yX0_countedTruth yX0_countedTruth, Cond.code yX0_countedTruth cX0_countedTruth 2 (some .int), Cond.fieldLink RX0 9 "ChoiceBoard$Constraint" "weights" "[I", Cond.methodLink RX0 33 yX0_size, Cond.instanceMethod yX0_size, Cond.selects RX0 yX0_size yX0_size, Cond.code yX0_size cX0_size 2 (some .int), Cond.methodLink RX0 67 Lib.Math.abs.name, Cond.static Lib.Math.abs.name, Cond.initialized "java/lang/Math", Cond.code Lib.Math.abs.name Lib.Math.abs.code 1 (some .int)]
def wsL_close : List Cond := .codeWith yL_close cL_close 5 (some .int) [(0, 10, 13, 13)] :: ((wsL_close_r1 ++ wsL_close_r2) ++ wsX10 ++ wsX00 ++ (vx_at0 RX1 63 "java/lang/IllegalArgumentException" ["java/lang/RuntimeException", "java/lang/Exception"]).filter goodWord)
def wsL_load_r1 : List Cond := [Cond.classLink RL 27 "java/util/NoSuchElementException", Cond.classLink RL 19 "java/lang/IllegalStateException", Cond.methodLink RL 32 yX1_load, Cond.instanceMethod yX1_load, Cond.selects RX1 yX1_load yX1_load, Cond.initialized RX1, Cond.code yX1_load cX1_load 2 none, Cond.classLink RX1 99 "java/util/NoSuchElementException", Cond.initialized "java/util/NoSuchElementException", Cond.fieldLink RX1 26 "ChoiceBoard" "stack" "[LChoiceBoard$Constraint;", Cond.fieldLink RX1 29 "ChoiceBoard" "stacked" "I", Cond.fieldLink RX1 18 "ChoiceBoard" "store" "[LChoiceBoard$Constraint;", Cond.methodLink RX1 96 yX1_isStored, Cond.instanceMethod yX1_isStored, Cond.selects RX1 yX1_isStored yX1_isStored, Cond.code yX1_isStored cX1_isStored 2 (some .boolean), Cond.fieldLink RX1 22 "ChoiceBoard" "stored" "I", Cond.methodLink RX1 57 yX1_isWithin, Cond.static yX1_isWithin, Cond.code yX1_isWithin cX1_isWithin 3 (some .boolean), Cond.methodLink RX1 119 yX1_refuseFullStack, Cond.instanceMethod yX1_refuseFullStack, Cond.selects RX1 yX1_refuseFullStack yX1_refuseFullStack, Cond.code yX1_refuseFullStack cX1_refuseFullStack 1 none]
def wsL_load_r2 : List Cond := [Cond.classLink RX1 74 "java/lang/IllegalStateException", Cond.initialized "java/lang/IllegalStateException", Cond.methodLink RX1 122 yX0_become, Cond.instanceMethod yX0_become, Cond.selects RX0 yX0_become yX0_become, Cond.initialized RX0, Cond.code yX0_become cX0_become 2 none, Cond.fieldLink RX0 9 "ChoiceBoard$Constraint" "weights" "[I", Cond.methodLink RX0 23 arraycopyName, Cond.native arraycopyName, Cond.static arraycopyName, Cond.initialized "java/lang/System", Cond.fieldLink RX0 15 "ChoiceBoard$Constraint" "degree" "I"]
def wsL_load : List Cond := .codeWith yL_load cL_load 3 (some .int) [(0, 5, 8, 27), (0, 5, 11, 19)] :: ((wsL_load_r1 ++ wsL_load_r2) ++ wsX10 ++ wsX00 ++ (vx_at0 RX1 101 "java/util/NoSuchElementException" ["java/lang/RuntimeException", "java/lang/Exception"]).filter goodWord ++ (vx_at0 RX1 76 "java/lang/IllegalStateException" ["java/lang/RuntimeException", "java/lang/Exception"]).filter goodWord)
def wsL_axiom_r1 : List Cond := [Cond.classLink RL 27 "java/util/NoSuchElementException", Cond.classLink RL 19 "java/lang/IllegalStateException", Cond.methodLink RL 36 yX1_axiom, Cond.instanceMethod yX1_axiom, Cond.selects RX1 yX1_axiom yX1_axiom, Cond.initialized RX1, Cond.code yX1_axiom cX1_axiom 3 none, Cond.classLink RX1 99 "java/util/NoSuchElementException", Cond.initialized "java/util/NoSuchElementException", Cond.fieldLink RX1 26 "ChoiceBoard" "stack" "[LChoiceBoard$Constraint;", Cond.fieldLink RX1 29 "ChoiceBoard" "stacked" "I", Cond.methodLink RX1 53 yX1_isVariable, Cond.static yX1_isVariable, Cond.code yX1_isVariable cX1_isVariable 1 (some .boolean), Cond.methodLink RX1 57 yX1_isWithin, Cond.static yX1_isWithin, Cond.code yX1_isWithin cX1_isWithin 3 (some .boolean), Cond.methodLink RX1 119 yX1_refuseFullStack, Cond.instanceMethod yX1_refuseFullStack, Cond.selects RX1 yX1_refuseFullStack yX1_refuseFullStack, Cond.code yX1_refuseFullStack cX1_refuseFullStack 1 none, Cond.classLink RX1 74 "java/lang/IllegalStateException", Cond.initialized "java/lang/IllegalStateException", Cond.methodLink RX1 126 yX0_becomeAxiom]
def wsL_axiom_r2 : List Cond := [Cond.instanceMethod yX0_becomeAxiom, Cond.selects RX0 yX0_becomeAxiom yX0_becomeAxiom, Cond.initialized RX0, Cond.code yX0_becomeAxiom cX0_becomeAxiom 3 none, Cond.fieldLink RX0 9 "ChoiceBoard$Constraint" "weights" "[I", Cond.fieldLink RX0 15 "ChoiceBoard$Constraint" "degree" "I", Cond.methodLink RX0 43 yJ7_fill_53178, Cond.static yJ7_fill_53178, Cond.initialized RJ7, Cond.code yJ7_fill_53178 cJ7_fill_53178 4 none]
def wsL_axiom : List Cond := .codeWith yL_axiom cL_axiom 4 (some .int) [(0, 6, 9, 27), (0, 6, 12, 19)] :: ((wsL_axiom_r1 ++ wsL_axiom_r2) ++ wsX10 ++ wsX00 ++ (vx_at0 RX1 101 "java/util/NoSuchElementException" ["java/lang/RuntimeException", "java/lang/Exception"]).filter goodWord ++ (vx_at0 RX1 76 "java/lang/IllegalStateException" ["java/lang/RuntimeException", "java/lang/Exception"]).filter goodWord)
def wsL_add_r1 : List Cond := [Cond.classLink RL 19 "java/lang/IllegalStateException", Cond.classLink RL 43 "java/lang/ArithmeticException", Cond.methodLink RL 40 yX1_add, Cond.instanceMethod yX1_add, Cond.selects RX1 yX1_add yX1_add, Cond.initialized RX1, Cond.code yX1_add cX1_add 1 none, Cond.classLink RX1 74 "java/lang/IllegalStateException", Cond.initialized "java/lang/IllegalStateException", Cond.fieldLink RX1 29 "ChoiceBoard" "stacked" "I", Cond.fieldLink RX1 33 "ChoiceBoard" "scratch" "LChoiceBoard$Constraint;", Cond.fieldLink RX1 26 "ChoiceBoard" "stack" "[LChoiceBoard$Constraint;", Cond.methodLink RX1 130 yX0_becomeSum, Cond.instanceMethod yX0_becomeSum, Cond.selects RX0 yX0_becomeSum yX0_becomeSum, Cond.initialized RX0, Cond.code yX0_becomeSum cX0_becomeSum 5 none, Cond.fieldLink RX0 15 "ChoiceBoard$Constraint" "degree" "I", Cond.fieldLink RX0 9 "ChoiceBoard$Constraint" "weights" "[I", Cond.methodLink RX0 53 Lib.Math.min.name, Cond.static Lib.Math.min.name, Cond.initialized "java/lang/Math", Cond.code Lib.Math.min.name Lib.Math.min.code 2 (some .int), Cond.methodLink RX0 37 Lib.Math.max.name]
def wsL_add_r2 : List Cond := [Cond.static Lib.Math.max.name, Cond.code Lib.Math.max.name Lib.Math.max.code 2 (some .int), Cond.methodLink RX0 49 yX0_isOpposed, Cond.instanceMethod yX0_isOpposed, Cond.selects RX0 yX0_isOpposed yX0_isOpposed, Cond.code yX0_isOpposed cX0_isOpposed 3 (some .boolean), Cond.methodLink RX0 33 yX0_size, Cond.instanceMethod yX0_size, Cond.selects RX0 yX0_size yX0_size, Cond.code yX0_size cX0_size 2 (some .int), Cond.methodLink RX0 67 Lib.Math.abs.name, Cond.static Lib.Math.abs.name, Cond.code Lib.Math.abs.name Lib.Math.abs.code 1 (some .int), Cond.methodLink RX1 134 yX1_refuseTooLargeScratch, Cond.instanceMethod yX1_refuseTooLargeScratch, Cond.selects RX1 yX1_refuseTooLargeScratch yX1_refuseTooLargeScratch, Cond.code yX1_refuseTooLargeScratch cX1_refuseTooLargeScratch 1 none, Cond.classLink RX1 187 "java/lang/ArithmeticException", Cond.initialized "java/lang/ArithmeticException", Cond.methodLink RX1 184 yX0_isTooLarge, Cond.instanceMethod yX0_isTooLarge, Cond.selects RX0 yX0_isTooLarge yX0_isTooLarge, Cond.code yX0_isTooLarge cX0_isTooLarge 2 (some .boolean), Cond.constant RX0 70 (1000000)]
def wsL_add_r3 : List Cond := [Cond.methodLink RX1 122 yX0_become, Cond.instanceMethod yX0_become, Cond.selects RX0 yX0_become yX0_become, Cond.code yX0_become cX0_become 2 none, Cond.methodLink RX0 23 arraycopyName, Cond.native arraycopyName, Cond.static arraycopyName, Cond.initialized "java/lang/System"]
def wsL_add : List Cond := .codeWith yL_add cL_add 2 (some .int) [(0, 4, 7, 19), (0, 4, 10, 43)] :: ((wsL_add_r1 ++ (wsL_add_r2 ++ wsL_add_r3)) ++ wsX10 ++ wsX00 ++ (vx_at0 RX1 76 "java/lang/IllegalStateException" ["java/lang/RuntimeException", "java/lang/Exception"]).filter goodWord ++ (vx_at0 RX1 189 "java/lang/ArithmeticException" ["java/lang/RuntimeException", "java/lang/Exception"]).filter goodWord)
def wsL_times_r1 : List Cond := [Cond.classLink RL 19 "java/lang/IllegalStateException", Cond.classLink RL 13 "java/lang/IllegalArgumentException", Cond.classLink RL 43 "java/lang/ArithmeticException", Cond.methodLink RL 45 yX1_times, Cond.instanceMethod yX1_times, Cond.selects RX1 yX1_times yX1_times, Cond.initialized RX1, Cond.code yX1_times cX1_times 2 none, Cond.classLink RX1 61 "java/lang/IllegalArgumentException", Cond.initialized "java/lang/IllegalArgumentException", Cond.fieldLink RX1 33 "ChoiceBoard" "scratch" "LChoiceBoard$Constraint;", Cond.fieldLink RX1 26 "ChoiceBoard" "stack" "[LChoiceBoard$Constraint;", Cond.fieldLink RX1 29 "ChoiceBoard" "stacked" "I", Cond.methodLink RX1 137 yX1_refuseEmptyStack, Cond.instanceMethod yX1_refuseEmptyStack, Cond.selects RX1 yX1_refuseEmptyStack yX1_refuseEmptyStack, Cond.code yX1_refuseEmptyStack cX1_refuseEmptyStack 1 none, Cond.classLink RX1 74 "java/lang/IllegalStateException", Cond.initialized "java/lang/IllegalStateException", Cond.methodLink RX1 57 yX1_isWithin, Cond.static yX1_isWithin, Cond.code yX1_isWithin cX1_isWithin 3 (some .boolean), Cond.methodLink RX1 140 yX0_becomeMultiple, Cond.instanceMethod yX0_becomeMultiple]
def wsL_times_r2 : List Cond := [Cond.selects RX0 yX0_becomeMultiple yX0_becomeMultiple, Cond.initialized RX0, Cond.code yX0_becomeMultiple cX0_becomeMultiple 4 none, Cond.fieldLink RX0 9 "ChoiceBoard$Constraint" "weights" "[I", Cond.fieldLink RX0 15 "ChoiceBoard$Constraint" "degree" "I", Cond.methodLink RX1 134 yX1_refuseTooLargeScratch, Cond.instanceMethod yX1_refuseTooLargeScratch, Cond.selects RX1 yX1_refuseTooLargeScratch yX1_refuseTooLargeScratch, Cond.code yX1_refuseTooLargeScratch cX1_refuseTooLargeScratch 1 none, Cond.classLink RX1 187 "java/lang/ArithmeticException", Cond.initialized "java/lang/ArithmeticException", Cond.methodLink RX1 184 yX0_isTooLarge, Cond.instanceMethod yX0_isTooLarge, Cond.selects RX0 yX0_isTooLarge yX0_isTooLarge, Cond.code yX0_isTooLarge cX0_isTooLarge 2 (some .boolean), Cond.constant RX0 70 (1000000), Cond.methodLink RX0 33 yX0_size, Cond.instanceMethod yX0_size, Cond.selects RX0 yX0_size yX0_size, Cond.code yX0_size cX0_size 2 (some .int), Cond.methodLink RX0 67 Lib.Math.abs.name, Cond.static Lib.Math.abs.name, Cond.initialized "java/lang/Math", Cond.code Lib.Math.abs.name Lib.Math.abs.code 1 (some .int)]
def wsL_times_r3 : List Cond := [Cond.methodLink RX1 122 yX0_become, Cond.instanceMethod yX0_become, Cond.selects RX0 yX0_become yX0_become, Cond.code yX0_become cX0_become 2 none, Cond.methodLink RX0 23 arraycopyName, Cond.native arraycopyName, Cond.static arraycopyName, Cond.initialized "java/lang/System"]
def wsL_times : List Cond := .codeWith yL_times cL_times 3 (some .int) [(0, 5, 8, 19), (0, 5, 11, 13), (0, 5, 14, 43)] :: ((wsL_times_r1 ++ (wsL_times_r2 ++ wsL_times_r3)) ++ wsX10 ++ wsX00 ++ (vx_at0 RX1 63 "java/lang/IllegalArgumentException" ["java/lang/RuntimeException", "java/lang/Exception"]).filter goodWord ++ (vx_at0 RX1 76 "java/lang/IllegalStateException" ["java/lang/RuntimeException", "java/lang/Exception"]).filter goodWord ++ (vx_at0 RX1 189 "java/lang/ArithmeticException" ["java/lang/RuntimeException", "java/lang/Exception"]).filter goodWord)
def wsL_divide_r1 : List Cond := [Cond.classLink RL 19 "java/lang/IllegalStateException", Cond.classLink RL 13 "java/lang/IllegalArgumentException", Cond.methodLink RL 48 yX1_divide, Cond.instanceMethod yX1_divide, Cond.selects RX1 yX1_divide yX1_divide, Cond.initialized RX1, Cond.code yX1_divide cX1_divide 2 none, Cond.classLink RX1 61 "java/lang/IllegalArgumentException", Cond.initialized "java/lang/IllegalArgumentException", Cond.constant RX1 144 (1000000), Cond.fieldLink RX1 26 "ChoiceBoard" "stack" "[LChoiceBoard$Constraint;", Cond.fieldLink RX1 29 "ChoiceBoard" "stacked" "I", Cond.methodLink RX1 137 yX1_refuseEmptyStack, Cond.instanceMethod yX1_refuseEmptyStack, Cond.selects RX1 yX1_refuseEmptyStack yX1_refuseEmptyStack, Cond.code yX1_refuseEmptyStack cX1_refuseEmptyStack 1 none, Cond.classLink RX1 74 "java/lang/IllegalStateException", Cond.initialized "java/lang/IllegalStateException", Cond.methodLink RX1 57 yX1_isWithin, Cond.static yX1_isWithin, Cond.code yX1_isWithin cX1_isWithin 3 (some .boolean), Cond.methodLink RX1 145 yX0_divideRoundingUp, Cond.instanceMethod yX0_divideRoundingUp, Cond.selects RX0 yX0_divideRoundingUp yX0_divideRoundingUp]
def wsL_divide_r2 : List Cond := [Cond.initialized RX0, Cond.code yX0_divideRoundingUp cX0_divideRoundingUp 3 none, Cond.fieldLink RX0 15 "ChoiceBoard$Constraint" "degree" "I", Cond.methodLink RX0 33 yX0_size, Cond.instanceMethod yX0_size, Cond.selects RX0 yX0_size yX0_size, Cond.code yX0_size cX0_size 2 (some .int), Cond.fieldLink RX0 9 "ChoiceBoard$Constraint" "weights" "[I", Cond.methodLink RX0 67 Lib.Math.abs.name, Cond.static Lib.Math.abs.name, Cond.initialized "java/lang/Math", Cond.code Lib.Math.abs.name Lib.Math.abs.code 1 (some .int), Cond.methodLink RX0 56 yX0_quotientRoundedUp, Cond.static yX0_quotientRoundedUp, Cond.code yX0_quotientRoundedUp cX0_quotientRoundedUp 2 (some .int), Cond.methodLink RX0 59 yX0_resize, Cond.instanceMethod yX0_resize, Cond.selects RX0 yX0_resize yX0_resize, Cond.code yX0_resize cX0_resize 3 none]
def wsL_divide : List Cond := .codeWith yL_divide cL_divide 3 (some .int) [(0, 5, 8, 19), (0, 5, 11, 13)] :: ((wsL_divide_r1 ++ wsL_divide_r2) ++ wsX10 ++ wsX00 ++ (vx_at0 RX1 63 "java/lang/IllegalArgumentException" ["java/lang/RuntimeException", "java/lang/Exception"]).filter goodWord ++ (vx_at0 RX1 76 "java/lang/IllegalStateException" ["java/lang/RuntimeException", "java/lang/Exception"]).filter goodWord)
def wsL_saturate_r1 : List Cond := [Cond.classLink RL 19 "java/lang/IllegalStateException", Cond.methodLink RL 51 yX1_saturate, Cond.instanceMethod yX1_saturate, Cond.selects RX1 yX1_saturate yX1_saturate, Cond.initialized RX1, Cond.code yX1_saturate cX1_saturate 1 none, Cond.fieldLink RX1 26 "ChoiceBoard" "stack" "[LChoiceBoard$Constraint;", Cond.fieldLink RX1 29 "ChoiceBoard" "stacked" "I", Cond.methodLink RX1 137 yX1_refuseEmptyStack, Cond.instanceMethod yX1_refuseEmptyStack, Cond.selects RX1 yX1_refuseEmptyStack yX1_refuseEmptyStack, Cond.code yX1_refuseEmptyStack cX1_refuseEmptyStack 1 none, Cond.classLink RX1 74 "java/lang/IllegalStateException", Cond.initialized "java/lang/IllegalStateException", Cond.methodLink RX1 149 yX0_limitSizesToDegree, Cond.instanceMethod yX0_limitSizesToDegree, Cond.selects RX0 yX0_limitSizesToDegree yX0_limitSizesToDegree, Cond.initialized RX0, Cond.code yX0_limitSizesToDegree cX0_limitSizesToDegree 2 none, Cond.fieldLink RX0 15 "ChoiceBoard$Constraint" "degree" "I", Cond.methodLink RX0 53 Lib.Math.min.name, Cond.static Lib.Math.min.name, Cond.initialized "java/lang/Math", Cond.code Lib.Math.min.name Lib.Math.min.code 2 (some .int)]
def wsL_saturate_r2 : List Cond := [Cond.methodLink RX0 33 yX0_size, Cond.instanceMethod yX0_size, Cond.selects RX0 yX0_size yX0_size, Cond.code yX0_size cX0_size 2 (some .int), Cond.fieldLink RX0 9 "ChoiceBoard$Constraint" "weights" "[I", Cond.methodLink RX0 67 Lib.Math.abs.name, Cond.static Lib.Math.abs.name, Cond.code Lib.Math.abs.name Lib.Math.abs.code 1 (some .int), Cond.methodLink RX0 59 yX0_resize, Cond.instanceMethod yX0_resize, Cond.selects RX0 yX0_resize yX0_resize, Cond.code yX0_resize cX0_resize 3 none]
def wsL_saturate : List Cond := .codeWith yL_saturate cL_saturate 2 (some .int) [(0, 4, 7, 19)] :: ((wsL_saturate_r1 ++ wsL_saturate_r2) ++ wsX10 ++ wsX00 ++ (vx_at0 RX1 76 "java/lang/IllegalStateException" ["java/lang/RuntimeException", "java/lang/Exception"]).filter goodWord)
def wsL_weaken_r1 : List Cond := [Cond.classLink RL 19 "java/lang/IllegalStateException", Cond.classLink RL 27 "java/util/NoSuchElementException", Cond.methodLink RL 54 yX1_weaken, Cond.instanceMethod yX1_weaken, Cond.selects RX1 yX1_weaken yX1_weaken, Cond.initialized RX1, Cond.code yX1_weaken cX1_weaken 2 none, Cond.classLink RX1 99 "java/util/NoSuchElementException", Cond.initialized "java/util/NoSuchElementException", Cond.fieldLink RX1 26 "ChoiceBoard" "stack" "[LChoiceBoard$Constraint;", Cond.fieldLink RX1 29 "ChoiceBoard" "stacked" "I", Cond.methodLink RX1 137 yX1_refuseEmptyStack, Cond.instanceMethod yX1_refuseEmptyStack, Cond.selects RX1 yX1_refuseEmptyStack yX1_refuseEmptyStack, Cond.code yX1_refuseEmptyStack cX1_refuseEmptyStack 1 none, Cond.classLink RX1 74 "java/lang/IllegalStateException", Cond.initialized "java/lang/IllegalStateException", Cond.methodLink RX1 53 yX1_isVariable, Cond.static yX1_isVariable, Cond.code yX1_isVariable cX1_isVariable 1 (some .boolean), Cond.methodLink RX1 57 yX1_isWithin, Cond.static yX1_isWithin, Cond.code yX1_isWithin cX1_isWithin 3 (some .boolean), Cond.methodLink RX1 152 yX0_giveUp]
def wsL_weaken_r2 : List Cond := [Cond.instanceMethod yX0_giveUp, Cond.selects RX0 yX0_giveUp yX0_giveUp, Cond.initialized RX0, Cond.code yX0_giveUp cX0_giveUp 2 none, Cond.fieldLink RX0 15 "ChoiceBoard$Constraint" "degree" "I", Cond.methodLink RX0 37 Lib.Math.max.name, Cond.static Lib.Math.max.name, Cond.initialized "java/lang/Math", Cond.code Lib.Math.max.name Lib.Math.max.code 2 (some .int), Cond.fieldLink RX0 9 "ChoiceBoard$Constraint" "weights" "[I", Cond.methodLink RX0 33 yX0_size, Cond.instanceMethod yX0_size, Cond.selects RX0 yX0_size yX0_size, Cond.code yX0_size cX0_size 2 (some .int), Cond.methodLink RX0 67 Lib.Math.abs.name, Cond.static Lib.Math.abs.name, Cond.code Lib.Math.abs.name Lib.Math.abs.code 1 (some .int)]
def wsL_weaken : List Cond := .codeWith yL_weaken cL_weaken 3 (some .int) [(0, 5, 8, 19), (0, 5, 11, 27)] :: ((wsL_weaken_r1 ++ wsL_weaken_r2) ++ wsX10 ++ wsX00 ++ (vx_at0 RX1 101 "java/util/NoSuchElementException" ["java/lang/RuntimeException", "java/lang/Exception"]).filter goodWord ++ (vx_at0 RX1 76 "java/lang/IllegalStateException" ["java/lang/RuntimeException", "java/lang/Exception"]).filter goodWord)
def wsL_drop : List Cond := .codeWith yL_drop cL_drop 2 (some .int) [(0, 4, 7, 19)] :: ([.classLink RL 19 "java/lang/IllegalStateException", .methodLink RL 57 yX1_drop, .instanceMethod yX1_drop, .selects RX1 yX1_drop yX1_drop, .initialized RX1, .code yX1_drop cX1_drop 1 none, .fieldLink RX1 29 "ChoiceBoard" "stacked" "I", .methodLink RX1 137 yX1_refuseEmptyStack, .instanceMethod yX1_refuseEmptyStack, .selects RX1 yX1_refuseEmptyStack yX1_refuseEmptyStack, .code yX1_refuseEmptyStack cX1_refuseEmptyStack 1 none, .classLink RX1 74 "java/lang/IllegalStateException", .initialized "java/lang/IllegalStateException"] ++ wsX10 ++ (vx_at0 RX1 76 "java/lang/IllegalStateException" ["java/lang/RuntimeException", "java/lang/Exception"]).filter goodWord)
def wsL_top_r1 : List Cond := [Cond.classLink RL 13 "java/lang/IllegalArgumentException", Cond.classLink RL 19 "java/lang/IllegalStateException", Cond.methodLink RL 60 yX1_top, Cond.instanceMethod yX1_top, Cond.selects RX1 yX1_top yX1_top, Cond.initialized RX1, Cond.code yX1_top cX1_top 2 (some .int), Cond.classLink RX1 61 "java/lang/IllegalArgumentException", Cond.initialized "java/lang/IllegalArgumentException", Cond.fieldLink RX1 29 "ChoiceBoard" "stacked" "I", Cond.fieldLink RX1 26 "ChoiceBoard" "stack" "[LChoiceBoard$Constraint;", Cond.methodLink RX1 102 yX1_isQuestion, Cond.static yX1_isQuestion, Cond.code yX1_isQuestion cX1_isQuestion 1 (some .boolean), Cond.methodLink RX1 57 yX1_isWithin, Cond.static yX1_isWithin, Cond.code yX1_isWithin cX1_isWithin 3 (some .boolean), Cond.methodLink RX1 137 yX1_refuseEmptyStack, Cond.instanceMethod yX1_refuseEmptyStack, Cond.selects RX1 yX1_refuseEmptyStack yX1_refuseEmptyStack, Cond.code yX1_refuseEmptyStack cX1_refuseEmptyStack 1 none, Cond.classLink RX1 74 "java/lang/IllegalStateException", Cond.initialized "java/lang/IllegalStateException", Cond.methodLink RX1 108 yX0_weightOrDegree]
def wsL_top_r2 : List Cond := [Cond.instanceMethod yX0_weightOrDegree, Cond.selects RX0 yX0_weightOrDegree yX0_weightOrDegree, Cond.initialized RX0, Cond.code yX0_weightOrDegree cX0_weightOrDegree 2 (some .int), Cond.fieldLink RX0 15 "ChoiceBoard$Constraint" "degree" "I", Cond.fieldLink RX0 9 "ChoiceBoard$Constraint" "weights" "[I"]
def wsL_top : List Cond := .codeWith yL_top cL_top 4 (some .int) [(0, 9, 12, 13), (0, 9, 15, 19)] :: ((wsL_top_r1 ++ wsL_top_r2) ++ wsX10 ++ wsX00 ++ (vx_at0 RX1 63 "java/lang/IllegalArgumentException" ["java/lang/RuntimeException", "java/lang/Exception"]).filter goodWord ++ (vx_at0 RX1 76 "java/lang/IllegalStateException" ["java/lang/RuntimeException", "java/lang/Exception"]).filter goodWord)
def wsL_learn_r1 : List Cond := [Cond.classLink RL 19 "java/lang/IllegalStateException", Cond.methodLink RL 64 yX1_learn, Cond.instanceMethod yX1_learn, Cond.selects RX1 yX1_learn yX1_learn, Cond.initialized RX1, Cond.code yX1_learn cX1_learn 1 (some .int), Cond.fieldLink RX1 29 "ChoiceBoard" "stacked" "I", Cond.fieldLink RX1 18 "ChoiceBoard" "store" "[LChoiceBoard$Constraint;", Cond.fieldLink RX1 22 "ChoiceBoard" "stored" "I", Cond.fieldLink RX1 26 "ChoiceBoard" "stack" "[LChoiceBoard$Constraint;", Cond.methodLink RX1 137 yX1_refuseEmptyStack, Cond.instanceMethod yX1_refuseEmptyStack, Cond.selects RX1 yX1_refuseEmptyStack yX1_refuseEmptyStack, Cond.code yX1_refuseEmptyStack cX1_refuseEmptyStack 1 none, Cond.classLink RX1 74 "java/lang/IllegalStateException", Cond.initialized "java/lang/IllegalStateException", Cond.methodLink RX1 155 yX1_refuseFullStore, Cond.instanceMethod yX1_refuseFullStore, Cond.selects RX1 yX1_refuseFullStore yX1_refuseFullStore, Cond.code yX1_refuseFullStore cX1_refuseFullStore 1 none, Cond.methodLink RX1 70 yX1_isStoreFull, Cond.instanceMethod yX1_isStoreFull, Cond.selects RX1 yX1_isStoreFull yX1_isStoreFull, Cond.code yX1_isStoreFull cX1_isStoreFull 1 (some .boolean)]
def wsL_learn_r2 : List Cond := [Cond.methodLink RX1 122 yX0_become, Cond.instanceMethod yX0_become, Cond.selects RX0 yX0_become yX0_become, Cond.initialized RX0, Cond.code yX0_become cX0_become 2 none, Cond.fieldLink RX0 9 "ChoiceBoard$Constraint" "weights" "[I", Cond.methodLink RX0 23 arraycopyName, Cond.native arraycopyName, Cond.static arraycopyName, Cond.initialized "java/lang/System", Cond.fieldLink RX0 15 "ChoiceBoard$Constraint" "degree" "I", Cond.methodLink RX1 86 yX1_keepNext, Cond.instanceMethod yX1_keepNext, Cond.selects RX1 yX1_keepNext yX1_keepNext, Cond.code yX1_keepNext cX1_keepNext 2 (some .int)]
def wsL_learn : List Cond := .codeWith yL_learn cL_learn 3 (some .int) [(0, 8, 11, 19)] :: ((wsL_learn_r1 ++ wsL_learn_r2) ++ wsX10 ++ wsX00 ++ (vx_at0 RX1 76 "java/lang/IllegalStateException" ["java/lang/RuntimeException", "java/lang/Exception"]).filter goodWord)
def wsL_contradict_r1 : List Cond := [Cond.classLink RL 13 "java/lang/IllegalArgumentException", Cond.classLink RL 19 "java/lang/IllegalStateException", Cond.methodLink RL 68 yX1_contradict, Cond.instanceMethod yX1_contradict, Cond.selects RX1 yX1_contradict yX1_contradict, Cond.initialized RX1, Cond.code yX1_contradict cX1_contradict 2 (some .int), Cond.classLink RX1 61 "java/lang/IllegalArgumentException", Cond.initialized "java/lang/IllegalArgumentException", Cond.fieldLink RX1 18 "ChoiceBoard" "store" "[LChoiceBoard$Constraint;", Cond.fieldLink RX1 22 "ChoiceBoard" "stored" "I", Cond.fieldLink RX1 9 "ChoiceBoard" "draft" "[I", Cond.methodLink RX1 57 yX1_isWithin, Cond.static yX1_isWithin, Cond.code yX1_isWithin cX1_isWithin 3 (some .boolean), Cond.methodLink RX1 155 yX1_refuseFullStore, Cond.instanceMethod yX1_refuseFullStore, Cond.selects RX1 yX1_refuseFullStore yX1_refuseFullStore, Cond.code yX1_refuseFullStore cX1_refuseFullStore 1 none, Cond.classLink RX1 74 "java/lang/IllegalStateException", Cond.initialized "java/lang/IllegalStateException", Cond.methodLink RX1 70 yX1_isStoreFull, Cond.instanceMethod yX1_isStoreFull, Cond.selects RX1 yX1_isStoreFull yX1_isStoreFull]
def wsL_contradict_r2 : List Cond := [Cond.code yX1_isStoreFull cX1_isStoreFull 1 (some .boolean), Cond.methodLink RX1 77 yX0_becomeAtLeast, Cond.instanceMethod yX0_becomeAtLeast, Cond.selects RX0 yX0_becomeAtLeast yX0_becomeAtLeast, Cond.initialized RX0, Cond.code yX0_becomeAtLeast cX0_becomeAtLeast 3 none, Cond.methodLink RX0 29 yX0_normalize, Cond.instanceMethod yX0_normalize, Cond.selects RX0 yX0_normalize yX0_normalize, Cond.code yX0_normalize cX0_normalize 6 none, Cond.fieldLink RX0 9 "ChoiceBoard$Constraint" "weights" "[I", Cond.methodLink RX0 37 Lib.Math.max.name, Cond.static Lib.Math.max.name, Cond.initialized "java/lang/Math", Cond.code Lib.Math.max.name Lib.Math.max.code 2 (some .int), Cond.fieldLink RX0 15 "ChoiceBoard$Constraint" "degree" "I", Cond.methodLink RX0 33 yX0_size, Cond.instanceMethod yX0_size, Cond.selects RX0 yX0_size yX0_size, Cond.code yX0_size cX0_size 2 (some .int), Cond.methodLink RX0 67 Lib.Math.abs.name, Cond.static Lib.Math.abs.name, Cond.code Lib.Math.abs.name Lib.Math.abs.code 1 (some .int), Cond.methodLink RX1 158 yX0_turnToContrary]
def wsL_contradict_r3 : List Cond := [Cond.instanceMethod yX0_turnToContrary, Cond.selects RX0 yX0_turnToContrary yX0_turnToContrary, Cond.code yX0_turnToContrary cX0_turnToContrary 2 none, Cond.methodLink RX0 63 yX0_sizeOfAll, Cond.instanceMethod yX0_sizeOfAll, Cond.selects RX0 yX0_sizeOfAll yX0_sizeOfAll, Cond.code yX0_sizeOfAll cX0_sizeOfAll 3 (some .int), Cond.methodLink RX1 115 yX1_closed, Cond.instanceMethod yX1_closed, Cond.selects RX1 yX1_closed yX1_closed, Cond.code yX1_closed cX1_closed 7 (some .int), Cond.methodLink RX1 196 yX0_forcedFrom, Cond.instanceMethod yX0_forcedFrom, Cond.selects RX0 yX0_forcedFrom yX0_forcedFrom, Cond.code yX0_forcedFrom cX0_forcedFrom 6 (some .int), Cond.methodLink RX0 71 yX0_slack, Cond.instanceMethod yX0_slack, Cond.selects RX0 yX0_slack yX0_slack, Cond.code yX0_slack cX0_slack 5 (some .int), Cond.static yX1_bit, Cond.code yX1_bit cX1_bit 2 (some .int), Cond.methodLink RX0 77 yX0_countedTruth, Cond.instanceMethod yX0_countedTruth, Cond.selects RX0 yX0_countedTruth yX0_countedTruth]
def wsL_contradict_r4 : List Cond := [Cond.code yX0_countedTruth cX0_countedTruth 2 (some .int), Cond.methodLink RX1 83 yX1_clear, Cond.instanceMethod yX1_clear, Cond.selects RX1 yX1_clear yX1_clear, Cond.code yX1_clear cX1_clear 1 none, Cond.methodLink RX1 64 yJ7_fill_53178, Cond.static yJ7_fill_53178, Cond.initialized RJ7, Cond.code yJ7_fill_53178 cJ7_fill_53178 4 none, Cond.methodLink RX1 86 yX1_keepNext, Cond.instanceMethod yX1_keepNext, Cond.selects RX1 yX1_keepNext yX1_keepNext, Cond.code yX1_keepNext cX1_keepNext 2 (some .int)]
def wsL_contradict : List Cond := .codeWith yL_contradict cL_contradict 4 (some .int) [(0, 9, 12, 13), (0, 9, 15, 19)] :: ((wsL_contradict_r1 ++ (wsL_contradict_r2 ++ (wsL_contradict_r3 ++ wsL_contradict_r4))) ++ wsX10 ++ wsX00 ++ (vx_at0 RX1 63 "java/lang/IllegalArgumentException" ["java/lang/RuntimeException", "java/lang/Exception"]).filter goodWord ++ (vx_at0 RX1 76 "java/lang/IllegalStateException" ["java/lang/RuntimeException", "java/lang/Exception"]).filter goodWord)
def wsL_found_r1 : List Cond := [Cond.classLink RL 13 "java/lang/IllegalArgumentException", Cond.classLink RL 19 "java/lang/IllegalStateException", Cond.methodLink RL 71 yX1_found, Cond.instanceMethod yX1_found, Cond.selects RX1 yX1_found yX1_found, Cond.initialized RX1, Cond.code yX1_found cX1_found 2 (some .boolean), Cond.classLink RX1 61 "java/lang/IllegalArgumentException", Cond.initialized "java/lang/IllegalArgumentException", Cond.fieldLink RX1 37 "ChoiceBoard" "taken" "Z", Cond.fieldLink RX1 41 "ChoiceBoard" "bestValue" "I", Cond.fieldLink RX1 18 "ChoiceBoard" "store" "[LChoiceBoard$Constraint;", Cond.fieldLink RX1 22 "ChoiceBoard" "stored" "I", Cond.fieldLink RX1 13 "ChoiceBoard" "objectiveFactors" "[I", Cond.methodLink RX1 112 yX1_isChoice, Cond.static yX1_isChoice, Cond.code yX1_isChoice cX1_isChoice 1 (some .boolean), Cond.methodLink RX1 57 yX1_isWithin, Cond.static yX1_isWithin, Cond.code yX1_isWithin cX1_isWithin 3 (some .boolean), Cond.methodLink RX1 155 yX1_refuseFullStore, Cond.instanceMethod yX1_refuseFullStore, Cond.selects RX1 yX1_refuseFullStore yX1_refuseFullStore, Cond.code yX1_refuseFullStore cX1_refuseFullStore 1 none]
def wsL_found_r2 : List Cond := [Cond.classLink RX1 74 "java/lang/IllegalStateException", Cond.initialized "java/lang/IllegalStateException", Cond.methodLink RX1 70 yX1_isStoreFull, Cond.instanceMethod yX1_isStoreFull, Cond.selects RX1 yX1_isStoreFull yX1_isStoreFull, Cond.code yX1_isStoreFull cX1_isStoreFull 1 (some .boolean), Cond.methodLink RX1 161 yX1_meetsStore, Cond.instanceMethod yX1_meetsStore, Cond.selects RX1 yX1_meetsStore yX1_meetsStore, Cond.code yX1_meetsStore cX1_meetsStore 5 (some .boolean), Cond.methodLink RX1 190 yX0_isMetBy, Cond.instanceMethod yX0_isMetBy, Cond.selects RX0 yX0_isMetBy yX0_isMetBy, Cond.initialized RX0, Cond.code yX0_isMetBy cX0_isMetBy 2 (some .boolean), Cond.methodLink RX0 71 yX0_slack, Cond.instanceMethod yX0_slack, Cond.selects RX0 yX0_slack yX0_slack, Cond.code yX0_slack cX0_slack 5 (some .int), Cond.fieldLink RX0 15 "ChoiceBoard$Constraint" "degree" "I", Cond.static yX1_bit, Cond.code yX1_bit cX1_bit 2 (some .int), Cond.methodLink RX0 77 yX0_countedTruth, Cond.instanceMethod yX0_countedTruth]
def wsL_found_r3 : List Cond := [Cond.selects RX0 yX0_countedTruth yX0_countedTruth, Cond.code yX0_countedTruth cX0_countedTruth 2 (some .int), Cond.fieldLink RX0 9 "ChoiceBoard$Constraint" "weights" "[I", Cond.methodLink RX0 33 yX0_size, Cond.instanceMethod yX0_size, Cond.selects RX0 yX0_size yX0_size, Cond.code yX0_size cX0_size 2 (some .int), Cond.methodLink RX0 67 Lib.Math.abs.name, Cond.static Lib.Math.abs.name, Cond.initialized "java/lang/Math", Cond.code Lib.Math.abs.name Lib.Math.abs.code 1 (some .int), Cond.methodLink RX1 165 yX1_objectiveValue, Cond.instanceMethod yX1_objectiveValue, Cond.selects RX1 yX1_objectiveValue yX1_objectiveValue, Cond.code yX1_objectiveValue cX1_objectiveValue 4 (some .int), Cond.methodLink RX1 181 yX1_bit, Cond.methodLink RX1 168 yX1_hasObjective, Cond.instanceMethod yX1_hasObjective, Cond.selects RX1 yX1_hasObjective yX1_hasObjective, Cond.code yX1_hasObjective cX1_hasObjective 2 (some .boolean), Cond.methodLink RX1 80 yX0_becomeAtMost, Cond.instanceMethod yX0_becomeAtMost, Cond.selects RX0 yX0_becomeAtMost yX0_becomeAtMost, Cond.code yX0_becomeAtMost cX0_becomeAtMost 3 none]
def wsL_found_r4 : List Cond := [Cond.methodLink RX0 29 yX0_normalize, Cond.instanceMethod yX0_normalize, Cond.selects RX0 yX0_normalize yX0_normalize, Cond.code yX0_normalize cX0_normalize 6 none, Cond.methodLink RX0 37 Lib.Math.max.name, Cond.static Lib.Math.max.name, Cond.code Lib.Math.max.name Lib.Math.max.code 2 (some .int), Cond.methodLink RX1 86 yX1_keepNext, Cond.instanceMethod yX1_keepNext, Cond.selects RX1 yX1_keepNext yX1_keepNext, Cond.code yX1_keepNext cX1_keepNext 2 (some .int)]
def wsL_found : List Cond := .codeWith yL_found cL_found 4 (some .int) [(0, 16, 19, 13), (0, 16, 22, 19)] :: ((wsL_found_r1 ++ (wsL_found_r2 ++ (wsL_found_r3 ++ wsL_found_r4))) ++ wsX10 ++ wsX00 ++ (vx_at0 RX1 63 "java/lang/IllegalArgumentException" ["java/lang/RuntimeException", "java/lang/Exception"]).filter goodWord ++ (vx_at0 RX1 76 "java/lang/IllegalStateException" ["java/lang/RuntimeException", "java/lang/Exception"]).filter goodWord)
def wsL_best : List Cond := .codeWith yL_best cL_best 3 (some .int) [(0, 8, 11, 27)] :: ([.classLink RL 27 "java/util/NoSuchElementException", .methodLink RL 75 yX1_best, .instanceMethod yX1_best, .selects RX1 yX1_best yX1_best, .initialized RX1, .code yX1_best cX1_best 1 (some .int), .classLink RX1 99 "java/util/NoSuchElementException", .initialized "java/util/NoSuchElementException", .fieldLink RX1 37 "ChoiceBoard" "taken" "Z", .fieldLink RX1 41 "ChoiceBoard" "bestValue" "I"] ++ wsX10 ++ (vx_at0 RX1 101 "java/util/NoSuchElementException" ["java/lang/RuntimeException", "java/lang/Exception"]).filter goodWord)
def wsL_least : List Cond := .codeWith yL_least cL_least 3 (some .int) [(0, 8, 11, 27)] :: ([.classLink RL 27 "java/util/NoSuchElementException", .methodLink RL 78 yX1_least, .instanceMethod yX1_least, .selects RX1 yX1_least yX1_least, .initialized RX1, .code yX1_least cX1_least 1 (some .int), .fieldLink RX1 47 "ChoiceBoard" "leastValue" "I", .methodLink RX1 178 yX1_refuseUnsolved, .instanceMethod yX1_refuseUnsolved, .selects RX1 yX1_refuseUnsolved yX1_refuseUnsolved, .code yX1_refuseUnsolved cX1_refuseUnsolved 1 none, .classLink RX1 99 "java/util/NoSuchElementException", .initialized "java/util/NoSuchElementException", .fieldLink RX1 44 "ChoiceBoard" "solved" "Z"] ++ wsX10 ++ (vx_at0 RX1 101 "java/util/NoSuchElementException" ["java/lang/RuntimeException", "java/lang/Exception"]).filter goodWord)
def wsL_value_r1 : List Cond := [Cond.classLink RL 27 "java/util/NoSuchElementException", Cond.classLink RL 13 "java/lang/IllegalArgumentException", Cond.methodLink RL 81 yX1_value, Cond.instanceMethod yX1_value, Cond.selects RX1 yX1_value yX1_value, Cond.initialized RX1, Cond.code yX1_value cX1_value 2 (some .int), Cond.classLink RX1 61 "java/lang/IllegalArgumentException", Cond.initialized "java/lang/IllegalArgumentException", Cond.fieldLink RX1 50 "ChoiceBoard" "leastChoice" "I", Cond.methodLink RX1 178 yX1_refuseUnsolved, Cond.instanceMethod yX1_refuseUnsolved, Cond.selects RX1 yX1_refuseUnsolved yX1_refuseUnsolved, Cond.code yX1_refuseUnsolved cX1_refuseUnsolved 1 none, Cond.classLink RX1 99 "java/util/NoSuchElementException", Cond.initialized "java/util/NoSuchElementException", Cond.fieldLink RX1 44 "ChoiceBoard" "solved" "Z", Cond.methodLink RX1 53 yX1_isVariable, Cond.static yX1_isVariable, Cond.code yX1_isVariable cX1_isVariable 1 (some .boolean), Cond.methodLink RX1 57 yX1_isWithin, Cond.static yX1_isWithin, Cond.code yX1_isWithin cX1_isWithin 3 (some .boolean), Cond.methodLink RX1 181 yX1_bit]
def wsL_value_r2 : List Cond := [Cond.static yX1_bit, Cond.code yX1_bit cX1_bit 2 (some .int)]
def wsL_value : List Cond := .codeWith yL_value cL_value 4 (some .int) [(0, 9, 12, 27), (0, 9, 15, 13)] :: ((wsL_value_r1 ++ wsL_value_r2) ++ wsX10 ++ (vx_at0 RX1 63 "java/lang/IllegalArgumentException" ["java/lang/RuntimeException", "java/lang/Exception"]).filter goodWord ++ (vx_at0 RX1 101 "java/util/NoSuchElementException" ["java/lang/RuntimeException", "java/lang/Exception"]).filter goodWord)
def wsL_law0_r1 : List Cond := [Cond.classLink RL 8 RX1, Cond.instantiable RX1 12, Cond.initialized RX1, Cond.classLink RL 85 RX2, Cond.instantiable RX2 13, Cond.initialized RX2, Cond.arrayClass .long, Cond.methodLink RL 84 yX1_init, Cond.instanceMethod yX1_init, Cond.code yX1_init cX1_init 2 none, Cond.methodLink RX1 3 objectInit, Cond.instanceMethod objectInit, Cond.code objectInit ⟨#[0xb1]⟩ 1 none, Cond.arrayClass .int, Cond.fieldLink RX1 9 "ChoiceBoard" "draft" "[I", Cond.fieldLink RX1 13 "ChoiceBoard" "objectiveFactors" "[I", Cond.classLink RX1 16 RX0, Cond.fieldLink RX1 18 "ChoiceBoard" "store" "[LChoiceBoard$Constraint;", Cond.fieldLink RX1 22 "ChoiceBoard" "stored" "I", Cond.fieldLink RX1 26 "ChoiceBoard" "stack" "[LChoiceBoard$Constraint;", Cond.fieldLink RX1 29 "ChoiceBoard" "stacked" "I", Cond.instantiable RX0 3, Cond.initialized RX0, Cond.fieldLink RX1 33 "ChoiceBoard" "scratch" "LChoiceBoard$Constraint;"]
def wsL_law0_r2 : List Cond := [Cond.fieldLink RX1 37 "ChoiceBoard" "taken" "Z", Cond.fieldLink RX1 41 "ChoiceBoard" "bestValue" "I", Cond.fieldLink RX1 44 "ChoiceBoard" "solved" "Z", Cond.fieldLink RX1 47 "ChoiceBoard" "leastValue" "I", Cond.fieldLink RX1 50 "ChoiceBoard" "leastChoice" "I", Cond.instanceMethod yX0_init, Cond.code yX0_init cX0_init 1 none, Cond.methodLink RX0 3 objectInit, Cond.fieldLink RX0 9 "ChoiceBoard$Constraint" "weights" "[I", Cond.fieldLink RX0 15 "ChoiceBoard$Constraint" "degree" "I", Cond.fieldLink RX0 19 "ChoiceBoard$Constraint" "given" "Z", Cond.methodLink RL 87 yX2_init, Cond.instanceMethod yX2_init, Cond.code yX2_init cX2_init 1 none, Cond.methodLink RX2 1 objectInit, Cond.fieldLink RX2 7 "ChoiceBoardModel" "cell" "[I", Cond.arrayClass .boolean, Cond.fieldLink RX2 13 "ChoiceBoardModel" "given" "[Z", Cond.fieldLink RX2 17 "ChoiceBoardModel" "draft" "[I", Cond.fieldLink RX2 20 "ChoiceBoardModel" "goal" "[I", Cond.fieldLink RX2 23 "ChoiceBoardModel" "state" "[I", Cond.methodLink RL 88 yL_term, Cond.static yL_term, Cond.initialized RL]
def wsL_law0_r3 : List Cond := [Cond.codeWith yL_term cL_term 4 (some .int) [(0, 6, 9, 13)], Cond.classLink RL 13 "java/lang/IllegalArgumentException", Cond.methodLink RL 7 yX1_term, Cond.instanceMethod yX1_term, Cond.selects RX1 yX1_term yX1_term, Cond.code yX1_term cX1_term 3 none, Cond.classLink RX1 61 "java/lang/IllegalArgumentException", Cond.initialized "java/lang/IllegalArgumentException", Cond.methodLink RX1 53 yX1_isVariable, Cond.static yX1_isVariable, Cond.code yX1_isVariable cX1_isVariable 1 (some .boolean), Cond.methodLink RX1 57 yX1_isWithin, Cond.static yX1_isWithin, Cond.code yX1_isWithin cX1_isWithin 3 (some .boolean), Cond.methodLink RL 93 yX2_term, Cond.instanceMethod yX2_term, Cond.selects RX2 yX2_term yX2_term, Cond.code yX2_term cX2_term 3 none, Cond.methodLink RX2 34 yX2_outside, Cond.static yX2_outside, Cond.code yX2_outside cX2_outside 3 (some .boolean), Cond.methodLink RX2 38 yX2_fails, Cond.instanceMethod yX2_fails, Cond.selects RX2 yX2_fails yX2_fails]
def wsL_law0_r4 : List Cond := [Cond.code yX2_fails cX2_fails 4 (some .boolean), Cond.fieldLink RX2 26 "ChoiceBoardModel" "thrown" "I", Cond.methodLink RL 94 yX2_thrown, Cond.instanceMethod yX2_thrown, Cond.selects RX2 yX2_thrown yX2_thrown, Cond.code yX2_thrown cX2_thrown 1 (some .int), Cond.methodLink RL 97 yX1_clear, Cond.instanceMethod yX1_clear, Cond.selects RX1 yX1_clear yX1_clear, Cond.code yX1_clear cX1_clear 1 none, Cond.methodLink RX1 64 yJ7_fill_53178, Cond.static yJ7_fill_53178, Cond.initialized RJ7, Cond.code yJ7_fill_53178 cJ7_fill_53178 4 none, Cond.methodLink RL 100 yX2_clear, Cond.instanceMethod yX2_clear, Cond.selects RX2 yX2_clear yX2_clear, Cond.code yX2_clear cX2_clear 1 none, Cond.methodLink RX2 42 yX2_empty, Cond.instanceMethod yX2_empty, Cond.selects RX2 yX2_empty yX2_empty, Cond.code yX2_empty cX2_empty 2 none, Cond.methodLink RL 101 yL_require, Cond.static yL_require]
def wsL_law0_r5 : List Cond := [Cond.codeWith yL_require cL_require 5 (some .int) [(0, 10, 13, 13), (0, 10, 17, 19)], Cond.classLink RL 19 "java/lang/IllegalStateException", Cond.methodLink RL 15 yX1_require, Cond.instanceMethod yX1_require, Cond.selects RX1 yX1_require yX1_require, Cond.code yX1_require cX1_require 3 (some .int), Cond.classLink RX1 74 "java/lang/IllegalStateException", Cond.initialized "java/lang/IllegalStateException", Cond.methodLink RX1 70 yX1_isStoreFull, Cond.instanceMethod yX1_isStoreFull, Cond.selects RX1 yX1_isStoreFull yX1_isStoreFull, Cond.code yX1_isStoreFull cX1_isStoreFull 1 (some .boolean), Cond.methodLink RX1 77 yX0_becomeAtLeast, Cond.instanceMethod yX0_becomeAtLeast, Cond.selects RX0 yX0_becomeAtLeast yX0_becomeAtLeast, Cond.code yX0_becomeAtLeast cX0_becomeAtLeast 3 none, Cond.methodLink RX0 29 yX0_normalize, Cond.instanceMethod yX0_normalize, Cond.selects RX0 yX0_normalize yX0_normalize, Cond.code yX0_normalize cX0_normalize 6 none, Cond.methodLink RX0 37 Lib.Math.max.name, Cond.static Lib.Math.max.name, Cond.initialized "java/lang/Math", Cond.code Lib.Math.max.name Lib.Math.max.code 2 (some .int)]
def wsL_law0_r6 : List Cond := [Cond.methodLink RX0 33 yX0_size, Cond.instanceMethod yX0_size, Cond.selects RX0 yX0_size yX0_size, Cond.code yX0_size cX0_size 2 (some .int), Cond.methodLink RX0 67 Lib.Math.abs.name, Cond.static Lib.Math.abs.name, Cond.code Lib.Math.abs.name Lib.Math.abs.code 1 (some .int), Cond.methodLink RX1 80 yX0_becomeAtMost, Cond.instanceMethod yX0_becomeAtMost, Cond.selects RX0 yX0_becomeAtMost yX0_becomeAtMost, Cond.code yX0_becomeAtMost cX0_becomeAtMost 3 none, Cond.methodLink RX1 83 yX1_clear, Cond.methodLink RX1 86 yX1_keepNext, Cond.instanceMethod yX1_keepNext, Cond.selects RX1 yX1_keepNext yX1_keepNext, Cond.code yX1_keepNext cX1_keepNext 2 (some .int), Cond.methodLink RL 104 yX2_require, Cond.instanceMethod yX2_require, Cond.selects RX2 yX2_require yX2_require, Cond.code yX2_require cX2_require 3 (some .int), Cond.fieldLink RX2 45 "ChoiceBoardModel" "stored" "I", Cond.fieldLink RX2 52 "ChoiceBoardModel" "taken" "Z", Cond.methodLink RX2 56 yX2_normalize, Cond.instanceMethod yX2_normalize]
def wsL_law0_r7 : List Cond := [Cond.selects RX2 yX2_normalize yX2_normalize, Cond.code yX2_normalize cX2_normalize 7 none, Cond.methodLink RX2 60 yX2_keep, Cond.instanceMethod yX2_keep, Cond.selects RX2 yX2_keep yX2_keep, Cond.code yX2_keep cX2_keep 3 (some .int), Cond.methodLink RX2 48 yX2_copy, Cond.instanceMethod yX2_copy, Cond.selects RX2 yX2_copy yX2_copy, Cond.code yX2_copy cX2_copy 4 none, Cond.methodLink RL 105 yL_objective, Cond.static yL_objective, Cond.codeWith yL_objective cL_objective 2 (some .int) [(0, 4, 7, 19)], Cond.methodLink RL 21 yX1_objective, Cond.instanceMethod yX1_objective, Cond.selects RX1 yX1_objective yX1_objective, Cond.code yX1_objective cX1_objective 1 none, Cond.methodLink RX1 90 arraycopyName, Cond.native arraycopyName, Cond.static arraycopyName, Cond.initialized "java/lang/System", Cond.methodLink RL 108 yX2_objective, Cond.instanceMethod yX2_objective, Cond.selects RX2 yX2_objective yX2_objective]
def wsL_law0_r8 : List Cond := [Cond.code yX2_objective cX2_objective 2 none, Cond.methodLink RL 109 yX1_constraints, Cond.instanceMethod yX1_constraints, Cond.selects RX1 yX1_constraints yX1_constraints, Cond.code yX1_constraints cX1_constraints 1 (some .int), Cond.methodLink RL 112 yX2_constraints, Cond.instanceMethod yX2_constraints, Cond.selects RX2 yX2_constraints yX2_constraints, Cond.code yX2_constraints cX2_constraints 1 (some .int), Cond.methodLink RL 113 yL_constraint, Cond.static yL_constraint, Cond.codeWith yL_constraint cL_constraint 5 (some .int) [(0, 10, 13, 27), (0, 10, 17, 13)], Cond.classLink RL 27 "java/util/NoSuchElementException", Cond.methodLink RL 24 yX1_constraint, Cond.instanceMethod yX1_constraint, Cond.selects RX1 yX1_constraint yX1_constraint, Cond.code yX1_constraint cX1_constraint 3 (some .int), Cond.classLink RX1 99 "java/util/NoSuchElementException", Cond.initialized "java/util/NoSuchElementException", Cond.methodLink RX1 96 yX1_isStored, Cond.instanceMethod yX1_isStored, Cond.selects RX1 yX1_isStored yX1_isStored, Cond.code yX1_isStored cX1_isStored 2 (some .boolean), Cond.methodLink RX1 102 yX1_isQuestion]
def wsL_law0_r9 : List Cond := [Cond.static yX1_isQuestion, Cond.code yX1_isQuestion cX1_isQuestion 1 (some .boolean), Cond.methodLink RX1 108 yX0_weightOrDegree, Cond.instanceMethod yX0_weightOrDegree, Cond.selects RX0 yX0_weightOrDegree yX0_weightOrDegree, Cond.code yX0_weightOrDegree cX0_weightOrDegree 2 (some .int), Cond.methodLink RL 115 yX2_constraint, Cond.instanceMethod yX2_constraint, Cond.selects RX2 yX2_constraint yX2_constraint, Cond.code yX2_constraint cX2_constraint 3 (some .int), Cond.methodLink RL 116 yL_close, Cond.static yL_close, Cond.codeWith yL_close cL_close 5 (some .int) [(0, 10, 13, 13)], Cond.methodLink RL 29 yX1_close, Cond.instanceMethod yX1_close, Cond.selects RX1 yX1_close yX1_close, Cond.code yX1_close cX1_close 3 (some .int), Cond.methodLink RX1 112 yX1_isChoice, Cond.static yX1_isChoice, Cond.code yX1_isChoice cX1_isChoice 1 (some .boolean), Cond.methodLink RX1 115 yX1_closed, Cond.instanceMethod yX1_closed, Cond.selects RX1 yX1_closed yX1_closed, Cond.code yX1_closed cX1_closed 7 (some .int)]
def wsL_law0_r10 : List Cond := [Cond.methodLink RX1 196 yX0_forcedFrom, Cond.instanceMethod yX0_forcedFrom, Cond.selects RX0 yX0_forcedFrom yX0_forcedFrom, Cond.code yX0_forcedFrom cX0_forcedFrom 6 (some .int), Cond.methodLink RX0 71 yX0_slack, Cond.instanceMethod yX0_slack, Cond.selects RX0 yX0_slack yX0_slack, Cond.code yX0_slack cX0_slack 5 (some .int), Cond.static yX1_bit, Cond.code yX1_bit cX1_bit 2 (some .int), Cond.methodLink RX0 77 yX0_countedTruth, Cond.instanceMethod yX0_countedTruth, Cond.selects RX0 yX0_countedTruth yX0_countedTruth, Cond.code yX0_countedTruth cX0_countedTruth 2 (some .int), Cond.methodLink RL 118 yX2_close, Cond.instanceMethod yX2_close, Cond.selects RX2 yX2_close yX2_close, Cond.code yX2_close cX2_close 5 (some .int), Cond.methodLink RX2 70 yX2_closes, Cond.instanceMethod yX2_closes, Cond.selects RX2 yX2_closes yX2_closes, Cond.code yX2_closes cX2_closes 6 (some .boolean), Cond.methodLink RX2 67 yX2_tighten, Cond.instanceMethod yX2_tighten]
def wsL_law0_r11 : List Cond := [Cond.selects RX2 yX2_tighten yX2_tighten, Cond.code yX2_tighten cX2_tighten 6 (some .int), Cond.methodLink RX2 64 yX2_slack, Cond.instanceMethod yX2_slack, Cond.selects RX2 yX2_slack yX2_slack, Cond.code yX2_slack cX2_slack 6 (some .int), Cond.methodLink RX2 30 yX2_size, Cond.static yX2_size, Cond.code yX2_size cX2_size 1 (some .int), Cond.methodLink RL 119 yL_load, Cond.static yL_load, Cond.codeWith yL_load cL_load 3 (some .int) [(0, 5, 8, 27), (0, 5, 11, 19)], Cond.methodLink RL 32 yX1_load, Cond.instanceMethod yX1_load, Cond.selects RX1 yX1_load yX1_load, Cond.code yX1_load cX1_load 2 none, Cond.methodLink RX1 119 yX1_refuseFullStack, Cond.instanceMethod yX1_refuseFullStack, Cond.selects RX1 yX1_refuseFullStack yX1_refuseFullStack, Cond.code yX1_refuseFullStack cX1_refuseFullStack 1 none, Cond.methodLink RX1 122 yX0_become, Cond.instanceMethod yX0_become, Cond.selects RX0 yX0_become yX0_become, Cond.code yX0_become cX0_become 2 none]
def wsL_law0_r12 : List Cond := [Cond.methodLink RX0 23 arraycopyName, Cond.methodLink RL 122 yX2_load, Cond.instanceMethod yX2_load, Cond.selects RX2 yX2_load yX2_load, Cond.code yX2_load cX2_load 2 none, Cond.fieldLink RX2 74 "ChoiceBoardModel" "stacked" "I", Cond.methodLink RX2 77 yX2_upper, Cond.instanceMethod yX2_upper, Cond.selects RX2 yX2_upper yX2_upper, Cond.code yX2_upper cX2_upper 1 (some .int), Cond.methodLink RL 123 yL_axiom, Cond.static yL_axiom, Cond.codeWith yL_axiom cL_axiom 4 (some .int) [(0, 6, 9, 27), (0, 6, 12, 19)], Cond.methodLink RL 36 yX1_axiom, Cond.instanceMethod yX1_axiom, Cond.selects RX1 yX1_axiom yX1_axiom, Cond.code yX1_axiom cX1_axiom 3 none, Cond.methodLink RX1 126 yX0_becomeAxiom, Cond.instanceMethod yX0_becomeAxiom, Cond.selects RX0 yX0_becomeAxiom yX0_becomeAxiom, Cond.code yX0_becomeAxiom cX0_becomeAxiom 3 none, Cond.methodLink RX0 43 yJ7_fill_53178, Cond.methodLink RL 126 yX2_axiom, Cond.instanceMethod yX2_axiom]
def wsL_law0_r13 : List Cond := [Cond.selects RX2 yX2_axiom yX2_axiom, Cond.code yX2_axiom cX2_axiom 4 none, Cond.methodLink RL 127 yL_add, Cond.static yL_add, Cond.codeWith yL_add cL_add 2 (some .int) [(0, 4, 7, 19), (0, 4, 10, 43)], Cond.classLink RL 43 "java/lang/ArithmeticException", Cond.methodLink RL 40 yX1_add, Cond.instanceMethod yX1_add, Cond.selects RX1 yX1_add yX1_add, Cond.code yX1_add cX1_add 1 none, Cond.methodLink RX1 130 yX0_becomeSum, Cond.instanceMethod yX0_becomeSum, Cond.selects RX0 yX0_becomeSum yX0_becomeSum, Cond.code yX0_becomeSum cX0_becomeSum 5 none, Cond.methodLink RX0 53 Lib.Math.min.name, Cond.static Lib.Math.min.name, Cond.code Lib.Math.min.name Lib.Math.min.code 2 (some .int), Cond.methodLink RX0 49 yX0_isOpposed, Cond.instanceMethod yX0_isOpposed, Cond.selects RX0 yX0_isOpposed yX0_isOpposed, Cond.code yX0_isOpposed cX0_isOpposed 3 (some .boolean), Cond.methodLink RX1 134 yX1_refuseTooLargeScratch, Cond.instanceMethod yX1_refuseTooLargeScratch, Cond.selects RX1 yX1_refuseTooLargeScratch yX1_refuseTooLargeScratch]
def wsL_law0_r14 : List Cond := [Cond.code yX1_refuseTooLargeScratch cX1_refuseTooLargeScratch 1 none, Cond.classLink RX1 187 "java/lang/ArithmeticException", Cond.initialized "java/lang/ArithmeticException", Cond.methodLink RX1 184 yX0_isTooLarge, Cond.instanceMethod yX0_isTooLarge, Cond.selects RX0 yX0_isTooLarge yX0_isTooLarge, Cond.code yX0_isTooLarge cX0_isTooLarge 2 (some .boolean), Cond.constant RX0 70 (1000000), Cond.methodLink RL 129 yX2_add, Cond.instanceMethod yX2_add, Cond.selects RX2 yX2_add yX2_add, Cond.code yX2_add cX2_add 8 none, Cond.methodLink RX2 82 yX2_large, Cond.instanceMethod yX2_large, Cond.selects RX2 yX2_large yX2_large, Cond.code yX2_large cX2_large 4 (some .boolean), Cond.constant RX2 81 (1000000), Cond.methodLink RL 130 yL_times, Cond.static yL_times, Cond.codeWith yL_times cL_times 3 (some .int) [(0, 5, 8, 19), (0, 5, 11, 13), (0, 5, 14, 43)], Cond.methodLink RL 45 yX1_times, Cond.instanceMethod yX1_times, Cond.selects RX1 yX1_times yX1_times, Cond.code yX1_times cX1_times 2 none]
def wsL_law0_r15 : List Cond := [Cond.methodLink RX1 137 yX1_refuseEmptyStack, Cond.instanceMethod yX1_refuseEmptyStack, Cond.selects RX1 yX1_refuseEmptyStack yX1_refuseEmptyStack, Cond.code yX1_refuseEmptyStack cX1_refuseEmptyStack 1 none, Cond.methodLink RX1 140 yX0_becomeMultiple, Cond.instanceMethod yX0_becomeMultiple, Cond.selects RX0 yX0_becomeMultiple yX0_becomeMultiple, Cond.code yX0_becomeMultiple cX0_becomeMultiple 4 none, Cond.methodLink RL 132 yX2_times, Cond.instanceMethod yX2_times, Cond.selects RX2 yX2_times yX2_times, Cond.code yX2_times cX2_times 3 none, Cond.methodLink RL 133 yL_divide, Cond.static yL_divide, Cond.codeWith yL_divide cL_divide 3 (some .int) [(0, 5, 8, 19), (0, 5, 11, 13)], Cond.methodLink RL 48 yX1_divide, Cond.instanceMethod yX1_divide, Cond.selects RX1 yX1_divide yX1_divide, Cond.code yX1_divide cX1_divide 2 none, Cond.constant RX1 144 (1000000), Cond.methodLink RX1 145 yX0_divideRoundingUp, Cond.instanceMethod yX0_divideRoundingUp, Cond.selects RX0 yX0_divideRoundingUp yX0_divideRoundingUp, Cond.code yX0_divideRoundingUp cX0_divideRoundingUp 3 none]
def wsL_law0_r16 : List Cond := [Cond.methodLink RX0 56 yX0_quotientRoundedUp, Cond.static yX0_quotientRoundedUp, Cond.code yX0_quotientRoundedUp cX0_quotientRoundedUp 2 (some .int), Cond.methodLink RX0 59 yX0_resize, Cond.instanceMethod yX0_resize, Cond.selects RX0 yX0_resize yX0_resize, Cond.code yX0_resize cX0_resize 3 none, Cond.methodLink RL 135 yX2_divide, Cond.instanceMethod yX2_divide, Cond.selects RX2 yX2_divide yX2_divide, Cond.code yX2_divide cX2_divide 4 none, Cond.methodLink RX2 86 yX2_part, Cond.static yX2_part, Cond.code yX2_part cX2_part 2 (some .int), Cond.methodLink RL 136 yL_saturate, Cond.static yL_saturate, Cond.codeWith yL_saturate cL_saturate 2 (some .int) [(0, 4, 7, 19)], Cond.methodLink RL 51 yX1_saturate, Cond.instanceMethod yX1_saturate, Cond.selects RX1 yX1_saturate yX1_saturate, Cond.code yX1_saturate cX1_saturate 1 none, Cond.methodLink RX1 149 yX0_limitSizesToDegree, Cond.instanceMethod yX0_limitSizesToDegree, Cond.selects RX0 yX0_limitSizesToDegree yX0_limitSizesToDegree]
def wsL_law0_r17 : List Cond := [Cond.code yX0_limitSizesToDegree cX0_limitSizesToDegree 2 none, Cond.methodLink RL 138 yX2_saturate, Cond.instanceMethod yX2_saturate, Cond.selects RX2 yX2_saturate yX2_saturate, Cond.code yX2_saturate cX2_saturate 4 none, Cond.methodLink RL 139 yL_weaken, Cond.static yL_weaken, Cond.codeWith yL_weaken cL_weaken 3 (some .int) [(0, 5, 8, 19), (0, 5, 11, 27)], Cond.methodLink RL 54 yX1_weaken, Cond.instanceMethod yX1_weaken, Cond.selects RX1 yX1_weaken yX1_weaken, Cond.code yX1_weaken cX1_weaken 2 none, Cond.methodLink RX1 152 yX0_giveUp, Cond.instanceMethod yX0_giveUp, Cond.selects RX0 yX0_giveUp yX0_giveUp, Cond.code yX0_giveUp cX0_giveUp 2 none, Cond.methodLink RL 141 yX2_weaken, Cond.instanceMethod yX2_weaken, Cond.selects RX2 yX2_weaken yX2_weaken, Cond.code yX2_weaken cX2_weaken 3 none, Cond.methodLink RL 142 yL_drop, Cond.static yL_drop, Cond.codeWith yL_drop cL_drop 2 (some .int) [(0, 4, 7, 19)], Cond.methodLink RL 57 yX1_drop]
def wsL_law0_r18 : List Cond := [Cond.instanceMethod yX1_drop, Cond.selects RX1 yX1_drop yX1_drop, Cond.code yX1_drop cX1_drop 1 none, Cond.methodLink RL 144 yX2_drop, Cond.instanceMethod yX2_drop, Cond.selects RX2 yX2_drop yX2_drop, Cond.code yX2_drop cX2_drop 1 none, Cond.methodLink RL 145 yL_top, Cond.static yL_top, Cond.codeWith yL_top cL_top 4 (some .int) [(0, 9, 12, 13), (0, 9, 15, 19)], Cond.methodLink RL 60 yX1_top, Cond.instanceMethod yX1_top, Cond.selects RX1 yX1_top yX1_top, Cond.code yX1_top cX1_top 2 (some .int), Cond.methodLink RL 148 yX2_top, Cond.instanceMethod yX2_top, Cond.selects RX2 yX2_top yX2_top, Cond.code yX2_top cX2_top 2 (some .int), Cond.methodLink RL 149 yL_learn, Cond.static yL_learn, Cond.codeWith yL_learn cL_learn 3 (some .int) [(0, 8, 11, 19)], Cond.methodLink RL 64 yX1_learn, Cond.instanceMethod yX1_learn, Cond.selects RX1 yX1_learn yX1_learn]
def wsL_law0_r19 : List Cond := [Cond.code yX1_learn cX1_learn 1 (some .int), Cond.methodLink RX1 155 yX1_refuseFullStore, Cond.instanceMethod yX1_refuseFullStore, Cond.selects RX1 yX1_refuseFullStore yX1_refuseFullStore, Cond.code yX1_refuseFullStore cX1_refuseFullStore 1 none, Cond.methodLink RL 152 yX2_learn, Cond.instanceMethod yX2_learn, Cond.selects RX2 yX2_learn yX2_learn, Cond.code yX2_learn cX2_learn 2 (some .int), Cond.methodLink RL 153 yL_contradict, Cond.static yL_contradict, Cond.codeWith yL_contradict cL_contradict 4 (some .int) [(0, 9, 12, 13), (0, 9, 15, 19)], Cond.methodLink RL 68 yX1_contradict, Cond.instanceMethod yX1_contradict, Cond.selects RX1 yX1_contradict yX1_contradict, Cond.code yX1_contradict cX1_contradict 2 (some .int), Cond.methodLink RX1 158 yX0_turnToContrary, Cond.instanceMethod yX0_turnToContrary, Cond.selects RX0 yX0_turnToContrary yX0_turnToContrary, Cond.code yX0_turnToContrary cX0_turnToContrary 2 none, Cond.methodLink RX0 63 yX0_sizeOfAll, Cond.instanceMethod yX0_sizeOfAll, Cond.selects RX0 yX0_sizeOfAll yX0_sizeOfAll, Cond.code yX0_sizeOfAll cX0_sizeOfAll 3 (some .int)]
def wsL_law0_r20 : List Cond := [Cond.methodLink RL 155 yX2_contradict, Cond.instanceMethod yX2_contradict, Cond.selects RX2 yX2_contradict yX2_contradict, Cond.code yX2_contradict cX2_contradict 4 (some .int), Cond.methodLink RX2 90 yX2_sizes, Cond.instanceMethod yX2_sizes, Cond.selects RX2 yX2_sizes yX2_sizes, Cond.code yX2_sizes cX2_sizes 4 (some .int), Cond.methodLink RL 156 yL_found, Cond.static yL_found, Cond.codeWith yL_found cL_found 4 (some .int) [(0, 16, 19, 13), (0, 16, 22, 19)], Cond.methodLink RL 71 yX1_found, Cond.instanceMethod yX1_found, Cond.selects RX1 yX1_found yX1_found, Cond.code yX1_found cX1_found 2 (some .boolean), Cond.methodLink RX1 161 yX1_meetsStore, Cond.instanceMethod yX1_meetsStore, Cond.selects RX1 yX1_meetsStore yX1_meetsStore, Cond.code yX1_meetsStore cX1_meetsStore 5 (some .boolean), Cond.methodLink RX1 190 yX0_isMetBy, Cond.instanceMethod yX0_isMetBy, Cond.selects RX0 yX0_isMetBy yX0_isMetBy, Cond.code yX0_isMetBy cX0_isMetBy 2 (some .boolean), Cond.methodLink RX1 165 yX1_objectiveValue]
def wsL_law0_r21 : List Cond := [Cond.instanceMethod yX1_objectiveValue, Cond.selects RX1 yX1_objectiveValue yX1_objectiveValue, Cond.code yX1_objectiveValue cX1_objectiveValue 4 (some .int), Cond.methodLink RX1 181 yX1_bit, Cond.methodLink RX1 168 yX1_hasObjective, Cond.instanceMethod yX1_hasObjective, Cond.selects RX1 yX1_hasObjective yX1_hasObjective, Cond.code yX1_hasObjective cX1_hasObjective 2 (some .boolean), Cond.methodLink RL 158 yX2_found, Cond.instanceMethod yX2_found, Cond.selects RX2 yX2_found yX2_found, Cond.code yX2_found cX2_found 3 (some .boolean), Cond.fieldLink RX2 100 "ChoiceBoardModel" "best" "I", Cond.methodLink RX2 93 yX2_meets, Cond.instanceMethod yX2_meets, Cond.selects RX2 yX2_meets yX2_meets, Cond.code yX2_meets cX2_meets 7 (some .boolean), Cond.methodLink RX2 97 yX2_worth, Cond.instanceMethod yX2_worth, Cond.selects RX2 yX2_worth yX2_worth, Cond.code yX2_worth cX2_worth 4 (some .int), Cond.methodLink RX2 103 yX2_noGoal, Cond.instanceMethod yX2_noGoal, Cond.selects RX2 yX2_noGoal yX2_noGoal]
def wsL_law0_r22 : List Cond := [Cond.code yX2_noGoal cX2_noGoal 3 (some .boolean), Cond.methodLink RL 159 yX1_verdict, Cond.instanceMethod yX1_verdict, Cond.selects RX1 yX1_verdict yX1_verdict, Cond.code yX1_verdict cX1_verdict 1 (some .int), Cond.methodLink RX1 171 yX1_hasVoid, Cond.instanceMethod yX1_hasVoid, Cond.selects RX1 yX1_hasVoid yX1_hasVoid, Cond.code yX1_hasVoid cX1_hasVoid 2 (some .boolean), Cond.methodLink RX1 193 yX0_isVoid, Cond.instanceMethod yX0_isVoid, Cond.selects RX0 yX0_isVoid yX0_isVoid, Cond.code yX0_isVoid cX0_isVoid 1 (some .boolean), Cond.methodLink RL 162 yX2_verdict, Cond.instanceMethod yX2_verdict, Cond.selects RX2 yX2_verdict yX2_verdict, Cond.code yX2_verdict cX2_verdict 2 (some .int), Cond.methodLink RL 163 yL_best, Cond.static yL_best, Cond.codeWith yL_best cL_best 3 (some .int) [(0, 8, 11, 27)], Cond.methodLink RL 75 yX1_best, Cond.instanceMethod yX1_best, Cond.selects RX1 yX1_best yX1_best, Cond.code yX1_best cX1_best 1 (some .int)]
def wsL_law0_r23 : List Cond := [Cond.methodLink RL 165 yX2_best, Cond.instanceMethod yX2_best, Cond.selects RX2 yX2_best yX2_best, Cond.code yX2_best cX2_best 1 (some .int), Cond.methodLink RL 166 yX1_solve, Cond.instanceMethod yX1_solve, Cond.selects RX1 yX1_solve yX1_solve, Cond.code yX1_solve cX1_solve 3 (some .int), Cond.methodLink RX1 174 yX1_isPreferred, Cond.instanceMethod yX1_isPreferred, Cond.selects RX1 yX1_isPreferred yX1_isPreferred, Cond.code yX1_isPreferred cX1_isPreferred 3 (some .boolean), Cond.methodLink RX1 199 yX1_comesBefore, Cond.static yX1_comesBefore, Cond.code yX1_comesBefore cX1_comesBefore 4 (some .boolean), Cond.methodLink RL 169 yX2_solve, Cond.instanceMethod yX2_solve, Cond.selects RX2 yX2_solve yX2_solve, Cond.code yX2_solve cX2_solve 6 (some .int), Cond.fieldLink RX2 107 "ChoiceBoardModel" "solved" "Z", Cond.fieldLink RX2 113 "ChoiceBoardModel" "least" "I", Cond.fieldLink RX2 116 "ChoiceBoardModel" "answer" "I", Cond.methodLink RX2 110 yX2_turned, Cond.static yX2_turned]
def wsL_law0_r24 : List Cond := [Cond.code yX2_turned cX2_turned 3 (some .int), Cond.methodLink RL 170 yL_least, Cond.static yL_least, Cond.codeWith yL_least cL_least 3 (some .int) [(0, 8, 11, 27)], Cond.methodLink RL 78 yX1_least, Cond.instanceMethod yX1_least, Cond.selects RX1 yX1_least yX1_least, Cond.code yX1_least cX1_least 1 (some .int), Cond.methodLink RX1 178 yX1_refuseUnsolved, Cond.instanceMethod yX1_refuseUnsolved, Cond.selects RX1 yX1_refuseUnsolved yX1_refuseUnsolved, Cond.code yX1_refuseUnsolved cX1_refuseUnsolved 1 none, Cond.methodLink RL 172 yX2_least, Cond.instanceMethod yX2_least, Cond.selects RX2 yX2_least yX2_least, Cond.code yX2_least cX2_least 1 (some .int), Cond.methodLink RL 173 yL_value, Cond.static yL_value, Cond.codeWith yL_value cL_value 4 (some .int) [(0, 9, 12, 27), (0, 9, 15, 13)], Cond.methodLink RL 81 yX1_value, Cond.instanceMethod yX1_value, Cond.selects RX1 yX1_value yX1_value, Cond.code yX1_value cX1_value 2 (some .int), Cond.methodLink RL 175 yX2_value]
def wsL_law0_r25 : List Cond := [Cond.instanceMethod yX2_value, Cond.selects RX2 yX2_value yX2_value, Cond.code yX2_value cX2_value 2 (some .int)]
def wsL_law0 : List Cond := (wsL_law0_r1 ++ (wsL_law0_r2 ++ (wsL_law0_r3 ++ (wsL_law0_r4 ++ (wsL_law0_r5 ++ (wsL_law0_r6 ++ (wsL_law0_r7 ++ (wsL_law0_r8 ++ (wsL_law0_r9 ++ (wsL_law0_r10 ++ (wsL_law0_r11 ++ (wsL_law0_r12 ++ (wsL_law0_r13 ++ (wsL_law0_r14 ++ (wsL_law0_r15 ++ (wsL_law0_r16 ++ (wsL_law0_r17 ++ (wsL_law0_r18 ++ (wsL_law0_r19 ++ (wsL_law0_r20 ++ (wsL_law0_r21 ++ (wsL_law0_r22 ++ (wsL_law0_r23 ++ (wsL_law0_r24 ++ wsL_law0_r25)))))))))))))))))))))))) ++ wsX10 ++ wsX20 ++ wsX00 ++ ([] : List Cond)
def wsL_law : List Cond := wsL_law0 ++ (vx_at0 RX1 63 "java/lang/IllegalArgumentException" ["java/lang/RuntimeException", "java/lang/Exception"]).filter goodWord ++ (vx_at0 RX1 76 "java/lang/IllegalStateException" ["java/lang/RuntimeException", "java/lang/Exception"]).filter goodWord ++ (vx_at0 RX1 101 "java/util/NoSuchElementException" ["java/lang/RuntimeException", "java/lang/Exception"]).filter goodWord ++ (vx_at0 RX1 189 "java/lang/ArithmeticException" ["java/lang/RuntimeException", "java/lang/Exception"]).filter goodWord
theorem in_r {big : List Cond} (ws : List Cond) (ps : List Nat) (hp : ws = ps.filterMap (fun i => big[i]?)) : ∀ w ∈ ws, w ∈ big := by
  intro w hw
  rw [hp] at hw
  obtain ⟨i, -, hi⟩ := List.mem_filterMap.mp hw
  first | exact List.mem_of_getElem? hi | exact List.getElem?_mem hi
set_option maxRecDepth 20000 in
theorem wsL_law_i1 : ∀ w ∈ wsL_law0_r1, w ∈ lw_tbl := in_r _ [50, 51, 37, 569, 570, 39, 785, 52, 53, 54, 55, 56, 57, 76, 77, 78, 58, 79, 80, 81, 82, 60, 38, 83] (by decide +kernel)
set_option maxRecDepth 20000 in
theorem wsL_law_i2 : ∀ w ∈ wsL_law0_r2, w ∈ lw_tbl := in_r _ [84, 85, 86, 87, 88, 62, 63, 64, 65, 66, 67, 571, 572, 573, 574, 576, 615, 577, 580, 581, 587, 187, 188, 36] (by decide +kernel)
set_option maxRecDepth 20000 in
theorem wsL_law_i3 : ∀ w ∈ wsL_law0_r3, w ∈ lw_tbl := in_r _ [189, 190, 191, 192, 193, 194, 201, 43, 195, 196, 197, 198, 199, 200, 620, 621, 622, 623, 624, 625, 626, 627, 629, 22] (by decide +kernel)
set_option maxRecDepth 20000 in
theorem wsL_law_i4 : ∀ w ∈ wsL_law0_r4, w ∈ lw_tbl := in_r _ [630, 575, 616, 617, 618, 619, 114, 115, 116, 117, 118, 119, 44, 120, 631, 632, 633, 634, 635, 637, 23, 638, 265, 266] (by decide +kernel)
end
section
set_option maxRecDepth 20000 in
theorem wsL_law_i5 : ∀ w ∈ wsL_law0_r5, w ∈ lw_tbl := in_r _ [267, 268, 269, 270, 271, 272, 277, 45, 273, 275, 10, 276, 292, 293, 294, 295, 296, 298, 11, 299, 300, 301, 46, 302] (by decide +kernel)
set_option maxRecDepth 20000 in
theorem wsL_law_i6 : ∀ w ∈ wsL_law0_r6, w ∈ lw_tbl := in_r _ [141, 143, 2, 144, 145, 146, 147, 303, 304, 305, 306, 307, 308, 310, 12, 311, 639, 640, 641, 642, 578, 582, 643, 645] (by decide +kernel)
set_option maxRecDepth 20000 in
theorem wsL_law_i7 : ∀ w ∈ wsL_law0_r7, w ∈ lw_tbl := in_r _ [24, 646, 647, 649, 25, 650, 651, 653, 26, 654, 312, 313, 314, 315, 316, 317, 318, 319, 321, 320, 47, 655, 656, 657] (by decide +kernel)
set_option maxRecDepth 20000 in
theorem wsL_law_i8 : ∀ w ∈ wsL_law0_r8, w ∈ lw_tbl := in_r _ [658, 121, 122, 123, 124, 659, 660, 661, 662, 322, 323, 324, 325, 326, 327, 328, 329, 334, 48, 330, 332, 13, 333, 349] (by decide +kernel)
set_option maxRecDepth 20000 in
theorem wsL_law_i9 : ∀ w ∈ wsL_law0_r9, w ∈ lw_tbl := in_r _ [350, 351, 352, 353, 354, 355, 663, 664, 665, 666, 356, 357, 358, 359, 360, 361, 362, 363, 364, 365, 366, 368, 14, 369] (by decide +kernel)
set_option maxRecDepth 20000 in
theorem wsL_law_i10 : ∀ w ∈ wsL_law0_r10, w ∈ lw_tbl := in_r _ [370, 371, 372, 373, 178, 180, 7, 181, 161, 162, 183, 185, 8, 186, 667, 668, 669, 670, 671, 673, 27, 674, 675, 677] (by decide +kernel)
set_option maxRecDepth 20000 in
theorem wsL_law_i11 : ∀ w ∈ wsL_law0_r11, w ∈ lw_tbl := in_r _ [28, 678, 679, 681, 29, 682, 683, 684, 685, 374, 375, 376, 377, 378, 379, 380, 381, 383, 15, 384, 385, 386, 387, 388] (by decide +kernel)
set_option maxRecDepth 20000 in
theorem wsL_law_i12 : ∀ w ∈ wsL_law0_r12, w ∈ lw_tbl := in_r _ [389, 686, 687, 688, 689, 579, 690, 692, 30, 693, 390, 391, 392, 393, 394, 395, 396, 397, 398, 399, 400, 401, 694, 695] (by decide +kernel)
set_option maxRecDepth 20000 in
theorem wsL_law_i13 : ∀ w ∈ wsL_law0_r13, w ∈ lw_tbl := in_r _ [696, 697, 402, 403, 404, 405, 406, 407, 408, 409, 410, 411, 412, 413, 418, 419, 420, 414, 416, 16, 417, 421, 423, 17] (by decide +kernel)
set_option maxRecDepth 20000 in
theorem wsL_law_i14 : ∀ w ∈ wsL_law0_r14, w ∈ lw_tbl := in_r _ [424, 430, 49, 425, 426, 427, 428, 429, 698, 699, 700, 701, 702, 704, 31, 705, 706, 445, 446, 447, 448, 449, 450, 451] (by decide +kernel)
set_option maxRecDepth 20000 in
theorem wsL_law_i15 : ∀ w ∈ wsL_law0_r15, w ∈ lw_tbl := in_r _ [452, 454, 18, 455, 456, 457, 458, 459, 707, 708, 709, 710, 460, 461, 462, 463, 464, 465, 466, 467, 468, 469, 470, 471] (by decide +kernel)
set_option maxRecDepth 20000 in
theorem wsL_law_i16 : ∀ w ∈ wsL_law0_r16, w ∈ lw_tbl := in_r _ [472, 473, 474, 475, 477, 19, 478, 711, 712, 713, 714, 715, 716, 717, 479, 480, 481, 482, 483, 484, 485, 486, 487, 488] (by decide +kernel)
set_option maxRecDepth 20000 in
theorem wsL_law_i17 : ∀ w ∈ wsL_law0_r17, w ∈ lw_tbl := in_r _ [489, 718, 719, 720, 721, 490, 491, 492, 493, 494, 495, 496, 497, 498, 499, 500, 722, 723, 724, 725, 501, 502, 503, 504] (by decide +kernel)
set_option maxRecDepth 20000 in
theorem wsL_law_i18 : ∀ w ∈ wsL_law0_r18, w ∈ lw_tbl := in_r _ [505, 506, 507, 726, 727, 728, 729, 508, 509, 510, 511, 512, 513, 514, 730, 731, 732, 733, 515, 516, 517, 518, 519, 520] (by decide +kernel)
set_option maxRecDepth 20000 in
theorem wsL_law_i19 : ∀ w ∈ wsL_law0_r19, w ∈ lw_tbl := in_r _ [521, 522, 524, 20, 525, 734, 735, 736, 737, 526, 527, 528, 529, 530, 531, 532, 533, 534, 535, 536, 137, 139, 1, 140] (by decide +kernel)
set_option maxRecDepth 20000 in
theorem wsL_law_i20 : ∀ w ∈ wsL_law0_r20, w ∈ lw_tbl := in_r _ [738, 739, 740, 741, 742, 744, 32, 745, 537, 538, 539, 540, 541, 542, 543, 170, 172, 6, 173, 174, 175, 176, 177, 156] (by decide +kernel)
set_option maxRecDepth 20000 in
theorem wsL_law_i21 : ∀ w ∈ wsL_law0_r21, w ∈ lw_tbl := in_r _ [158, 4, 159, 160, 148, 150, 3, 151, 746, 747, 748, 749, 583, 750, 752, 33, 753, 754, 756, 34, 757, 758, 760, 35] (by decide +kernel)
set_option maxRecDepth 20000 in
theorem wsL_law_i22 : ∀ w ∈ wsL_law0_r22, w ∈ lw_tbl := in_r _ [761, 125, 126, 127, 128, 129, 131, 0, 132, 133, 134, 135, 136, 762, 763, 764, 765, 544, 545, 546, 547, 548, 549, 550] (by decide +kernel)
set_option maxRecDepth 20000 in
theorem wsL_law_i23 : ∀ w ∈ wsL_law0_r23, w ∈ lw_tbl := in_r _ [766, 767, 768, 769, 152, 153, 154, 155, 163, 165, 5, 166, 167, 168, 169, 770, 771, 772, 773, 584, 585, 586, 774, 775] (by decide +kernel)
set_option maxRecDepth 20000 in
theorem wsL_law_i24 : ∀ w ∈ wsL_law0_r24, w ∈ lw_tbl := in_r _ [776, 551, 552, 553, 554, 555, 556, 557, 558, 560, 21, 561, 777, 778, 779, 780, 562, 563, 564, 565, 566, 567, 568, 781] (by decide +kernel)
set_option maxRecDepth 20000 in
theorem wsL_law_i25 : ∀ w ∈ wsL_law0_r25, w ∈ lw_tbl := in_r _ [782, 783, 784] (by decide +kernel)
set_option maxRecDepth 20000 in
theorem wsL_law_jX1 : ∀ w ∈ wsX10, w ∈ lw_tbl := by decide +kernel
set_option maxRecDepth 20000 in
theorem wsL_law_jX2 : ∀ w ∈ wsX20, w ∈ lw_tbl := by decide +kernel
set_option maxRecDepth 20000 in
theorem wsL_law_jX0 : ∀ w ∈ wsX00, w ∈ lw_tbl := by decide +kernel
theorem wsL_law_in0 : ∀ w ∈ wsL_law0, w ∈ lw_tbl := fun w h => (List.mem_append.mp h).elim (fun h => (List.mem_append.mp h).elim (fun h => (List.mem_append.mp h).elim (fun h => (List.mem_append.mp h).elim (fun h => (List.mem_append.mp h).elim (fun h => wsL_law_i1 w h) (fun h => (List.mem_append.mp h).elim (fun h => wsL_law_i2 w h) (fun h => (List.mem_append.mp h).elim (fun h => wsL_law_i3 w h) (fun h => (List.mem_append.mp h).elim (fun h => wsL_law_i4 w h) (fun h => (List.mem_append.mp h).elim (fun h => wsL_law_i5 w h) (fun h => (List.mem_append.mp h).elim (fun h => wsL_law_i6 w h) (fun h => (List.mem_append.mp h).elim (fun h => wsL_law_i7 w h) (fun h => (List.mem_append.mp h).elim (fun h => wsL_law_i8 w h) (fun h => (List.mem_append.mp h).elim (fun h => wsL_law_i9 w h) (fun h => (List.mem_append.mp h).elim (fun h => wsL_law_i10 w h) (fun h => (List.mem_append.mp h).elim (fun h => wsL_law_i11 w h) (fun h => (List.mem_append.mp h).elim (fun h => wsL_law_i12 w h) (fun h => (List.mem_append.mp h).elim (fun h => wsL_law_i13 w h) (fun h => (List.mem_append.mp h).elim (fun h => wsL_law_i14 w h) (fun h => (List.mem_append.mp h).elim (fun h => wsL_law_i15 w h) (fun h => (List.mem_append.mp h).elim (fun h => wsL_law_i16 w h) (fun h => (List.mem_append.mp h).elim (fun h => wsL_law_i17 w h) (fun h => (List.mem_append.mp h).elim (fun h => wsL_law_i18 w h) (fun h => (List.mem_append.mp h).elim (fun h => wsL_law_i19 w h) (fun h => (List.mem_append.mp h).elim (fun h => wsL_law_i20 w h) (fun h => (List.mem_append.mp h).elim (fun h => wsL_law_i21 w h) (fun h => (List.mem_append.mp h).elim (fun h => wsL_law_i22 w h) (fun h => (List.mem_append.mp h).elim (fun h => wsL_law_i23 w h) (fun h => (List.mem_append.mp h).elim (fun h => wsL_law_i24 w h) (fun h => wsL_law_i25 w h))))))))))))))))))))))))) (fun h => wsL_law_jX1 w h)) (fun h => wsL_law_jX2 w h)) (fun h => wsL_law_jX0 w h)) (fun h => absurd h List.not_mem_nil)
theorem wsL_law_x0 : ∀ w ∈ (vx_at0 RX1 63 "java/lang/IllegalArgumentException" ["java/lang/RuntimeException", "java/lang/Exception"]).filter goodWord, w ∈ lw_tbl := by decide +kernel
theorem wsL_law_x1 : ∀ w ∈ (vx_at0 RX1 76 "java/lang/IllegalStateException" ["java/lang/RuntimeException", "java/lang/Exception"]).filter goodWord, w ∈ lw_tbl := by decide +kernel
theorem wsL_law_x2 : ∀ w ∈ (vx_at0 RX1 101 "java/util/NoSuchElementException" ["java/lang/RuntimeException", "java/lang/Exception"]).filter goodWord, w ∈ lw_tbl := by decide +kernel
theorem wsL_law_x3 : ∀ w ∈ (vx_at0 RX1 189 "java/lang/ArithmeticException" ["java/lang/RuntimeException", "java/lang/Exception"]).filter goodWord, w ∈ lw_tbl := by decide +kernel
theorem wsL_law_in : ∀ w ∈ wsL_law, w ∈ lw_tbl := fun w h => (List.mem_append.mp h).elim (fun h => (List.mem_append.mp h).elim (fun h => (List.mem_append.mp h).elim (fun h => (List.mem_append.mp h).elim (fun h => wsL_law_in0 w h) (fun h => wsL_law_x0 w h)) (fun h => wsL_law_x1 w h)) (fun h => wsL_law_x2 w h)) (fun h => wsL_law_x3 w h)
theorem inlX0 : ∀ w ∈ wsX00, w ∈ wsL_law := fun _ h => List.mem_append_left _ (List.mem_append_left _ (List.mem_append_left _ (List.mem_append_left _ (List.mem_append_left _ (List.mem_append_right _ h)))))
theorem inX0 : ∀ w ∈ wsX00, w ∈ lw_tbl := fun w h => wsL_law_in w (inlX0 w h)
theorem inlX1 : ∀ w ∈ wsX10, w ∈ wsL_law := fun _ h => List.mem_append_left _ (List.mem_append_left _ (List.mem_append_left _ (List.mem_append_left _ (List.mem_append_left _ (List.mem_append_left _ (List.mem_append_left _ (List.mem_append_right _ h)))))))
theorem inX1 : ∀ w ∈ wsX10, w ∈ lw_tbl := fun w h => wsL_law_in w (inlX1 w h)
theorem inlX2 : ∀ w ∈ wsX20, w ∈ wsL_law := fun _ h => List.mem_append_left _ (List.mem_append_left _ (List.mem_append_left _ (List.mem_append_left _ (List.mem_append_left _ (List.mem_append_left _ (List.mem_append_right _ h))))))
theorem inX2 : ∀ w ∈ wsX20, w ∈ lw_tbl := fun w h => wsL_law_in w (inlX2 w h)
theorem inJ9 : ∀ w ∈ wsJ90, w ∈ lw_tbl := by decide +kernel
theorem inJ10 : ∀ w ∈ wsJ100, w ∈ lw_tbl := by decide +kernel
theorem inJ7 : ∀ w ∈ wsJ70, w ∈ lw_tbl := by decide +kernel
theorem dX0_init_0 : decode cX0_init 0 = .ok (.aload_n 0, 1) := by decide +kernel
theorem dX0_init_1 : decode cX0_init 1 = .ok (.invokespecial 3, 3) := by decide +kernel
theorem dX0_init_4 : decode cX0_init 4 = .ok (.aload_n 0, 1) := by decide +kernel
theorem dX0_init_5 : decode cX0_init 5 = .ok (.bipush 10, 2) := by decide +kernel
theorem dX0_init_7 : decode cX0_init 7 = .ok (.newarray .int, 2) := by decide +kernel
theorem dX0_init_9 : decode cX0_init 9 = .ok (.putfield 9, 3) := by decide +kernel
theorem dX0_init_12 : decode cX0_init 12 = .ok (.aload_n 0, 1) := by decide +kernel
theorem dX0_init_13 : decode cX0_init 13 = .ok (.iconst 0, 1) := by decide +kernel
theorem dX0_init_14 : decode cX0_init 14 = .ok (.putfield 15, 3) := by decide +kernel
theorem dX0_init_17 : decode cX0_init 17 = .ok (.aload_n 0, 1) := by decide +kernel
theorem dX0_init_18 : decode cX0_init 18 = .ok (.iconst 0, 1) := by decide +kernel
theorem dX0_init_19 : decode cX0_init 19 = .ok (.putfield 19, 3) := by decide +kernel
theorem dX0_init_22 : decode cX0_init 22 = .ok (.return_, 1) := by decide +kernel
theorem dX0_become_0 : decode cX0_become 0 = .ok (.aload_n 1, 1) := by decide +kernel
theorem dX0_become_1 : decode cX0_become 1 = .ok (.getfield 9, 3) := by decide +kernel
theorem dX0_become_4 : decode cX0_become 4 = .ok (.iconst 0, 1) := by decide +kernel
theorem dX0_become_5 : decode cX0_become 5 = .ok (.aload_n 0, 1) := by decide +kernel
theorem dX0_become_6 : decode cX0_become 6 = .ok (.getfield 9, 3) := by decide +kernel
theorem dX0_become_9 : decode cX0_become 9 = .ok (.iconst 0, 1) := by decide +kernel
theorem dX0_become_10 : decode cX0_become 10 = .ok (.bipush 10, 2) := by decide +kernel
theorem dX0_become_12 : decode cX0_become 12 = .ok (.invokestatic 23, 3) := by decide +kernel
theorem dX0_become_15 : decode cX0_become 15 = .ok (.aload_n 0, 1) := by decide +kernel
theorem dX0_become_16 : decode cX0_become 16 = .ok (.aload_n 1, 1) := by decide +kernel
theorem dX0_become_17 : decode cX0_become 17 = .ok (.getfield 15, 3) := by decide +kernel
theorem dX0_become_20 : decode cX0_become 20 = .ok (.putfield 15, 3) := by decide +kernel
theorem dX0_become_23 : decode cX0_become 23 = .ok (.return_, 1) := by decide +kernel
set_option maxRecDepth 20000 in
theorem ggX0_becomeAtLeast_X0_normalize : GoodIn wsX0_becomeAtLeast wsX0_normalize := goodIn_r _ [5, 6, 7, 8, 9, 10, 11, 12, 13, 14, 4, 15, 16, 17, 18, 19, 20, 21] (by decide +kernel) (by decide +kernel)
set_option maxRecDepth 20000 in
theorem gX0_becomeAtLeast_X0_normalize : GoodIn wsX0_becomeAtLeast (wsV RX0 29 RX0 yX0_normalize wsX0_normalize) := goodIn_app (goodIn_of _ (by decide +kernel)) ggX0_becomeAtLeast_X0_normalize
theorem dX0_becomeAtLeast_0 : decode cX0_becomeAtLeast 0 = .ok (.aload_n 0, 1) := by decide +kernel
theorem dX0_becomeAtLeast_1 : decode cX0_becomeAtLeast 1 = .ok (.aload_n 1, 1) := by decide +kernel
theorem dX0_becomeAtLeast_2 : decode cX0_becomeAtLeast 2 = .ok (.iconst 1, 1) := by decide +kernel
theorem dX0_becomeAtLeast_3 : decode cX0_becomeAtLeast 3 = .ok (.iload_n 2, 1) := by decide +kernel
theorem dX0_becomeAtLeast_4 : decode cX0_becomeAtLeast 4 = .ok (.invokevirtual 29, 3) := by decide +kernel
theorem dX0_becomeAtLeast_7 : decode cX0_becomeAtLeast 7 = .ok (.return_, 1) := by decide +kernel
set_option maxRecDepth 20000 in
theorem ggX0_becomeAtMost_X0_normalize : GoodIn wsX0_becomeAtMost wsX0_normalize := goodIn_r _ [5, 6, 7, 8, 9, 10, 11, 12, 13, 14, 4, 15, 16, 17, 18, 19, 20, 21] (by decide +kernel) (by decide +kernel)
set_option maxRecDepth 20000 in
theorem gX0_becomeAtMost_X0_normalize : GoodIn wsX0_becomeAtMost (wsV RX0 29 RX0 yX0_normalize wsX0_normalize) := goodIn_app (goodIn_of _ (by decide +kernel)) ggX0_becomeAtMost_X0_normalize
theorem dX0_becomeAtMost_0 : decode cX0_becomeAtMost 0 = .ok (.aload_n 0, 1) := by decide +kernel
theorem dX0_becomeAtMost_1 : decode cX0_becomeAtMost 1 = .ok (.aload_n 1, 1) := by decide +kernel
theorem dX0_becomeAtMost_2 : decode cX0_becomeAtMost 2 = .ok (.iconst (-1), 1) := by decide +kernel
theorem dX0_becomeAtMost_3 : decode cX0_becomeAtMost 3 = .ok (.iload_n 2, 1) := by decide +kernel
theorem dX0_becomeAtMost_4 : decode cX0_becomeAtMost 4 = .ok (.ineg, 1) := by decide +kernel
theorem dX0_becomeAtMost_5 : decode cX0_becomeAtMost 5 = .ok (.invokevirtual 29, 3) := by decide +kernel
theorem dX0_becomeAtMost_8 : decode cX0_becomeAtMost 8 = .ok (.return_, 1) := by decide +kernel
set_option maxRecDepth 20000 in
theorem ggX0_normalize_X0_size : GoodIn wsX0_normalize wsX0_size := goodIn_r _ [11, 1, 12, 13, 4, 14, 15, 16, 17] (by decide +kernel) (by decide +kernel)
set_option maxRecDepth 20000 in
theorem gX0_normalize_X0_size : GoodIn wsX0_normalize (wsV RX0 33 RX0 yX0_size wsX0_size) := goodIn_app (goodIn_of _ (by decide +kernel)) ggX0_normalize_X0_size
theorem dX0_normalize_0 : decode cX0_normalize 0 = .ok (.iload_n 3, 1) := by decide +kernel
theorem dX0_normalize_1 : decode cX0_normalize 1 = .ok (.istore 4, 2) := by decide +kernel
theorem dX0_normalize_3 : decode cX0_normalize 3 = .ok (.iconst 0, 1) := by decide +kernel
theorem dX0_normalize_4 : decode cX0_normalize 4 = .ok (.istore 5, 2) := by decide +kernel
theorem dX0_normalize_6 : decode cX0_normalize 6 = .ok (.iload 5, 2) := by decide +kernel
theorem dX0_normalize_8 : decode cX0_normalize 8 = .ok (.bipush 10, 2) := by decide +kernel
theorem dX0_normalize_10 : decode cX0_normalize 10 = .ok (.if_icmp .ge 43, 3) := by decide +kernel
theorem dX0_normalize_13 : decode cX0_normalize 13 = .ok (.aload_n 0, 1) := by decide +kernel
theorem dX0_normalize_14 : decode cX0_normalize 14 = .ok (.getfield 9, 3) := by decide +kernel
theorem dX0_normalize_17 : decode cX0_normalize 17 = .ok (.iload 5, 2) := by decide +kernel
theorem dX0_normalize_19 : decode cX0_normalize 19 = .ok (.iload_n 2, 1) := by decide +kernel
theorem dX0_normalize_20 : decode cX0_normalize 20 = .ok (.aload_n 1, 1) := by decide +kernel
theorem dX0_normalize_21 : decode cX0_normalize 21 = .ok (.iload 5, 2) := by decide +kernel
theorem dX0_normalize_23 : decode cX0_normalize 23 = .ok (.iaload, 1) := by decide +kernel
theorem dX0_normalize_24 : decode cX0_normalize 24 = .ok (.imul, 1) := by decide +kernel
theorem dX0_normalize_25 : decode cX0_normalize 25 = .ok (.iastore, 1) := by decide +kernel
theorem dX0_normalize_26 : decode cX0_normalize 26 = .ok (.aload_n 0, 1) := by decide +kernel
theorem dX0_normalize_27 : decode cX0_normalize 27 = .ok (.getfield 9, 3) := by decide +kernel
theorem dX0_normalize_30 : decode cX0_normalize 30 = .ok (.iload 5, 2) := by decide +kernel
theorem dX0_normalize_32 : decode cX0_normalize 32 = .ok (.iaload, 1) := by decide +kernel
theorem dX0_normalize_33 : decode cX0_normalize 33 = .ok (.ifCond .ge 14, 3) := by decide +kernel
theorem dX0_normalize_36 : decode cX0_normalize 36 = .ok (.iload 4, 2) := by decide +kernel
theorem dX0_normalize_38 : decode cX0_normalize 38 = .ok (.aload_n 0, 1) := by decide +kernel
theorem dX0_normalize_39 : decode cX0_normalize 39 = .ok (.iload 5, 2) := by decide +kernel
theorem dX0_normalize_41 : decode cX0_normalize 41 = .ok (.invokevirtual 33, 3) := by decide +kernel
theorem dX0_normalize_44 : decode cX0_normalize 44 = .ok (.iadd, 1) := by decide +kernel
theorem dX0_normalize_45 : decode cX0_normalize 45 = .ok (.istore 4, 2) := by decide +kernel
theorem dX0_normalize_47 : decode cX0_normalize 47 = .ok (.iinc 5 1, 3) := by decide +kernel
theorem dX0_normalize_50 : decode cX0_normalize 50 = .ok (.goto (-44), 3) := by decide +kernel
theorem dX0_normalize_53 : decode cX0_normalize 53 = .ok (.aload_n 0, 1) := by decide +kernel
theorem dX0_normalize_54 : decode cX0_normalize 54 = .ok (.iload 4, 2) := by decide +kernel
theorem dX0_normalize_56 : decode cX0_normalize 56 = .ok (.iconst 0, 1) := by decide +kernel
theorem dX0_normalize_57 : decode cX0_normalize 57 = .ok (.invokestatic 37, 3) := by decide +kernel
theorem dX0_normalize_60 : decode cX0_normalize 60 = .ok (.putfield 15, 3) := by decide +kernel
theorem dX0_normalize_63 : decode cX0_normalize 63 = .ok (.return_, 1) := by decide +kernel
set_option maxRecDepth 20000 in
theorem ggX0_becomeAxiom_J7_fill_53178 : GoodIn wsX0_becomeAxiom wsJ7_fill_53178 := goodIn_r _ [6] (by decide +kernel) (by decide +kernel)
set_option maxRecDepth 20000 in
theorem gX0_becomeAxiom_J7_fill_53178 : GoodIn wsX0_becomeAxiom (va_wsS RX0 43 yJ7_fill_53178 wsJ7_fill_53178) := goodIn_app (goodIn_of _ (by decide +kernel)) ggX0_becomeAxiom_J7_fill_53178
theorem dX0_becomeAxiom_0 : decode cX0_becomeAxiom 0 = .ok (.aload_n 0, 1) := by decide +kernel
theorem dX0_becomeAxiom_1 : decode cX0_becomeAxiom 1 = .ok (.getfield 9, 3) := by decide +kernel
theorem dX0_becomeAxiom_4 : decode cX0_becomeAxiom 4 = .ok (.iconst 0, 1) := by decide +kernel
theorem dX0_becomeAxiom_5 : decode cX0_becomeAxiom 5 = .ok (.invokestatic 43, 3) := by decide +kernel
theorem dX0_becomeAxiom_8 : decode cX0_becomeAxiom 8 = .ok (.aload_n 0, 1) := by decide +kernel
theorem dX0_becomeAxiom_9 : decode cX0_becomeAxiom 9 = .ok (.getfield 9, 3) := by decide +kernel
theorem dX0_becomeAxiom_12 : decode cX0_becomeAxiom 12 = .ok (.iload_n 1, 1) := by decide +kernel
theorem dX0_becomeAxiom_13 : decode cX0_becomeAxiom 13 = .ok (.iload_n 2, 1) := by decide +kernel
theorem dX0_becomeAxiom_14 : decode cX0_becomeAxiom 14 = .ok (.ifCond .eq 7, 3) := by decide +kernel
theorem dX0_becomeAxiom_17 : decode cX0_becomeAxiom 17 = .ok (.iconst 1, 1) := by decide +kernel
theorem dX0_becomeAxiom_18 : decode cX0_becomeAxiom 18 = .ok (.goto 4, 3) := by decide +kernel
theorem dX0_becomeAxiom_21 : decode cX0_becomeAxiom 21 = .ok (.iconst (-1), 1) := by decide +kernel
theorem dX0_becomeAxiom_22 : decode cX0_becomeAxiom 22 = .ok (.iastore, 1) := by decide +kernel
theorem dX0_becomeAxiom_23 : decode cX0_becomeAxiom 23 = .ok (.aload_n 0, 1) := by decide +kernel
theorem dX0_becomeAxiom_24 : decode cX0_becomeAxiom 24 = .ok (.iconst 0, 1) := by decide +kernel
theorem dX0_becomeAxiom_25 : decode cX0_becomeAxiom 25 = .ok (.putfield 15, 3) := by decide +kernel
theorem dX0_becomeAxiom_28 : decode cX0_becomeAxiom 28 = .ok (.return_, 1) := by decide +kernel
set_option maxRecDepth 20000 in
theorem ggX0_becomeSum_X0_isOpposed : GoodIn wsX0_becomeSum wsX0_isOpposed := goodIn_r _ [14, 2, 22, 23, 24] (by decide +kernel) (by decide +kernel)
set_option maxRecDepth 20000 in
theorem gX0_becomeSum_X0_isOpposed : GoodIn wsX0_becomeSum (wsV RX0 49 RX0 yX0_isOpposed wsX0_isOpposed) := goodIn_app (goodIn_of _ (by decide +kernel)) ggX0_becomeSum_X0_isOpposed
set_option maxRecDepth 20000 in
theorem ggX0_becomeSum_X0_size : GoodIn wsX0_becomeSum wsX0_size := goodIn_r _ [18, 2, 19, 20, 5, 21, 22, 23, 24] (by decide +kernel) (by decide +kernel)
set_option maxRecDepth 20000 in
theorem gX0_becomeSum_X0_size : GoodIn wsX0_becomeSum (wsV RX0 33 RX0 yX0_size wsX0_size) := goodIn_app (goodIn_of _ (by decide +kernel)) ggX0_becomeSum_X0_size
theorem dX0_becomeSum_0 : decode cX0_becomeSum 0 = .ok (.aload_n 1, 1) := by decide +kernel
theorem dX0_becomeSum_1 : decode cX0_becomeSum 1 = .ok (.getfield 15, 3) := by decide +kernel
theorem dX0_becomeSum_4 : decode cX0_becomeSum 4 = .ok (.aload_n 2, 1) := by decide +kernel
theorem dX0_becomeSum_5 : decode cX0_becomeSum 5 = .ok (.getfield 15, 3) := by decide +kernel
theorem dX0_becomeSum_8 : decode cX0_becomeSum 8 = .ok (.iadd, 1) := by decide +kernel
theorem dX0_becomeSum_9 : decode cX0_becomeSum 9 = .ok (.istore_n 3, 1) := by decide +kernel
theorem dX0_becomeSum_10 : decode cX0_becomeSum 10 = .ok (.iconst 0, 1) := by decide +kernel
theorem dX0_becomeSum_11 : decode cX0_becomeSum 11 = .ok (.istore 4, 2) := by decide +kernel
theorem dX0_becomeSum_13 : decode cX0_becomeSum 13 = .ok (.iload 4, 2) := by decide +kernel
theorem dX0_becomeSum_15 : decode cX0_becomeSum 15 = .ok (.bipush 10, 2) := by decide +kernel
theorem dX0_becomeSum_17 : decode cX0_becomeSum 17 = .ok (.if_icmp .ge 59, 3) := by decide +kernel
theorem dX0_becomeSum_20 : decode cX0_becomeSum 20 = .ok (.aload_n 0, 1) := by decide +kernel
theorem dX0_becomeSum_21 : decode cX0_becomeSum 21 = .ok (.getfield 9, 3) := by decide +kernel
theorem dX0_becomeSum_24 : decode cX0_becomeSum 24 = .ok (.iload 4, 2) := by decide +kernel
theorem dX0_becomeSum_26 : decode cX0_becomeSum 26 = .ok (.aload_n 1, 1) := by decide +kernel
theorem dX0_becomeSum_27 : decode cX0_becomeSum 27 = .ok (.getfield 9, 3) := by decide +kernel
theorem dX0_becomeSum_30 : decode cX0_becomeSum 30 = .ok (.iload 4, 2) := by decide +kernel
theorem dX0_becomeSum_32 : decode cX0_becomeSum 32 = .ok (.iaload, 1) := by decide +kernel
theorem dX0_becomeSum_33 : decode cX0_becomeSum 33 = .ok (.aload_n 2, 1) := by decide +kernel
theorem dX0_becomeSum_34 : decode cX0_becomeSum 34 = .ok (.getfield 9, 3) := by decide +kernel
theorem dX0_becomeSum_37 : decode cX0_becomeSum 37 = .ok (.iload 4, 2) := by decide +kernel
theorem dX0_becomeSum_39 : decode cX0_becomeSum 39 = .ok (.iaload, 1) := by decide +kernel
theorem dX0_becomeSum_40 : decode cX0_becomeSum 40 = .ok (.iadd, 1) := by decide +kernel
theorem dX0_becomeSum_41 : decode cX0_becomeSum 41 = .ok (.iastore, 1) := by decide +kernel
theorem dX0_becomeSum_42 : decode cX0_becomeSum 42 = .ok (.aload_n 1, 1) := by decide +kernel
theorem dX0_becomeSum_43 : decode cX0_becomeSum 43 = .ok (.aload_n 2, 1) := by decide +kernel
theorem dX0_becomeSum_44 : decode cX0_becomeSum 44 = .ok (.iload 4, 2) := by decide +kernel
theorem dX0_becomeSum_46 : decode cX0_becomeSum 46 = .ok (.invokevirtual 49, 3) := by decide +kernel
theorem dX0_becomeSum_49 : decode cX0_becomeSum 49 = .ok (.ifCond .eq 21, 3) := by decide +kernel
theorem dX0_becomeSum_52 : decode cX0_becomeSum 52 = .ok (.iload_n 3, 1) := by decide +kernel
theorem dX0_becomeSum_53 : decode cX0_becomeSum 53 = .ok (.aload_n 1, 1) := by decide +kernel
theorem dX0_becomeSum_54 : decode cX0_becomeSum 54 = .ok (.iload 4, 2) := by decide +kernel
theorem dX0_becomeSum_56 : decode cX0_becomeSum 56 = .ok (.invokevirtual 33, 3) := by decide +kernel
theorem dX0_becomeSum_59 : decode cX0_becomeSum 59 = .ok (.aload_n 2, 1) := by decide +kernel
theorem dX0_becomeSum_60 : decode cX0_becomeSum 60 = .ok (.iload 4, 2) := by decide +kernel
theorem dX0_becomeSum_62 : decode cX0_becomeSum 62 = .ok (.invokevirtual 33, 3) := by decide +kernel
theorem dX0_becomeSum_65 : decode cX0_becomeSum 65 = .ok (.invokestatic 53, 3) := by decide +kernel
theorem dX0_becomeSum_68 : decode cX0_becomeSum 68 = .ok (.isub, 1) := by decide +kernel
theorem dX0_becomeSum_69 : decode cX0_becomeSum 69 = .ok (.istore_n 3, 1) := by decide +kernel
theorem dX0_becomeSum_70 : decode cX0_becomeSum 70 = .ok (.iinc 4 1, 3) := by decide +kernel
theorem dX0_becomeSum_73 : decode cX0_becomeSum 73 = .ok (.goto (-60), 3) := by decide +kernel
theorem dX0_becomeSum_76 : decode cX0_becomeSum 76 = .ok (.aload_n 0, 1) := by decide +kernel
theorem dX0_becomeSum_77 : decode cX0_becomeSum 77 = .ok (.iload_n 3, 1) := by decide +kernel
theorem dX0_becomeSum_78 : decode cX0_becomeSum 78 = .ok (.iconst 0, 1) := by decide +kernel
theorem dX0_becomeSum_79 : decode cX0_becomeSum 79 = .ok (.invokestatic 37, 3) := by decide +kernel
theorem dX0_becomeSum_82 : decode cX0_becomeSum 82 = .ok (.putfield 15, 3) := by decide +kernel
theorem dX0_becomeSum_85 : decode cX0_becomeSum 85 = .ok (.return_, 1) := by decide +kernel
theorem dX0_isOpposed_0 : decode cX0_isOpposed 0 = .ok (.aload_n 0, 1) := by decide +kernel
theorem dX0_isOpposed_1 : decode cX0_isOpposed 1 = .ok (.getfield 9, 3) := by decide +kernel
theorem dX0_isOpposed_4 : decode cX0_isOpposed 4 = .ok (.iload_n 2, 1) := by decide +kernel
theorem dX0_isOpposed_5 : decode cX0_isOpposed 5 = .ok (.iaload, 1) := by decide +kernel
theorem dX0_isOpposed_6 : decode cX0_isOpposed 6 = .ok (.ifCond .le 12, 3) := by decide +kernel
theorem dX0_isOpposed_9 : decode cX0_isOpposed 9 = .ok (.aload_n 1, 1) := by decide +kernel
theorem dX0_isOpposed_10 : decode cX0_isOpposed 10 = .ok (.getfield 9, 3) := by decide +kernel
theorem dX0_isOpposed_13 : decode cX0_isOpposed 13 = .ok (.iload_n 2, 1) := by decide +kernel
theorem dX0_isOpposed_14 : decode cX0_isOpposed 14 = .ok (.iaload, 1) := by decide +kernel
theorem dX0_isOpposed_15 : decode cX0_isOpposed 15 = .ok (.ifCond .lt 21, 3) := by decide +kernel
theorem dX0_isOpposed_18 : decode cX0_isOpposed 18 = .ok (.aload_n 0, 1) := by decide +kernel
theorem dX0_isOpposed_19 : decode cX0_isOpposed 19 = .ok (.getfield 9, 3) := by decide +kernel
theorem dX0_isOpposed_22 : decode cX0_isOpposed 22 = .ok (.iload_n 2, 1) := by decide +kernel
theorem dX0_isOpposed_23 : decode cX0_isOpposed 23 = .ok (.iaload, 1) := by decide +kernel
theorem dX0_isOpposed_24 : decode cX0_isOpposed 24 = .ok (.ifCond .ge 16, 3) := by decide +kernel
theorem dX0_isOpposed_27 : decode cX0_isOpposed 27 = .ok (.aload_n 1, 1) := by decide +kernel
theorem dX0_isOpposed_28 : decode cX0_isOpposed 28 = .ok (.getfield 9, 3) := by decide +kernel
theorem dX0_isOpposed_31 : decode cX0_isOpposed 31 = .ok (.iload_n 2, 1) := by decide +kernel
theorem dX0_isOpposed_32 : decode cX0_isOpposed 32 = .ok (.iaload, 1) := by decide +kernel
theorem dX0_isOpposed_33 : decode cX0_isOpposed 33 = .ok (.ifCond .le 7, 3) := by decide +kernel
theorem dX0_isOpposed_36 : decode cX0_isOpposed 36 = .ok (.iconst 1, 1) := by decide +kernel
theorem dX0_isOpposed_37 : decode cX0_isOpposed 37 = .ok (.goto 4, 3) := by decide +kernel
theorem dX0_isOpposed_40 : decode cX0_isOpposed 40 = .ok (.iconst 0, 1) := by decide +kernel
theorem dX0_isOpposed_41 : decode cX0_isOpposed 41 = .ok (.ireturn, 1) := by decide +kernel
theorem dX0_becomeMultiple_0 : decode cX0_becomeMultiple 0 = .ok (.iconst 0, 1) := by decide +kernel
theorem dX0_becomeMultiple_1 : decode cX0_becomeMultiple 1 = .ok (.istore_n 3, 1) := by decide +kernel
theorem dX0_becomeMultiple_2 : decode cX0_becomeMultiple 2 = .ok (.iload_n 3, 1) := by decide +kernel
theorem dX0_becomeMultiple_3 : decode cX0_becomeMultiple 3 = .ok (.bipush 10, 2) := by decide +kernel
theorem dX0_becomeMultiple_5 : decode cX0_becomeMultiple 5 = .ok (.if_icmp .ge 23, 3) := by decide +kernel
theorem dX0_becomeMultiple_8 : decode cX0_becomeMultiple 8 = .ok (.aload_n 0, 1) := by decide +kernel
theorem dX0_becomeMultiple_9 : decode cX0_becomeMultiple 9 = .ok (.getfield 9, 3) := by decide +kernel
theorem dX0_becomeMultiple_12 : decode cX0_becomeMultiple 12 = .ok (.iload_n 3, 1) := by decide +kernel
theorem dX0_becomeMultiple_13 : decode cX0_becomeMultiple 13 = .ok (.iload_n 2, 1) := by decide +kernel
theorem dX0_becomeMultiple_14 : decode cX0_becomeMultiple 14 = .ok (.aload_n 1, 1) := by decide +kernel
theorem dX0_becomeMultiple_15 : decode cX0_becomeMultiple 15 = .ok (.getfield 9, 3) := by decide +kernel
theorem dX0_becomeMultiple_18 : decode cX0_becomeMultiple 18 = .ok (.iload_n 3, 1) := by decide +kernel
theorem dX0_becomeMultiple_19 : decode cX0_becomeMultiple 19 = .ok (.iaload, 1) := by decide +kernel
theorem dX0_becomeMultiple_20 : decode cX0_becomeMultiple 20 = .ok (.imul, 1) := by decide +kernel
theorem dX0_becomeMultiple_21 : decode cX0_becomeMultiple 21 = .ok (.iastore, 1) := by decide +kernel
theorem dX0_becomeMultiple_22 : decode cX0_becomeMultiple 22 = .ok (.iinc 3 1, 3) := by decide +kernel
theorem dX0_becomeMultiple_25 : decode cX0_becomeMultiple 25 = .ok (.goto (-23), 3) := by decide +kernel
theorem dX0_becomeMultiple_28 : decode cX0_becomeMultiple 28 = .ok (.aload_n 0, 1) := by decide +kernel
theorem dX0_becomeMultiple_29 : decode cX0_becomeMultiple 29 = .ok (.iload_n 2, 1) := by decide +kernel
theorem dX0_becomeMultiple_30 : decode cX0_becomeMultiple 30 = .ok (.aload_n 1, 1) := by decide +kernel
theorem dX0_becomeMultiple_31 : decode cX0_becomeMultiple 31 = .ok (.getfield 15, 3) := by decide +kernel
theorem dX0_becomeMultiple_34 : decode cX0_becomeMultiple 34 = .ok (.imul, 1) := by decide +kernel
theorem dX0_becomeMultiple_35 : decode cX0_becomeMultiple 35 = .ok (.putfield 15, 3) := by decide +kernel
theorem dX0_becomeMultiple_38 : decode cX0_becomeMultiple 38 = .ok (.return_, 1) := by decide +kernel
set_option maxRecDepth 20000 in
theorem ggX0_divideRoundingUp_X0_size : GoodIn wsX0_divideRoundingUp wsX0_size := goodIn_r _ [6, 7, 8, 9, 10, 11, 19, 20, 21] (by decide +kernel) (by decide +kernel)
set_option maxRecDepth 20000 in
theorem gX0_divideRoundingUp_X0_size : GoodIn wsX0_divideRoundingUp (wsV RX0 33 RX0 yX0_size wsX0_size) := goodIn_app (goodIn_of _ (by decide +kernel)) ggX0_divideRoundingUp_X0_size
set_option maxRecDepth 20000 in
theorem ggX0_divideRoundingUp_X0_quotientRoundedUp : GoodIn wsX0_divideRoundingUp wsX0_quotientRoundedUp := goodIn_r _ [14] (by decide +kernel) (by decide +kernel)
set_option maxRecDepth 20000 in
theorem gX0_divideRoundingUp_X0_quotientRoundedUp : GoodIn wsX0_divideRoundingUp (va_wsS RX0 56 yX0_quotientRoundedUp wsX0_quotientRoundedUp) := goodIn_app (goodIn_of _ (by decide +kernel)) ggX0_divideRoundingUp_X0_quotientRoundedUp
set_option maxRecDepth 20000 in
theorem ggX0_divideRoundingUp_X0_resize : GoodIn wsX0_divideRoundingUp wsX0_resize := goodIn_r _ [18, 7, 19, 20, 21] (by decide +kernel) (by decide +kernel)
set_option maxRecDepth 20000 in
theorem gX0_divideRoundingUp_X0_resize : GoodIn wsX0_divideRoundingUp (wsV RX0 59 RX0 yX0_resize wsX0_resize) := goodIn_app (goodIn_of _ (by decide +kernel)) ggX0_divideRoundingUp_X0_resize
theorem dX0_divideRoundingUp_0 : decode cX0_divideRoundingUp 0 = .ok (.iconst 0, 1) := by decide +kernel
theorem dX0_divideRoundingUp_1 : decode cX0_divideRoundingUp 1 = .ok (.istore_n 2, 1) := by decide +kernel
theorem dX0_divideRoundingUp_2 : decode cX0_divideRoundingUp 2 = .ok (.iload_n 2, 1) := by decide +kernel
theorem dX0_divideRoundingUp_3 : decode cX0_divideRoundingUp 3 = .ok (.bipush 10, 2) := by decide +kernel
theorem dX0_divideRoundingUp_5 : decode cX0_divideRoundingUp 5 = .ok (.if_icmp .ge 23, 3) := by decide +kernel
theorem dX0_divideRoundingUp_8 : decode cX0_divideRoundingUp 8 = .ok (.aload_n 0, 1) := by decide +kernel
theorem dX0_divideRoundingUp_9 : decode cX0_divideRoundingUp 9 = .ok (.iload_n 2, 1) := by decide +kernel
theorem dX0_divideRoundingUp_10 : decode cX0_divideRoundingUp 10 = .ok (.aload_n 0, 1) := by decide +kernel
theorem dX0_divideRoundingUp_11 : decode cX0_divideRoundingUp 11 = .ok (.iload_n 2, 1) := by decide +kernel
theorem dX0_divideRoundingUp_12 : decode cX0_divideRoundingUp 12 = .ok (.invokevirtual 33, 3) := by decide +kernel
theorem dX0_divideRoundingUp_15 : decode cX0_divideRoundingUp 15 = .ok (.iload_n 1, 1) := by decide +kernel
theorem dX0_divideRoundingUp_16 : decode cX0_divideRoundingUp 16 = .ok (.invokestatic 56, 3) := by decide +kernel
theorem dX0_divideRoundingUp_19 : decode cX0_divideRoundingUp 19 = .ok (.invokevirtual 59, 3) := by decide +kernel
theorem dX0_divideRoundingUp_22 : decode cX0_divideRoundingUp 22 = .ok (.iinc 2 1, 3) := by decide +kernel
theorem dX0_divideRoundingUp_25 : decode cX0_divideRoundingUp 25 = .ok (.goto (-23), 3) := by decide +kernel
theorem dX0_divideRoundingUp_28 : decode cX0_divideRoundingUp 28 = .ok (.aload_n 0, 1) := by decide +kernel
theorem dX0_divideRoundingUp_29 : decode cX0_divideRoundingUp 29 = .ok (.aload_n 0, 1) := by decide +kernel
theorem dX0_divideRoundingUp_30 : decode cX0_divideRoundingUp 30 = .ok (.getfield 15, 3) := by decide +kernel
theorem dX0_divideRoundingUp_33 : decode cX0_divideRoundingUp 33 = .ok (.iload_n 1, 1) := by decide +kernel
theorem dX0_divideRoundingUp_34 : decode cX0_divideRoundingUp 34 = .ok (.invokestatic 56, 3) := by decide +kernel
theorem dX0_divideRoundingUp_37 : decode cX0_divideRoundingUp 37 = .ok (.putfield 15, 3) := by decide +kernel
theorem dX0_divideRoundingUp_40 : decode cX0_divideRoundingUp 40 = .ok (.return_, 1) := by decide +kernel
theorem dX0_quotientRoundedUp_0 : decode cX0_quotientRoundedUp 0 = .ok (.iload_n 0, 1) := by decide +kernel
theorem dX0_quotientRoundedUp_1 : decode cX0_quotientRoundedUp 1 = .ok (.iload_n 1, 1) := by decide +kernel
theorem dX0_quotientRoundedUp_2 : decode cX0_quotientRoundedUp 2 = .ok (.iadd, 1) := by decide +kernel
theorem dX0_quotientRoundedUp_3 : decode cX0_quotientRoundedUp 3 = .ok (.iconst 1, 1) := by decide +kernel
theorem dX0_quotientRoundedUp_4 : decode cX0_quotientRoundedUp 4 = .ok (.isub, 1) := by decide +kernel
theorem dX0_quotientRoundedUp_5 : decode cX0_quotientRoundedUp 5 = .ok (.iload_n 1, 1) := by decide +kernel
theorem dX0_quotientRoundedUp_6 : decode cX0_quotientRoundedUp 6 = .ok (.idiv, 1) := by decide +kernel
theorem dX0_quotientRoundedUp_7 : decode cX0_quotientRoundedUp 7 = .ok (.ireturn, 1) := by decide +kernel
set_option maxRecDepth 20000 in
theorem ggX0_limitSizesToDegree_X0_size : GoodIn wsX0_limitSizesToDegree wsX0_size := goodIn_r _ [10, 11, 12, 13, 4, 14, 19, 20, 21] (by decide +kernel) (by decide +kernel)
set_option maxRecDepth 20000 in
theorem gX0_limitSizesToDegree_X0_size : GoodIn wsX0_limitSizesToDegree (wsV RX0 33 RX0 yX0_size wsX0_size) := goodIn_app (goodIn_of _ (by decide +kernel)) ggX0_limitSizesToDegree_X0_size
set_option maxRecDepth 20000 in
theorem ggX0_limitSizesToDegree_X0_resize : GoodIn wsX0_limitSizesToDegree wsX0_resize := goodIn_r _ [18, 11, 19, 20, 21] (by decide +kernel) (by decide +kernel)
set_option maxRecDepth 20000 in
theorem gX0_limitSizesToDegree_X0_resize : GoodIn wsX0_limitSizesToDegree (wsV RX0 59 RX0 yX0_resize wsX0_resize) := goodIn_app (goodIn_of _ (by decide +kernel)) ggX0_limitSizesToDegree_X0_resize
theorem dX0_limitSizesToDegree_0 : decode cX0_limitSizesToDegree 0 = .ok (.iconst 0, 1) := by decide +kernel
theorem dX0_limitSizesToDegree_1 : decode cX0_limitSizesToDegree 1 = .ok (.istore_n 1, 1) := by decide +kernel
theorem dX0_limitSizesToDegree_2 : decode cX0_limitSizesToDegree 2 = .ok (.iload_n 1, 1) := by decide +kernel
theorem dX0_limitSizesToDegree_3 : decode cX0_limitSizesToDegree 3 = .ok (.bipush 10, 2) := by decide +kernel
theorem dX0_limitSizesToDegree_5 : decode cX0_limitSizesToDegree 5 = .ok (.if_icmp .ge 26, 3) := by decide +kernel
theorem dX0_limitSizesToDegree_8 : decode cX0_limitSizesToDegree 8 = .ok (.aload_n 0, 1) := by decide +kernel
theorem dX0_limitSizesToDegree_9 : decode cX0_limitSizesToDegree 9 = .ok (.iload_n 1, 1) := by decide +kernel
theorem dX0_limitSizesToDegree_10 : decode cX0_limitSizesToDegree 10 = .ok (.aload_n 0, 1) := by decide +kernel
theorem dX0_limitSizesToDegree_11 : decode cX0_limitSizesToDegree 11 = .ok (.iload_n 1, 1) := by decide +kernel
theorem dX0_limitSizesToDegree_12 : decode cX0_limitSizesToDegree 12 = .ok (.invokevirtual 33, 3) := by decide +kernel
theorem dX0_limitSizesToDegree_15 : decode cX0_limitSizesToDegree 15 = .ok (.aload_n 0, 1) := by decide +kernel
theorem dX0_limitSizesToDegree_16 : decode cX0_limitSizesToDegree 16 = .ok (.getfield 15, 3) := by decide +kernel
theorem dX0_limitSizesToDegree_19 : decode cX0_limitSizesToDegree 19 = .ok (.invokestatic 53, 3) := by decide +kernel
theorem dX0_limitSizesToDegree_22 : decode cX0_limitSizesToDegree 22 = .ok (.invokevirtual 59, 3) := by decide +kernel
theorem dX0_limitSizesToDegree_25 : decode cX0_limitSizesToDegree 25 = .ok (.iinc 1 1, 3) := by decide +kernel
theorem dX0_limitSizesToDegree_28 : decode cX0_limitSizesToDegree 28 = .ok (.goto (-26), 3) := by decide +kernel
theorem dX0_limitSizesToDegree_31 : decode cX0_limitSizesToDegree 31 = .ok (.return_, 1) := by decide +kernel
set_option maxRecDepth 20000 in
theorem ggX0_giveUp_X0_size : GoodIn wsX0_giveUp wsX0_size := goodIn_r _ [11, 6, 12, 13, 4, 14, 15, 16, 17] (by decide +kernel) (by decide +kernel)
set_option maxRecDepth 20000 in
theorem gX0_giveUp_X0_size : GoodIn wsX0_giveUp (wsV RX0 33 RX0 yX0_size wsX0_size) := goodIn_app (goodIn_of _ (by decide +kernel)) ggX0_giveUp_X0_size
theorem dX0_giveUp_0 : decode cX0_giveUp 0 = .ok (.aload_n 0, 1) := by decide +kernel
theorem dX0_giveUp_1 : decode cX0_giveUp 1 = .ok (.aload_n 0, 1) := by decide +kernel
theorem dX0_giveUp_2 : decode cX0_giveUp 2 = .ok (.getfield 15, 3) := by decide +kernel
theorem dX0_giveUp_5 : decode cX0_giveUp 5 = .ok (.aload_n 0, 1) := by decide +kernel
theorem dX0_giveUp_6 : decode cX0_giveUp 6 = .ok (.iload_n 1, 1) := by decide +kernel
theorem dX0_giveUp_7 : decode cX0_giveUp 7 = .ok (.invokevirtual 33, 3) := by decide +kernel
theorem dX0_giveUp_10 : decode cX0_giveUp 10 = .ok (.isub, 1) := by decide +kernel
theorem dX0_giveUp_11 : decode cX0_giveUp 11 = .ok (.iconst 0, 1) := by decide +kernel
theorem dX0_giveUp_12 : decode cX0_giveUp 12 = .ok (.invokestatic 37, 3) := by decide +kernel
theorem dX0_giveUp_15 : decode cX0_giveUp 15 = .ok (.putfield 15, 3) := by decide +kernel
theorem dX0_giveUp_18 : decode cX0_giveUp 18 = .ok (.aload_n 0, 1) := by decide +kernel
theorem dX0_giveUp_19 : decode cX0_giveUp 19 = .ok (.getfield 9, 3) := by decide +kernel
theorem dX0_giveUp_22 : decode cX0_giveUp 22 = .ok (.iload_n 1, 1) := by decide +kernel
theorem dX0_giveUp_23 : decode cX0_giveUp 23 = .ok (.iconst 0, 1) := by decide +kernel
theorem dX0_giveUp_24 : decode cX0_giveUp 24 = .ok (.iastore, 1) := by decide +kernel
theorem dX0_giveUp_25 : decode cX0_giveUp 25 = .ok (.return_, 1) := by decide +kernel
set_option maxRecDepth 20000 in
theorem ggX0_turnToContrary_X0_sizeOfAll : GoodIn wsX0_turnToContrary wsX0_sizeOfAll := goodIn_r _ [11, 12, 13, 14, 10, 15, 6, 16, 17, 4, 18, 19, 20, 21] (by decide +kernel) (by decide +kernel)
set_option maxRecDepth 20000 in
theorem gX0_turnToContrary_X0_sizeOfAll : GoodIn wsX0_turnToContrary (wsV RX0 63 RX0 yX0_sizeOfAll wsX0_sizeOfAll) := goodIn_app (goodIn_of _ (by decide +kernel)) ggX0_turnToContrary_X0_sizeOfAll
theorem dX0_turnToContrary_0 : decode cX0_turnToContrary 0 = .ok (.aload_n 0, 1) := by decide +kernel
theorem dX0_turnToContrary_1 : decode cX0_turnToContrary 1 = .ok (.aload_n 0, 1) := by decide +kernel
theorem dX0_turnToContrary_2 : decode cX0_turnToContrary 2 = .ok (.invokevirtual 63, 3) := by decide +kernel
theorem dX0_turnToContrary_5 : decode cX0_turnToContrary 5 = .ok (.iconst 1, 1) := by decide +kernel
theorem dX0_turnToContrary_6 : decode cX0_turnToContrary 6 = .ok (.iadd, 1) := by decide +kernel
theorem dX0_turnToContrary_7 : decode cX0_turnToContrary 7 = .ok (.aload_n 0, 1) := by decide +kernel
theorem dX0_turnToContrary_8 : decode cX0_turnToContrary 8 = .ok (.getfield 15, 3) := by decide +kernel
theorem dX0_turnToContrary_11 : decode cX0_turnToContrary 11 = .ok (.isub, 1) := by decide +kernel
theorem dX0_turnToContrary_12 : decode cX0_turnToContrary 12 = .ok (.iconst 0, 1) := by decide +kernel
theorem dX0_turnToContrary_13 : decode cX0_turnToContrary 13 = .ok (.invokestatic 37, 3) := by decide +kernel
theorem dX0_turnToContrary_16 : decode cX0_turnToContrary 16 = .ok (.putfield 15, 3) := by decide +kernel
theorem dX0_turnToContrary_19 : decode cX0_turnToContrary 19 = .ok (.iconst 0, 1) := by decide +kernel
theorem dX0_turnToContrary_20 : decode cX0_turnToContrary 20 = .ok (.istore_n 1, 1) := by decide +kernel
theorem dX0_turnToContrary_21 : decode cX0_turnToContrary 21 = .ok (.iload_n 1, 1) := by decide +kernel
theorem dX0_turnToContrary_22 : decode cX0_turnToContrary 22 = .ok (.bipush 10, 2) := by decide +kernel
theorem dX0_turnToContrary_24 : decode cX0_turnToContrary 24 = .ok (.if_icmp .ge 22, 3) := by decide +kernel
theorem dX0_turnToContrary_27 : decode cX0_turnToContrary 27 = .ok (.aload_n 0, 1) := by decide +kernel
theorem dX0_turnToContrary_28 : decode cX0_turnToContrary 28 = .ok (.getfield 9, 3) := by decide +kernel
theorem dX0_turnToContrary_31 : decode cX0_turnToContrary 31 = .ok (.iload_n 1, 1) := by decide +kernel
theorem dX0_turnToContrary_32 : decode cX0_turnToContrary 32 = .ok (.aload_n 0, 1) := by decide +kernel
theorem dX0_turnToContrary_33 : decode cX0_turnToContrary 33 = .ok (.getfield 9, 3) := by decide +kernel
theorem dX0_turnToContrary_36 : decode cX0_turnToContrary 36 = .ok (.iload_n 1, 1) := by decide +kernel
theorem dX0_turnToContrary_37 : decode cX0_turnToContrary 37 = .ok (.iaload, 1) := by decide +kernel
theorem dX0_turnToContrary_38 : decode cX0_turnToContrary 38 = .ok (.ineg, 1) := by decide +kernel
theorem dX0_turnToContrary_39 : decode cX0_turnToContrary 39 = .ok (.iastore, 1) := by decide +kernel
theorem dX0_turnToContrary_40 : decode cX0_turnToContrary 40 = .ok (.iinc 1 1, 3) := by decide +kernel
theorem dX0_turnToContrary_43 : decode cX0_turnToContrary 43 = .ok (.goto (-22), 3) := by decide +kernel
theorem dX0_turnToContrary_46 : decode cX0_turnToContrary 46 = .ok (.return_, 1) := by decide +kernel
theorem dX0_size_0 : decode cX0_size 0 = .ok (.aload_n 0, 1) := by decide +kernel
theorem dX0_size_1 : decode cX0_size 1 = .ok (.getfield 9, 3) := by decide +kernel
theorem dX0_size_4 : decode cX0_size 4 = .ok (.iload_n 1, 1) := by decide +kernel
theorem dX0_size_5 : decode cX0_size 5 = .ok (.iaload, 1) := by decide +kernel
theorem dX0_size_6 : decode cX0_size 6 = .ok (.invokestatic 67, 3) := by decide +kernel
theorem dX0_size_9 : decode cX0_size 9 = .ok (.ireturn, 1) := by decide +kernel
theorem dX0_resize_0 : decode cX0_resize 0 = .ok (.aload_n 0, 1) := by decide +kernel
theorem dX0_resize_1 : decode cX0_resize 1 = .ok (.getfield 9, 3) := by decide +kernel
theorem dX0_resize_4 : decode cX0_resize 4 = .ok (.iload_n 1, 1) := by decide +kernel
theorem dX0_resize_5 : decode cX0_resize 5 = .ok (.aload_n 0, 1) := by decide +kernel
theorem dX0_resize_6 : decode cX0_resize 6 = .ok (.getfield 9, 3) := by decide +kernel
theorem dX0_resize_9 : decode cX0_resize 9 = .ok (.iload_n 1, 1) := by decide +kernel
theorem dX0_resize_10 : decode cX0_resize 10 = .ok (.iaload, 1) := by decide +kernel
theorem dX0_resize_11 : decode cX0_resize 11 = .ok (.ifCond .ge 8, 3) := by decide +kernel
theorem dX0_resize_14 : decode cX0_resize 14 = .ok (.iload_n 2, 1) := by decide +kernel
theorem dX0_resize_15 : decode cX0_resize 15 = .ok (.ineg, 1) := by decide +kernel
theorem dX0_resize_16 : decode cX0_resize 16 = .ok (.goto 4, 3) := by decide +kernel
theorem dX0_resize_19 : decode cX0_resize 19 = .ok (.iload_n 2, 1) := by decide +kernel
theorem dX0_resize_20 : decode cX0_resize 20 = .ok (.iastore, 1) := by decide +kernel
theorem dX0_resize_21 : decode cX0_resize 21 = .ok (.return_, 1) := by decide +kernel
set_option maxRecDepth 20000 in
theorem ggX0_sizeOfAll_X0_size : GoodIn wsX0_sizeOfAll wsX0_size := goodIn_r _ [5, 6, 7, 8, 9, 10, 11, 12, 13] (by decide +kernel) (by decide +kernel)
set_option maxRecDepth 20000 in
theorem gX0_sizeOfAll_X0_size : GoodIn wsX0_sizeOfAll (wsV RX0 33 RX0 yX0_size wsX0_size) := goodIn_app (goodIn_of _ (by decide +kernel)) ggX0_sizeOfAll_X0_size
theorem dX0_sizeOfAll_0 : decode cX0_sizeOfAll 0 = .ok (.iconst 0, 1) := by decide +kernel
theorem dX0_sizeOfAll_1 : decode cX0_sizeOfAll 1 = .ok (.istore_n 1, 1) := by decide +kernel
theorem dX0_sizeOfAll_2 : decode cX0_sizeOfAll 2 = .ok (.iconst 0, 1) := by decide +kernel
theorem dX0_sizeOfAll_3 : decode cX0_sizeOfAll 3 = .ok (.istore_n 2, 1) := by decide +kernel
theorem dX0_sizeOfAll_4 : decode cX0_sizeOfAll 4 = .ok (.iload_n 2, 1) := by decide +kernel
theorem dX0_sizeOfAll_5 : decode cX0_sizeOfAll 5 = .ok (.bipush 10, 2) := by decide +kernel
theorem dX0_sizeOfAll_7 : decode cX0_sizeOfAll 7 = .ok (.if_icmp .ge 17, 3) := by decide +kernel
theorem dX0_sizeOfAll_10 : decode cX0_sizeOfAll 10 = .ok (.iload_n 1, 1) := by decide +kernel
theorem dX0_sizeOfAll_11 : decode cX0_sizeOfAll 11 = .ok (.aload_n 0, 1) := by decide +kernel
theorem dX0_sizeOfAll_12 : decode cX0_sizeOfAll 12 = .ok (.iload_n 2, 1) := by decide +kernel
theorem dX0_sizeOfAll_13 : decode cX0_sizeOfAll 13 = .ok (.invokevirtual 33, 3) := by decide +kernel
theorem dX0_sizeOfAll_16 : decode cX0_sizeOfAll 16 = .ok (.iadd, 1) := by decide +kernel
theorem dX0_sizeOfAll_17 : decode cX0_sizeOfAll 17 = .ok (.istore_n 1, 1) := by decide +kernel
theorem dX0_sizeOfAll_18 : decode cX0_sizeOfAll 18 = .ok (.iinc 2 1, 3) := by decide +kernel
theorem dX0_sizeOfAll_21 : decode cX0_sizeOfAll 21 = .ok (.goto (-17), 3) := by decide +kernel
theorem dX0_sizeOfAll_24 : decode cX0_sizeOfAll 24 = .ok (.iload_n 1, 1) := by decide +kernel
theorem dX0_sizeOfAll_25 : decode cX0_sizeOfAll 25 = .ok (.ireturn, 1) := by decide +kernel
theorem dX0_weightOrDegree_0 : decode cX0_weightOrDegree 0 = .ok (.iload_n 1, 1) := by decide +kernel
theorem dX0_weightOrDegree_1 : decode cX0_weightOrDegree 1 = .ok (.iconst (-1), 1) := by decide +kernel
theorem dX0_weightOrDegree_2 : decode cX0_weightOrDegree 2 = .ok (.if_icmp .ne 10, 3) := by decide +kernel
theorem dX0_weightOrDegree_5 : decode cX0_weightOrDegree 5 = .ok (.aload_n 0, 1) := by decide +kernel
theorem dX0_weightOrDegree_6 : decode cX0_weightOrDegree 6 = .ok (.getfield 15, 3) := by decide +kernel
theorem dX0_weightOrDegree_9 : decode cX0_weightOrDegree 9 = .ok (.goto 9, 3) := by decide +kernel
theorem dX0_weightOrDegree_12 : decode cX0_weightOrDegree 12 = .ok (.aload_n 0, 1) := by decide +kernel
theorem dX0_weightOrDegree_13 : decode cX0_weightOrDegree 13 = .ok (.getfield 9, 3) := by decide +kernel
theorem dX0_weightOrDegree_16 : decode cX0_weightOrDegree 16 = .ok (.iload_n 1, 1) := by decide +kernel
theorem dX0_weightOrDegree_17 : decode cX0_weightOrDegree 17 = .ok (.iaload, 1) := by decide +kernel
theorem dX0_weightOrDegree_18 : decode cX0_weightOrDegree 18 = .ok (.ireturn, 1) := by decide +kernel
set_option maxRecDepth 20000 in
theorem ggX0_isTooLarge_X0_size : GoodIn wsX0_isTooLarge wsX0_size := goodIn_r _ [7, 8, 9, 10, 11, 12, 13, 14, 15] (by decide +kernel) (by decide +kernel)
set_option maxRecDepth 20000 in
theorem gX0_isTooLarge_X0_size : GoodIn wsX0_isTooLarge (wsV RX0 33 RX0 yX0_size wsX0_size) := goodIn_app (goodIn_of _ (by decide +kernel)) ggX0_isTooLarge_X0_size
theorem dX0_isTooLarge_0 : decode cX0_isTooLarge 0 = .ok (.iconst 0, 1) := by decide +kernel
theorem dX0_isTooLarge_1 : decode cX0_isTooLarge 1 = .ok (.istore_n 1, 1) := by decide +kernel
theorem dX0_isTooLarge_2 : decode cX0_isTooLarge 2 = .ok (.iload_n 1, 1) := by decide +kernel
theorem dX0_isTooLarge_3 : decode cX0_isTooLarge 3 = .ok (.bipush 10, 2) := by decide +kernel
theorem dX0_isTooLarge_5 : decode cX0_isTooLarge 5 = .ok (.if_icmp .ge 21, 3) := by decide +kernel
theorem dX0_isTooLarge_8 : decode cX0_isTooLarge 8 = .ok (.aload_n 0, 1) := by decide +kernel
theorem dX0_isTooLarge_9 : decode cX0_isTooLarge 9 = .ok (.iload_n 1, 1) := by decide +kernel
theorem dX0_isTooLarge_10 : decode cX0_isTooLarge 10 = .ok (.invokevirtual 33, 3) := by decide +kernel
theorem dX0_isTooLarge_13 : decode cX0_isTooLarge 13 = .ok (.ldc 70, 2) := by decide +kernel
theorem dX0_isTooLarge_15 : decode cX0_isTooLarge 15 = .ok (.if_icmp .le 5, 3) := by decide +kernel
theorem dX0_isTooLarge_18 : decode cX0_isTooLarge 18 = .ok (.iconst 1, 1) := by decide +kernel
theorem dX0_isTooLarge_19 : decode cX0_isTooLarge 19 = .ok (.ireturn, 1) := by decide +kernel
theorem dX0_isTooLarge_20 : decode cX0_isTooLarge 20 = .ok (.iinc 1 1, 3) := by decide +kernel
theorem dX0_isTooLarge_23 : decode cX0_isTooLarge 23 = .ok (.goto (-21), 3) := by decide +kernel
theorem dX0_isTooLarge_26 : decode cX0_isTooLarge 26 = .ok (.aload_n 0, 1) := by decide +kernel
theorem dX0_isTooLarge_27 : decode cX0_isTooLarge 27 = .ok (.getfield 15, 3) := by decide +kernel
theorem dX0_isTooLarge_30 : decode cX0_isTooLarge 30 = .ok (.ldc 70, 2) := by decide +kernel
theorem dX0_isTooLarge_32 : decode cX0_isTooLarge 32 = .ok (.if_icmp .le 7, 3) := by decide +kernel
theorem dX0_isTooLarge_35 : decode cX0_isTooLarge 35 = .ok (.iconst 1, 1) := by decide +kernel
theorem dX0_isTooLarge_36 : decode cX0_isTooLarge 36 = .ok (.goto 4, 3) := by decide +kernel
theorem dX0_isTooLarge_39 : decode cX0_isTooLarge 39 = .ok (.iconst 0, 1) := by decide +kernel
theorem dX0_isTooLarge_40 : decode cX0_isTooLarge 40 = .ok (.ireturn, 1) := by decide +kernel
set_option maxRecDepth 20000 in
theorem ggX0_isVoid_X0_sizeOfAll : GoodIn wsX0_isVoid wsX0_sizeOfAll := goodIn_r _ [6, 7, 8, 9, 5, 10, 11, 12, 13, 14, 15, 16, 17, 18] (by decide +kernel) (by decide +kernel)
set_option maxRecDepth 20000 in
theorem gX0_isVoid_X0_sizeOfAll : GoodIn wsX0_isVoid (wsV RX0 63 RX0 yX0_sizeOfAll wsX0_sizeOfAll) := goodIn_app (goodIn_of _ (by decide +kernel)) ggX0_isVoid_X0_sizeOfAll
theorem dX0_isVoid_0 : decode cX0_isVoid 0 = .ok (.aload_n 0, 1) := by decide +kernel
theorem dX0_isVoid_1 : decode cX0_isVoid 1 = .ok (.invokevirtual 63, 3) := by decide +kernel
theorem dX0_isVoid_4 : decode cX0_isVoid 4 = .ok (.aload_n 0, 1) := by decide +kernel
theorem dX0_isVoid_5 : decode cX0_isVoid 5 = .ok (.getfield 15, 3) := by decide +kernel
theorem dX0_isVoid_8 : decode cX0_isVoid 8 = .ok (.if_icmp .ge 7, 3) := by decide +kernel
theorem dX0_isVoid_11 : decode cX0_isVoid 11 = .ok (.iconst 1, 1) := by decide +kernel
theorem dX0_isVoid_12 : decode cX0_isVoid 12 = .ok (.goto 4, 3) := by decide +kernel
theorem dX0_isVoid_15 : decode cX0_isVoid 15 = .ok (.iconst 0, 1) := by decide +kernel
theorem dX0_isVoid_16 : decode cX0_isVoid 16 = .ok (.ireturn, 1) := by decide +kernel
set_option maxRecDepth 20000 in
theorem ggX0_isMetBy_X0_slack : GoodIn wsX0_isMetBy wsX0_slack := goodIn_r _ [5, 6, 7, 8, 9, 10, 11, 12, 4, 13, 14, 15, 16, 17, 18, 19, 20, 21, 22, 23, 24, 25] (by decide +kernel) (by decide +kernel)
set_option maxRecDepth 20000 in
theorem gX0_isMetBy_X0_slack : GoodIn wsX0_isMetBy (wsV RX0 71 RX0 yX0_slack wsX0_slack) := goodIn_app (goodIn_of _ (by decide +kernel)) ggX0_isMetBy_X0_slack
theorem dX0_isMetBy_0 : decode cX0_isMetBy 0 = .ok (.aload_n 0, 1) := by decide +kernel
theorem dX0_isMetBy_1 : decode cX0_isMetBy 1 = .ok (.sipush 1023, 3) := by decide +kernel
theorem dX0_isMetBy_4 : decode cX0_isMetBy 4 = .ok (.iload_n 1, 1) := by decide +kernel
theorem dX0_isMetBy_5 : decode cX0_isMetBy 5 = .ok (.invokevirtual 71, 3) := by decide +kernel
theorem dX0_isMetBy_8 : decode cX0_isMetBy 8 = .ok (.ifCond .lt 7, 3) := by decide +kernel
theorem dX0_isMetBy_11 : decode cX0_isMetBy 11 = .ok (.iconst 1, 1) := by decide +kernel
theorem dX0_isMetBy_12 : decode cX0_isMetBy 12 = .ok (.goto 4, 3) := by decide +kernel
theorem dX0_isMetBy_15 : decode cX0_isMetBy 15 = .ok (.iconst 0, 1) := by decide +kernel
theorem dX0_isMetBy_16 : decode cX0_isMetBy 16 = .ok (.ireturn, 1) := by decide +kernel
set_option maxRecDepth 20000 in
theorem ggX0_slack_X1_bit : GoodIn wsX0_slack wsX1_bit := goodIn_r _ [4] (by decide +kernel) (by decide +kernel)
set_option maxRecDepth 20000 in
theorem gX0_slack_X1_bit_n74 : GoodIn wsX0_slack (wsX1_bit) := ggX0_slack_X1_bit
set_option maxRecDepth 20000 in
theorem ggX0_slack_X0_countedTruth : GoodIn wsX0_slack wsX0_countedTruth := goodIn_r _ [9, 10, 19, 20, 21] (by decide +kernel) (by decide +kernel)
set_option maxRecDepth 20000 in
theorem gX0_slack_X0_countedTruth : GoodIn wsX0_slack (wsV RX0 77 RX0 yX0_countedTruth wsX0_countedTruth) := goodIn_app (goodIn_of _ (by decide +kernel)) ggX0_slack_X0_countedTruth
set_option maxRecDepth 20000 in
theorem ggX0_slack_X0_size : GoodIn wsX0_slack wsX0_size := goodIn_r _ [14, 10, 15, 16, 17, 18, 19, 20, 21] (by decide +kernel) (by decide +kernel)
set_option maxRecDepth 20000 in
theorem gX0_slack_X0_size : GoodIn wsX0_slack (wsV RX0 33 RX0 yX0_size wsX0_size) := goodIn_app (goodIn_of _ (by decide +kernel)) ggX0_slack_X0_size
theorem dX0_slack_0 : decode cX0_slack 0 = .ok (.aload_n 0, 1) := by decide +kernel
theorem dX0_slack_1 : decode cX0_slack 1 = .ok (.getfield 15, 3) := by decide +kernel
theorem dX0_slack_4 : decode cX0_slack 4 = .ok (.ineg, 1) := by decide +kernel
theorem dX0_slack_5 : decode cX0_slack 5 = .ok (.istore_n 3, 1) := by decide +kernel
theorem dX0_slack_6 : decode cX0_slack 6 = .ok (.iconst 0, 1) := by decide +kernel
theorem dX0_slack_7 : decode cX0_slack 7 = .ok (.istore 4, 2) := by decide +kernel
theorem dX0_slack_9 : decode cX0_slack 9 = .ok (.iload 4, 2) := by decide +kernel
theorem dX0_slack_11 : decode cX0_slack 11 = .ok (.bipush 10, 2) := by decide +kernel
theorem dX0_slack_13 : decode cX0_slack 13 = .ok (.if_icmp .ge 42, 3) := by decide +kernel
theorem dX0_slack_16 : decode cX0_slack 16 = .ok (.iload_n 1, 1) := by decide +kernel
theorem dX0_slack_17 : decode cX0_slack 17 = .ok (.iload 4, 2) := by decide +kernel
theorem dX0_slack_19 : decode cX0_slack 19 = .ok (.invokestatic 74, 3) := by decide +kernel
theorem dX0_slack_22 : decode cX0_slack 22 = .ok (.ifCond .eq 18, 3) := by decide +kernel
theorem dX0_slack_25 : decode cX0_slack 25 = .ok (.iload_n 2, 1) := by decide +kernel
theorem dX0_slack_26 : decode cX0_slack 26 = .ok (.iload 4, 2) := by decide +kernel
theorem dX0_slack_28 : decode cX0_slack 28 = .ok (.invokestatic 74, 3) := by decide +kernel
theorem dX0_slack_31 : decode cX0_slack 31 = .ok (.aload_n 0, 1) := by decide +kernel
theorem dX0_slack_32 : decode cX0_slack 32 = .ok (.iload 4, 2) := by decide +kernel
theorem dX0_slack_34 : decode cX0_slack 34 = .ok (.invokevirtual 77, 3) := by decide +kernel
theorem dX0_slack_37 : decode cX0_slack 37 = .ok (.if_icmp .ne 12, 3) := by decide +kernel
theorem dX0_slack_40 : decode cX0_slack 40 = .ok (.iload_n 3, 1) := by decide +kernel
theorem dX0_slack_41 : decode cX0_slack 41 = .ok (.aload_n 0, 1) := by decide +kernel
theorem dX0_slack_42 : decode cX0_slack 42 = .ok (.iload 4, 2) := by decide +kernel
theorem dX0_slack_44 : decode cX0_slack 44 = .ok (.invokevirtual 33, 3) := by decide +kernel
theorem dX0_slack_47 : decode cX0_slack 47 = .ok (.iadd, 1) := by decide +kernel
theorem dX0_slack_48 : decode cX0_slack 48 = .ok (.istore_n 3, 1) := by decide +kernel
theorem dX0_slack_49 : decode cX0_slack 49 = .ok (.iinc 4 1, 3) := by decide +kernel
theorem dX0_slack_52 : decode cX0_slack 52 = .ok (.goto (-43), 3) := by decide +kernel
theorem dX0_slack_55 : decode cX0_slack 55 = .ok (.iload_n 3, 1) := by decide +kernel
theorem dX0_slack_56 : decode cX0_slack 56 = .ok (.ireturn, 1) := by decide +kernel
theorem dX0_countedTruth_0 : decode cX0_countedTruth 0 = .ok (.aload_n 0, 1) := by decide +kernel
theorem dX0_countedTruth_1 : decode cX0_countedTruth 1 = .ok (.getfield 9, 3) := by decide +kernel
theorem dX0_countedTruth_4 : decode cX0_countedTruth 4 = .ok (.iload_n 1, 1) := by decide +kernel
theorem dX0_countedTruth_5 : decode cX0_countedTruth 5 = .ok (.iaload, 1) := by decide +kernel
theorem dX0_countedTruth_6 : decode cX0_countedTruth 6 = .ok (.ifCond .le 7, 3) := by decide +kernel
theorem dX0_countedTruth_9 : decode cX0_countedTruth 9 = .ok (.iconst 1, 1) := by decide +kernel
theorem dX0_countedTruth_10 : decode cX0_countedTruth 10 = .ok (.goto 4, 3) := by decide +kernel
theorem dX0_countedTruth_13 : decode cX0_countedTruth 13 = .ok (.iconst 0, 1) := by decide +kernel
theorem dX0_countedTruth_14 : decode cX0_countedTruth 14 = .ok (.ireturn, 1) := by decide +kernel
set_option maxRecDepth 20000 in
theorem ggX0_forcedFrom_X0_slack : GoodIn wsX0_forcedFrom wsX0_slack := goodIn_r _ [5, 6, 7, 8, 9, 10, 11, 12, 4, 13, 14, 15, 16, 17, 18, 19, 20, 21, 22, 23, 24, 25] (by decide +kernel) (by decide +kernel)
set_option maxRecDepth 20000 in
theorem gX0_forcedFrom_X0_slack : GoodIn wsX0_forcedFrom (wsV RX0 71 RX0 yX0_slack wsX0_slack) := goodIn_app (goodIn_of _ (by decide +kernel)) ggX0_forcedFrom_X0_slack
set_option maxRecDepth 20000 in
theorem ggX0_forcedFrom_X1_bit : GoodIn wsX0_forcedFrom wsX1_bit := goodIn_r _ [9] (by decide +kernel) (by decide +kernel)
set_option maxRecDepth 20000 in
theorem gX0_forcedFrom_X1_bit_n74 : GoodIn wsX0_forcedFrom (wsX1_bit) := ggX0_forcedFrom_X1_bit
set_option maxRecDepth 20000 in
theorem ggX0_forcedFrom_X0_size : GoodIn wsX0_forcedFrom wsX0_size := goodIn_r _ [18, 14, 19, 20, 21, 22, 23, 24, 25] (by decide +kernel) (by decide +kernel)
set_option maxRecDepth 20000 in
theorem gX0_forcedFrom_X0_size : GoodIn wsX0_forcedFrom (wsV RX0 33 RX0 yX0_size wsX0_size) := goodIn_app (goodIn_of _ (by decide +kernel)) ggX0_forcedFrom_X0_size
set_option maxRecDepth 20000 in
theorem ggX0_forcedFrom_X0_countedTruth : GoodIn wsX0_forcedFrom wsX0_countedTruth := goodIn_r _ [13, 14, 23, 24, 25] (by decide +kernel) (by decide +kernel)
set_option maxRecDepth 20000 in
theorem gX0_forcedFrom_X0_countedTruth : GoodIn wsX0_forcedFrom (wsV RX0 77 RX0 yX0_countedTruth wsX0_countedTruth) := goodIn_app (goodIn_of _ (by decide +kernel)) ggX0_forcedFrom_X0_countedTruth
theorem dX0_forcedFrom_0 : decode cX0_forcedFrom 0 = .ok (.iload_n 1, 1) := by decide +kernel
theorem dX0_forcedFrom_1 : decode cX0_forcedFrom 1 = .ok (.sipush 1024, 3) := by decide +kernel
theorem dX0_forcedFrom_4 : decode cX0_forcedFrom 4 = .ok (.idiv, 1) := by decide +kernel
theorem dX0_forcedFrom_5 : decode cX0_forcedFrom 5 = .ok (.istore_n 2, 1) := by decide +kernel
theorem dX0_forcedFrom_6 : decode cX0_forcedFrom 6 = .ok (.aload_n 0, 1) := by decide +kernel
theorem dX0_forcedFrom_7 : decode cX0_forcedFrom 7 = .ok (.iload_n 2, 1) := by decide +kernel
theorem dX0_forcedFrom_8 : decode cX0_forcedFrom 8 = .ok (.iload_n 1, 1) := by decide +kernel
theorem dX0_forcedFrom_9 : decode cX0_forcedFrom 9 = .ok (.sipush 1023, 3) := by decide +kernel
theorem dX0_forcedFrom_12 : decode cX0_forcedFrom 12 = .ok (.iand, 1) := by decide +kernel
theorem dX0_forcedFrom_13 : decode cX0_forcedFrom 13 = .ok (.invokevirtual 71, 3) := by decide +kernel
theorem dX0_forcedFrom_16 : decode cX0_forcedFrom 16 = .ok (.istore_n 3, 1) := by decide +kernel
theorem dX0_forcedFrom_17 : decode cX0_forcedFrom 17 = .ok (.iload_n 3, 1) := by decide +kernel
theorem dX0_forcedFrom_18 : decode cX0_forcedFrom 18 = .ok (.ifCond .ge 5, 3) := by decide +kernel
theorem dX0_forcedFrom_21 : decode cX0_forcedFrom 21 = .ok (.iconst (-1), 1) := by decide +kernel
theorem dX0_forcedFrom_22 : decode cX0_forcedFrom 22 = .ok (.ireturn, 1) := by decide +kernel
theorem dX0_forcedFrom_23 : decode cX0_forcedFrom 23 = .ok (.iload_n 1, 1) := by decide +kernel
theorem dX0_forcedFrom_24 : decode cX0_forcedFrom 24 = .ok (.istore 4, 2) := by decide +kernel
theorem dX0_forcedFrom_26 : decode cX0_forcedFrom 26 = .ok (.iconst 0, 1) := by decide +kernel
theorem dX0_forcedFrom_27 : decode cX0_forcedFrom 27 = .ok (.istore 5, 2) := by decide +kernel
theorem dX0_forcedFrom_29 : decode cX0_forcedFrom 29 = .ok (.iload 5, 2) := by decide +kernel
theorem dX0_forcedFrom_31 : decode cX0_forcedFrom 31 = .ok (.bipush 10, 2) := by decide +kernel
theorem dX0_forcedFrom_33 : decode cX0_forcedFrom 33 = .ok (.if_icmp .ge 46, 3) := by decide +kernel
theorem dX0_forcedFrom_36 : decode cX0_forcedFrom 36 = .ok (.iload_n 2, 1) := by decide +kernel
theorem dX0_forcedFrom_37 : decode cX0_forcedFrom 37 = .ok (.iload 5, 2) := by decide +kernel
theorem dX0_forcedFrom_39 : decode cX0_forcedFrom 39 = .ok (.invokestatic 74, 3) := by decide +kernel
theorem dX0_forcedFrom_42 : decode cX0_forcedFrom 42 = .ok (.ifCond .ne 31, 3) := by decide +kernel
theorem dX0_forcedFrom_45 : decode cX0_forcedFrom 45 = .ok (.aload_n 0, 1) := by decide +kernel
theorem dX0_forcedFrom_46 : decode cX0_forcedFrom 46 = .ok (.iload 5, 2) := by decide +kernel
theorem dX0_forcedFrom_48 : decode cX0_forcedFrom 48 = .ok (.invokevirtual 33, 3) := by decide +kernel
theorem dX0_forcedFrom_51 : decode cX0_forcedFrom 51 = .ok (.iload_n 3, 1) := by decide +kernel
theorem dX0_forcedFrom_52 : decode cX0_forcedFrom 52 = .ok (.if_icmp .le 21, 3) := by decide +kernel
theorem dX0_forcedFrom_55 : decode cX0_forcedFrom 55 = .ok (.iload 4, 2) := by decide +kernel
theorem dX0_forcedFrom_57 : decode cX0_forcedFrom 57 = .ok (.sipush 1024, 3) := by decide +kernel
theorem dX0_forcedFrom_60 : decode cX0_forcedFrom 60 = .ok (.aload_n 0, 1) := by decide +kernel
theorem dX0_forcedFrom_61 : decode cX0_forcedFrom 61 = .ok (.iload 5, 2) := by decide +kernel
theorem dX0_forcedFrom_63 : decode cX0_forcedFrom 63 = .ok (.invokevirtual 77, 3) := by decide +kernel
theorem dX0_forcedFrom_66 : decode cX0_forcedFrom 66 = .ok (.iadd, 1) := by decide +kernel
theorem dX0_forcedFrom_67 : decode cX0_forcedFrom 67 = .ok (.iload 5, 2) := by decide +kernel
theorem dX0_forcedFrom_69 : decode cX0_forcedFrom 69 = .ok (.ishl, 1) := by decide +kernel
theorem dX0_forcedFrom_70 : decode cX0_forcedFrom 70 = .ok (.iadd, 1) := by decide +kernel
theorem dX0_forcedFrom_71 : decode cX0_forcedFrom 71 = .ok (.istore 4, 2) := by decide +kernel
theorem dX0_forcedFrom_73 : decode cX0_forcedFrom 73 = .ok (.iinc 5 1, 3) := by decide +kernel
theorem dX0_forcedFrom_76 : decode cX0_forcedFrom 76 = .ok (.goto (-47), 3) := by decide +kernel
theorem dX0_forcedFrom_79 : decode cX0_forcedFrom 79 = .ok (.iload 4, 2) := by decide +kernel
theorem dX0_forcedFrom_81 : decode cX0_forcedFrom 81 = .ok (.ireturn, 1) := by decide +kernel
set_option maxRecDepth 20000 in
theorem ggX1_init_X0_init : GoodIn wsX1_init wsX0_init := goodIn_r _ [21, 22, 2, 3, 4, 23, 24, 25, 38, 39, 40] (by decide +kernel) (by decide +kernel)
set_option maxRecDepth 20000 in
theorem gX1_init_X0_init_n32 : GoodIn wsX1_init (wsX0_init) := ggX1_init_X0_init
theorem dX1_init_0 : decode cX1_init 0 = .ok (.aload_n 0, 1) := by decide +kernel
theorem dX1_init_1 : decode cX1_init 1 = .ok (.invokespecial 3, 3) := by decide +kernel
theorem dX1_init_4 : decode cX1_init 4 = .ok (.aload_n 0, 1) := by decide +kernel
theorem dX1_init_5 : decode cX1_init 5 = .ok (.bipush 10, 2) := by decide +kernel
theorem dX1_init_7 : decode cX1_init 7 = .ok (.newarray .int, 2) := by decide +kernel
theorem dX1_init_9 : decode cX1_init 9 = .ok (.putfield 9, 3) := by decide +kernel
theorem dX1_init_12 : decode cX1_init 12 = .ok (.aload_n 0, 1) := by decide +kernel
theorem dX1_init_13 : decode cX1_init 13 = .ok (.bipush 10, 2) := by decide +kernel
theorem dX1_init_15 : decode cX1_init 15 = .ok (.newarray .int, 2) := by decide +kernel
theorem dX1_init_17 : decode cX1_init 17 = .ok (.putfield 13, 3) := by decide +kernel
theorem dX1_init_20 : decode cX1_init 20 = .ok (.aload_n 0, 1) := by decide +kernel
theorem dX1_init_21 : decode cX1_init 21 = .ok (.bipush 30, 2) := by decide +kernel
theorem dX1_init_23 : decode cX1_init 23 = .ok (.anewarray 16, 3) := by decide +kernel
theorem dX1_init_26 : decode cX1_init 26 = .ok (.putfield 18, 3) := by decide +kernel
theorem dX1_init_29 : decode cX1_init 29 = .ok (.aload_n 0, 1) := by decide +kernel
theorem dX1_init_30 : decode cX1_init 30 = .ok (.iconst 0, 1) := by decide +kernel
theorem dX1_init_31 : decode cX1_init 31 = .ok (.putfield 22, 3) := by decide +kernel
theorem dX1_init_34 : decode cX1_init 34 = .ok (.aload_n 0, 1) := by decide +kernel
theorem dX1_init_35 : decode cX1_init 35 = .ok (.bipush 6, 2) := by decide +kernel
theorem dX1_init_37 : decode cX1_init 37 = .ok (.anewarray 16, 3) := by decide +kernel
theorem dX1_init_40 : decode cX1_init 40 = .ok (.putfield 26, 3) := by decide +kernel
theorem dX1_init_43 : decode cX1_init 43 = .ok (.aload_n 0, 1) := by decide +kernel
theorem dX1_init_44 : decode cX1_init 44 = .ok (.iconst 0, 1) := by decide +kernel
theorem dX1_init_45 : decode cX1_init 45 = .ok (.putfield 29, 3) := by decide +kernel
theorem dX1_init_48 : decode cX1_init 48 = .ok (.aload_n 0, 1) := by decide +kernel
theorem dX1_init_49 : decode cX1_init 49 = .ok (.new 16, 3) := by decide +kernel
theorem dX1_init_52 : decode cX1_init 52 = .ok (.dup, 1) := by decide +kernel
theorem dX1_init_53 : decode cX1_init 53 = .ok (.invokespecial 32, 3) := by decide +kernel
theorem dX1_init_56 : decode cX1_init 56 = .ok (.putfield 33, 3) := by decide +kernel
end
section
theorem dX1_init_59 : decode cX1_init 59 = .ok (.aload_n 0, 1) := by decide +kernel
theorem dX1_init_60 : decode cX1_init 60 = .ok (.iconst 0, 1) := by decide +kernel
theorem dX1_init_61 : decode cX1_init 61 = .ok (.putfield 37, 3) := by decide +kernel
theorem dX1_init_64 : decode cX1_init 64 = .ok (.aload_n 0, 1) := by decide +kernel
theorem dX1_init_65 : decode cX1_init 65 = .ok (.iconst 0, 1) := by decide +kernel
theorem dX1_init_66 : decode cX1_init 66 = .ok (.putfield 41, 3) := by decide +kernel
theorem dX1_init_69 : decode cX1_init 69 = .ok (.aload_n 0, 1) := by decide +kernel
theorem dX1_init_70 : decode cX1_init 70 = .ok (.iconst 0, 1) := by decide +kernel
theorem dX1_init_71 : decode cX1_init 71 = .ok (.putfield 44, 3) := by decide +kernel
theorem dX1_init_74 : decode cX1_init 74 = .ok (.aload_n 0, 1) := by decide +kernel
theorem dX1_init_75 : decode cX1_init 75 = .ok (.iconst 0, 1) := by decide +kernel
theorem dX1_init_76 : decode cX1_init 76 = .ok (.putfield 47, 3) := by decide +kernel
theorem dX1_init_79 : decode cX1_init 79 = .ok (.aload_n 0, 1) := by decide +kernel
theorem dX1_init_80 : decode cX1_init 80 = .ok (.iconst 0, 1) := by decide +kernel
theorem dX1_init_81 : decode cX1_init 81 = .ok (.putfield 50, 3) := by decide +kernel
theorem dX1_init_84 : decode cX1_init 84 = .ok (.iconst 0, 1) := by decide +kernel
theorem dX1_init_85 : decode cX1_init 85 = .ok (.istore_n 1, 1) := by decide +kernel
theorem dX1_init_86 : decode cX1_init 86 = .ok (.iload_n 1, 1) := by decide +kernel
theorem dX1_init_87 : decode cX1_init 87 = .ok (.bipush 30, 2) := by decide +kernel
theorem dX1_init_89 : decode cX1_init 89 = .ok (.if_icmp .ge 22, 3) := by decide +kernel
theorem dX1_init_92 : decode cX1_init 92 = .ok (.aload_n 0, 1) := by decide +kernel
theorem dX1_init_93 : decode cX1_init 93 = .ok (.getfield 18, 3) := by decide +kernel
theorem dX1_init_96 : decode cX1_init 96 = .ok (.iload_n 1, 1) := by decide +kernel
theorem dX1_init_97 : decode cX1_init 97 = .ok (.new 16, 3) := by decide +kernel
theorem dX1_init_100 : decode cX1_init 100 = .ok (.dup, 1) := by decide +kernel
theorem dX1_init_101 : decode cX1_init 101 = .ok (.invokespecial 32, 3) := by decide +kernel
theorem dX1_init_104 : decode cX1_init 104 = .ok (.aastore, 1) := by decide +kernel
theorem dX1_init_105 : decode cX1_init 105 = .ok (.iinc 1 1, 3) := by decide +kernel
theorem dX1_init_108 : decode cX1_init 108 = .ok (.goto (-22), 3) := by decide +kernel
theorem dX1_init_111 : decode cX1_init 111 = .ok (.iconst 0, 1) := by decide +kernel
theorem dX1_init_112 : decode cX1_init 112 = .ok (.istore_n 1, 1) := by decide +kernel
theorem dX1_init_113 : decode cX1_init 113 = .ok (.iload_n 1, 1) := by decide +kernel
theorem dX1_init_114 : decode cX1_init 114 = .ok (.bipush 6, 2) := by decide +kernel
theorem dX1_init_116 : decode cX1_init 116 = .ok (.if_icmp .ge 22, 3) := by decide +kernel
theorem dX1_init_119 : decode cX1_init 119 = .ok (.aload_n 0, 1) := by decide +kernel
theorem dX1_init_120 : decode cX1_init 120 = .ok (.getfield 26, 3) := by decide +kernel
theorem dX1_init_123 : decode cX1_init 123 = .ok (.iload_n 1, 1) := by decide +kernel
theorem dX1_init_124 : decode cX1_init 124 = .ok (.new 16, 3) := by decide +kernel
theorem dX1_init_127 : decode cX1_init 127 = .ok (.dup, 1) := by decide +kernel
theorem dX1_init_128 : decode cX1_init 128 = .ok (.invokespecial 32, 3) := by decide +kernel
theorem dX1_init_131 : decode cX1_init 131 = .ok (.aastore, 1) := by decide +kernel
theorem dX1_init_132 : decode cX1_init 132 = .ok (.iinc 1 1, 3) := by decide +kernel
theorem dX1_init_135 : decode cX1_init 135 = .ok (.goto (-22), 3) := by decide +kernel
theorem dX1_init_138 : decode cX1_init 138 = .ok (.return_, 1) := by decide +kernel
set_option maxRecDepth 20000 in
theorem ggX1_term_X1_isVariable : GoodIn wsX1_term wsX1_isVariable := goodIn_r _ [7, 8, 9, 6, 10] (by decide +kernel) (by decide +kernel)
set_option maxRecDepth 20000 in
theorem gX1_term_X1_isVariable : GoodIn wsX1_term (va_wsS RX1 53 yX1_isVariable wsX1_isVariable) := goodIn_app (goodIn_of _ (by decide +kernel)) ggX1_term_X1_isVariable
set_option maxRecDepth 20000 in
theorem ggX1_term_X1_isWithin : GoodIn wsX1_term wsX1_isWithin := goodIn_r _ [10] (by decide +kernel) (by decide +kernel)
set_option maxRecDepth 20000 in
theorem gX1_term_X1_isWithin : GoodIn wsX1_term (va_wsS RX1 57 yX1_isWithin wsX1_isWithin) := goodIn_app (goodIn_of _ (by decide +kernel)) ggX1_term_X1_isWithin
theorem dX1_term_0 : decode cX1_term 0 = .ok (.iload_n 1, 1) := by decide +kernel
theorem dX1_term_1 : decode cX1_term 1 = .ok (.invokestatic 53, 3) := by decide +kernel
theorem dX1_term_4 : decode cX1_term 4 = .ok (.ifCond .eq 14, 3) := by decide +kernel
theorem dX1_term_7 : decode cX1_term 7 = .ok (.iload_n 2, 1) := by decide +kernel
theorem dX1_term_8 : decode cX1_term 8 = .ok (.bipush (-99), 2) := by decide +kernel
theorem dX1_term_10 : decode cX1_term 10 = .ok (.bipush 99, 2) := by decide +kernel
theorem dX1_term_12 : decode cX1_term 12 = .ok (.invokestatic 57, 3) := by decide +kernel
theorem dX1_term_15 : decode cX1_term 15 = .ok (.ifCond .ne 11, 3) := by decide +kernel
theorem dX1_term_18 : decode cX1_term 18 = .ok (.new 61, 3) := by decide +kernel
theorem dX1_term_21 : decode cX1_term 21 = .ok (.dup, 1) := by decide +kernel
theorem dX1_term_22 : decode cX1_term 22 = .ok (.invokespecial 63, 3) := by decide +kernel
theorem dX1_term_25 : decode cX1_term 25 = .ok (.athrow, 1) := by decide +kernel
theorem dX1_term_26 : decode cX1_term 26 = .ok (.aload_n 0, 1) := by decide +kernel
theorem dX1_term_27 : decode cX1_term 27 = .ok (.getfield 9, 3) := by decide +kernel
theorem dX1_term_30 : decode cX1_term 30 = .ok (.iload_n 1, 1) := by decide +kernel
theorem dX1_term_31 : decode cX1_term 31 = .ok (.iload_n 2, 1) := by decide +kernel
theorem dX1_term_32 : decode cX1_term 32 = .ok (.iastore, 1) := by decide +kernel
theorem dX1_term_33 : decode cX1_term 33 = .ok (.return_, 1) := by decide +kernel
set_option maxRecDepth 20000 in
theorem ggX1_clear_J7_fill_53178 : GoodIn wsX1_clear wsJ7_fill_53178 := goodIn_r _ [5] (by decide +kernel) (by decide +kernel)
set_option maxRecDepth 20000 in
theorem gX1_clear_J7_fill_53178 : GoodIn wsX1_clear (va_wsS RX1 64 yJ7_fill_53178 wsJ7_fill_53178) := goodIn_app (goodIn_of _ (by decide +kernel)) ggX1_clear_J7_fill_53178
theorem dX1_clear_0 : decode cX1_clear 0 = .ok (.aload_n 0, 1) := by decide +kernel
theorem dX1_clear_1 : decode cX1_clear 1 = .ok (.getfield 9, 3) := by decide +kernel
theorem dX1_clear_4 : decode cX1_clear 4 = .ok (.iconst 0, 1) := by decide +kernel
theorem dX1_clear_5 : decode cX1_clear 5 = .ok (.invokestatic 64, 3) := by decide +kernel
theorem dX1_clear_8 : decode cX1_clear 8 = .ok (.return_, 1) := by decide +kernel
set_option maxRecDepth 20000 in
theorem ggX1_require_X1_isWithin : GoodIn wsX1_require wsX1_isWithin := goodIn_r _ [12] (by decide +kernel) (by decide +kernel)
set_option maxRecDepth 20000 in
theorem gX1_require_X1_isWithin : GoodIn wsX1_require (va_wsS RX1 57 yX1_isWithin wsX1_isWithin) := goodIn_app (goodIn_of _ (by decide +kernel)) ggX1_require_X1_isWithin
set_option maxRecDepth 20000 in
theorem ggX1_require_X1_isStoreFull : GoodIn wsX1_require wsX1_isStoreFull := goodIn_r _ [16, 7, 55, 56, 57, 58, 59, 60, 61, 62, 63, 64, 65, 66] (by decide +kernel) (by decide +kernel)
set_option maxRecDepth 20000 in
theorem gX1_require_X1_isStoreFull : GoodIn wsX1_require (wsV RX1 70 RX1 yX1_isStoreFull wsX1_isStoreFull) := goodIn_app (goodIn_of _ (by decide +kernel)) ggX1_require_X1_isStoreFull
set_option maxRecDepth 20000 in
theorem ggX1_require_X0_becomeAtLeast : GoodIn wsX1_require wsX0_becomeAtLeast := goodIn_r _ [21, 22, 23, 24, 20, 25, 26, 27, 28, 29, 30, 31, 32, 33, 34, 35, 36, 37, 38, 67, 68, 69] (by decide +kernel) (by decide +kernel)
set_option maxRecDepth 20000 in
theorem gX1_require_X0_becomeAtLeast : GoodIn wsX1_require (wsV RX1 77 RX0 yX0_becomeAtLeast wsX0_becomeAtLeast) := goodIn_app (goodIn_of _ (by decide +kernel)) ggX1_require_X0_becomeAtLeast
set_option maxRecDepth 20000 in
theorem ggX1_require_X0_becomeAtMost : GoodIn wsX1_require wsX0_becomeAtMost := goodIn_r _ [42, 22, 23, 24, 20, 25, 26, 27, 28, 29, 30, 31, 32, 33, 34, 35, 36, 37, 38, 67, 68, 69] (by decide +kernel) (by decide +kernel)
set_option maxRecDepth 20000 in
theorem gX1_require_X0_becomeAtMost : GoodIn wsX1_require (wsV RX1 80 RX0 yX0_becomeAtMost wsX0_becomeAtMost) := goodIn_app (goodIn_of _ (by decide +kernel)) ggX1_require_X0_becomeAtMost
set_option maxRecDepth 20000 in
theorem ggX1_require_X1_clear : GoodIn wsX1_require wsX1_clear := goodIn_r _ [46, 8, 47, 48, 49, 50, 55, 56, 57, 58, 59, 60, 61, 62, 63, 64, 65, 66] (by decide +kernel) (by decide +kernel)
set_option maxRecDepth 20000 in
theorem gX1_require_X1_clear : GoodIn wsX1_require (wsV RX1 83 RX1 yX1_clear wsX1_clear) := goodIn_app (goodIn_of _ (by decide +kernel)) ggX1_require_X1_clear
set_option maxRecDepth 20000 in
theorem ggX1_require_X1_keepNext : GoodIn wsX1_require wsX1_keepNext := goodIn_r _ [54, 6, 7, 55, 56, 57, 58, 59, 60, 61, 62, 63, 64, 65, 66, 67, 68, 69] (by decide +kernel) (by decide +kernel)
set_option maxRecDepth 20000 in
theorem gX1_require_X1_keepNext : GoodIn wsX1_require (wsV RX1 86 RX1 yX1_keepNext wsX1_keepNext) := goodIn_app (goodIn_of _ (by decide +kernel)) ggX1_require_X1_keepNext
theorem dX1_require_0 : decode cX1_require 0 = .ok (.iload_n 1, 1) := by decide +kernel
theorem dX1_require_1 : decode cX1_require 1 = .ok (.iconst 0, 1) := by decide +kernel
theorem dX1_require_2 : decode cX1_require 2 = .ok (.iconst 1, 1) := by decide +kernel
theorem dX1_require_3 : decode cX1_require 3 = .ok (.invokestatic 57, 3) := by decide +kernel
theorem dX1_require_6 : decode cX1_require 6 = .ok (.ifCond .eq 16, 3) := by decide +kernel
theorem dX1_require_9 : decode cX1_require 9 = .ok (.iload_n 2, 1) := by decide +kernel
theorem dX1_require_10 : decode cX1_require 10 = .ok (.sipush (-9999), 3) := by decide +kernel
theorem dX1_require_13 : decode cX1_require 13 = .ok (.sipush 9999, 3) := by decide +kernel
theorem dX1_require_16 : decode cX1_require 16 = .ok (.invokestatic 57, 3) := by decide +kernel
theorem dX1_require_19 : decode cX1_require 19 = .ok (.ifCond .ne 11, 3) := by decide +kernel
theorem dX1_require_22 : decode cX1_require 22 = .ok (.new 61, 3) := by decide +kernel
theorem dX1_require_25 : decode cX1_require 25 = .ok (.dup, 1) := by decide +kernel
theorem dX1_require_26 : decode cX1_require 26 = .ok (.invokespecial 63, 3) := by decide +kernel
theorem dX1_require_29 : decode cX1_require 29 = .ok (.athrow, 1) := by decide +kernel
theorem dX1_require_30 : decode cX1_require 30 = .ok (.aload_n 0, 1) := by decide +kernel
theorem dX1_require_31 : decode cX1_require 31 = .ok (.invokevirtual 70, 3) := by decide +kernel
theorem dX1_require_34 : decode cX1_require 34 = .ok (.ifCond .ne 10, 3) := by decide +kernel
theorem dX1_require_37 : decode cX1_require 37 = .ok (.aload_n 0, 1) := by decide +kernel
theorem dX1_require_38 : decode cX1_require 38 = .ok (.getfield 37, 3) := by decide +kernel
theorem dX1_require_41 : decode cX1_require 41 = .ok (.ifCond .eq 11, 3) := by decide +kernel
theorem dX1_require_44 : decode cX1_require 44 = .ok (.new 74, 3) := by decide +kernel
theorem dX1_require_47 : decode cX1_require 47 = .ok (.dup, 1) := by decide +kernel
theorem dX1_require_48 : decode cX1_require 48 = .ok (.invokespecial 76, 3) := by decide +kernel
theorem dX1_require_51 : decode cX1_require 51 = .ok (.athrow, 1) := by decide +kernel
theorem dX1_require_52 : decode cX1_require 52 = .ok (.iload_n 1, 1) := by decide +kernel
theorem dX1_require_53 : decode cX1_require 53 = .ok (.ifCond .ne 23, 3) := by decide +kernel
theorem dX1_require_56 : decode cX1_require 56 = .ok (.aload_n 0, 1) := by decide +kernel
theorem dX1_require_57 : decode cX1_require 57 = .ok (.getfield 18, 3) := by decide +kernel
theorem dX1_require_60 : decode cX1_require 60 = .ok (.aload_n 0, 1) := by decide +kernel
theorem dX1_require_61 : decode cX1_require 61 = .ok (.getfield 22, 3) := by decide +kernel
theorem dX1_require_64 : decode cX1_require 64 = .ok (.aaload, 1) := by decide +kernel
theorem dX1_require_65 : decode cX1_require 65 = .ok (.aload_n 0, 1) := by decide +kernel
theorem dX1_require_66 : decode cX1_require 66 = .ok (.getfield 9, 3) := by decide +kernel
theorem dX1_require_69 : decode cX1_require 69 = .ok (.iload_n 2, 1) := by decide +kernel
theorem dX1_require_70 : decode cX1_require 70 = .ok (.invokevirtual 77, 3) := by decide +kernel
theorem dX1_require_73 : decode cX1_require 73 = .ok (.goto 20, 3) := by decide +kernel
theorem dX1_require_76 : decode cX1_require 76 = .ok (.aload_n 0, 1) := by decide +kernel
theorem dX1_require_77 : decode cX1_require 77 = .ok (.getfield 18, 3) := by decide +kernel
theorem dX1_require_80 : decode cX1_require 80 = .ok (.aload_n 0, 1) := by decide +kernel
theorem dX1_require_81 : decode cX1_require 81 = .ok (.getfield 22, 3) := by decide +kernel
theorem dX1_require_84 : decode cX1_require 84 = .ok (.aaload, 1) := by decide +kernel
theorem dX1_require_85 : decode cX1_require 85 = .ok (.aload_n 0, 1) := by decide +kernel
theorem dX1_require_86 : decode cX1_require 86 = .ok (.getfield 9, 3) := by decide +kernel
theorem dX1_require_89 : decode cX1_require 89 = .ok (.iload_n 2, 1) := by decide +kernel
theorem dX1_require_90 : decode cX1_require 90 = .ok (.invokevirtual 80, 3) := by decide +kernel
theorem dX1_require_93 : decode cX1_require 93 = .ok (.aload_n 0, 1) := by decide +kernel
theorem dX1_require_94 : decode cX1_require 94 = .ok (.invokevirtual 83, 3) := by decide +kernel
theorem dX1_require_97 : decode cX1_require 97 = .ok (.aload_n 0, 1) := by decide +kernel
theorem dX1_require_98 : decode cX1_require 98 = .ok (.iconst 1, 1) := by decide +kernel
theorem dX1_require_99 : decode cX1_require 99 = .ok (.invokevirtual 86, 3) := by decide +kernel
theorem dX1_require_102 : decode cX1_require 102 = .ok (.ireturn, 1) := by decide +kernel
set_option maxRecDepth 20000 in
theorem ggX1_objective_X1_clear : GoodIn wsX1_objective wsX1_clear := goodIn_r _ [14, 4, 15, 16, 17, 18, 19, 20, 21, 22, 23, 24, 25, 26, 27, 28, 29, 30] (by decide +kernel) (by decide +kernel)
set_option maxRecDepth 20000 in
theorem gX1_objective_X1_clear : GoodIn wsX1_objective (wsV RX1 83 RX1 yX1_clear wsX1_clear) := goodIn_app (goodIn_of _ (by decide +kernel)) ggX1_objective_X1_clear
theorem dX1_objective_0 : decode cX1_objective 0 = .ok (.aload_n 0, 1) := by decide +kernel
theorem dX1_objective_1 : decode cX1_objective 1 = .ok (.getfield 37, 3) := by decide +kernel
theorem dX1_objective_4 : decode cX1_objective 4 = .ok (.ifCond .eq 11, 3) := by decide +kernel
theorem dX1_objective_7 : decode cX1_objective 7 = .ok (.new 74, 3) := by decide +kernel
theorem dX1_objective_10 : decode cX1_objective 10 = .ok (.dup, 1) := by decide +kernel
theorem dX1_objective_11 : decode cX1_objective 11 = .ok (.invokespecial 76, 3) := by decide +kernel
theorem dX1_objective_14 : decode cX1_objective 14 = .ok (.athrow, 1) := by decide +kernel
theorem dX1_objective_15 : decode cX1_objective 15 = .ok (.aload_n 0, 1) := by decide +kernel
theorem dX1_objective_16 : decode cX1_objective 16 = .ok (.getfield 9, 3) := by decide +kernel
theorem dX1_objective_19 : decode cX1_objective 19 = .ok (.iconst 0, 1) := by decide +kernel
theorem dX1_objective_20 : decode cX1_objective 20 = .ok (.aload_n 0, 1) := by decide +kernel
theorem dX1_objective_21 : decode cX1_objective 21 = .ok (.getfield 13, 3) := by decide +kernel
theorem dX1_objective_24 : decode cX1_objective 24 = .ok (.iconst 0, 1) := by decide +kernel
theorem dX1_objective_25 : decode cX1_objective 25 = .ok (.bipush 10, 2) := by decide +kernel
theorem dX1_objective_27 : decode cX1_objective 27 = .ok (.invokestatic 90, 3) := by decide +kernel
theorem dX1_objective_30 : decode cX1_objective 30 = .ok (.aload_n 0, 1) := by decide +kernel
theorem dX1_objective_31 : decode cX1_objective 31 = .ok (.invokevirtual 83, 3) := by decide +kernel
theorem dX1_objective_34 : decode cX1_objective 34 = .ok (.return_, 1) := by decide +kernel
theorem dX1_constraints_0 : decode cX1_constraints 0 = .ok (.aload_n 0, 1) := by decide +kernel
theorem dX1_constraints_1 : decode cX1_constraints 1 = .ok (.getfield 22, 3) := by decide +kernel
theorem dX1_constraints_4 : decode cX1_constraints 4 = .ok (.ireturn, 1) := by decide +kernel
set_option maxRecDepth 20000 in
theorem ggX1_constraint_X1_isStored : GoodIn wsX1_constraint wsX1_isStored := goodIn_r _ [10, 11, 12, 13, 9, 14, 25, 26, 27, 28, 29, 30, 31, 32, 33, 34, 35, 36] (by decide +kernel) (by decide +kernel)
set_option maxRecDepth 20000 in
theorem gX1_constraint_X1_isStored : GoodIn wsX1_constraint (wsV RX1 96 RX1 yX1_isStored wsX1_isStored) := goodIn_app (goodIn_of _ (by decide +kernel)) ggX1_constraint_X1_isStored
set_option maxRecDepth 20000 in
theorem ggX1_constraint_X1_isQuestion : GoodIn wsX1_constraint wsX1_isQuestion := goodIn_r _ [17, 12, 13, 9, 14] (by decide +kernel) (by decide +kernel)
set_option maxRecDepth 20000 in
theorem gX1_constraint_X1_isQuestion : GoodIn wsX1_constraint (va_wsS RX1 102 yX1_isQuestion wsX1_isQuestion) := goodIn_app (goodIn_of _ (by decide +kernel)) ggX1_constraint_X1_isQuestion
set_option maxRecDepth 20000 in
theorem ggX1_constraint_X0_weightOrDegree : GoodIn wsX1_constraint wsX0_weightOrDegree := goodIn_r _ [22, 23, 24, 37, 38, 39] (by decide +kernel) (by decide +kernel)
set_option maxRecDepth 20000 in
theorem gX1_constraint_X0_weightOrDegree : GoodIn wsX1_constraint (wsV RX1 108 RX0 yX0_weightOrDegree wsX0_weightOrDegree) := goodIn_app (goodIn_of _ (by decide +kernel)) ggX1_constraint_X0_weightOrDegree
theorem dX1_constraint_0 : decode cX1_constraint 0 = .ok (.aload_n 0, 1) := by decide +kernel
theorem dX1_constraint_1 : decode cX1_constraint 1 = .ok (.iload_n 1, 1) := by decide +kernel
theorem dX1_constraint_2 : decode cX1_constraint 2 = .ok (.invokevirtual 96, 3) := by decide +kernel
theorem dX1_constraint_5 : decode cX1_constraint 5 = .ok (.ifCond .ne 11, 3) := by decide +kernel
theorem dX1_constraint_8 : decode cX1_constraint 8 = .ok (.new 99, 3) := by decide +kernel
theorem dX1_constraint_11 : decode cX1_constraint 11 = .ok (.dup, 1) := by decide +kernel
theorem dX1_constraint_12 : decode cX1_constraint 12 = .ok (.invokespecial 101, 3) := by decide +kernel
theorem dX1_constraint_15 : decode cX1_constraint 15 = .ok (.athrow, 1) := by decide +kernel
theorem dX1_constraint_16 : decode cX1_constraint 16 = .ok (.iload_n 2, 1) := by decide +kernel
theorem dX1_constraint_17 : decode cX1_constraint 17 = .ok (.invokestatic 102, 3) := by decide +kernel
theorem dX1_constraint_20 : decode cX1_constraint 20 = .ok (.ifCond .ne 11, 3) := by decide +kernel
theorem dX1_constraint_23 : decode cX1_constraint 23 = .ok (.new 61, 3) := by decide +kernel
theorem dX1_constraint_26 : decode cX1_constraint 26 = .ok (.dup, 1) := by decide +kernel
theorem dX1_constraint_27 : decode cX1_constraint 27 = .ok (.invokespecial 63, 3) := by decide +kernel
theorem dX1_constraint_30 : decode cX1_constraint 30 = .ok (.athrow, 1) := by decide +kernel
theorem dX1_constraint_31 : decode cX1_constraint 31 = .ok (.iload_n 2, 1) := by decide +kernel
theorem dX1_constraint_32 : decode cX1_constraint 32 = .ok (.bipush (-2), 2) := by decide +kernel
theorem dX1_constraint_34 : decode cX1_constraint 34 = .ok (.if_icmp .ne 21, 3) := by decide +kernel
theorem dX1_constraint_37 : decode cX1_constraint 37 = .ok (.aload_n 0, 1) := by decide +kernel
theorem dX1_constraint_38 : decode cX1_constraint 38 = .ok (.getfield 18, 3) := by decide +kernel
theorem dX1_constraint_41 : decode cX1_constraint 41 = .ok (.iload_n 1, 1) := by decide +kernel
theorem dX1_constraint_42 : decode cX1_constraint 42 = .ok (.aaload, 1) := by decide +kernel
theorem dX1_constraint_43 : decode cX1_constraint 43 = .ok (.getfield 105, 3) := by decide +kernel
theorem dX1_constraint_46 : decode cX1_constraint 46 = .ok (.ifCond .eq 7, 3) := by decide +kernel
theorem dX1_constraint_49 : decode cX1_constraint 49 = .ok (.iconst 1, 1) := by decide +kernel
theorem dX1_constraint_50 : decode cX1_constraint 50 = .ok (.goto 4, 3) := by decide +kernel
theorem dX1_constraint_53 : decode cX1_constraint 53 = .ok (.iconst 0, 1) := by decide +kernel
theorem dX1_constraint_54 : decode cX1_constraint 54 = .ok (.ireturn, 1) := by decide +kernel
theorem dX1_constraint_55 : decode cX1_constraint 55 = .ok (.aload_n 0, 1) := by decide +kernel
theorem dX1_constraint_56 : decode cX1_constraint 56 = .ok (.getfield 18, 3) := by decide +kernel
theorem dX1_constraint_59 : decode cX1_constraint 59 = .ok (.iload_n 1, 1) := by decide +kernel
theorem dX1_constraint_60 : decode cX1_constraint 60 = .ok (.aaload, 1) := by decide +kernel
theorem dX1_constraint_61 : decode cX1_constraint 61 = .ok (.iload_n 2, 1) := by decide +kernel
theorem dX1_constraint_62 : decode cX1_constraint 62 = .ok (.invokevirtual 108, 3) := by decide +kernel
theorem dX1_constraint_65 : decode cX1_constraint 65 = .ok (.ireturn, 1) := by decide +kernel
set_option maxRecDepth 20000 in
theorem ggX1_close_X1_isChoice : GoodIn wsX1_close wsX1_isChoice := goodIn_r _ [7, 8, 9, 6, 10] (by decide +kernel) (by decide +kernel)
set_option maxRecDepth 20000 in
theorem gX1_close_X1_isChoice : GoodIn wsX1_close (va_wsS RX1 112 yX1_isChoice wsX1_isChoice) := goodIn_app (goodIn_of _ (by decide +kernel)) ggX1_close_X1_isChoice
set_option maxRecDepth 20000 in
theorem ggX1_close_X1_closed : GoodIn wsX1_close wsX1_closed := goodIn_r _ [14, 15, 16, 17, 18, 19, 20, 21, 22, 23, 24, 25, 26, 6, 27, 28, 29, 30, 31, 32, 33, 34, 35, 36, 37, 38, 39, 40, 41, 42, 43, 44, 45, 46, 47, 48, 49, 50, 51, 52, 53, 54, 55] (by decide +kernel) (by decide +kernel)
set_option maxRecDepth 20000 in
theorem gX1_close_X1_closed : GoodIn wsX1_close (wsV RX1 115 RX1 yX1_closed wsX1_closed) := goodIn_app (goodIn_of _ (by decide +kernel)) ggX1_close_X1_closed
theorem dX1_close_0 : decode cX1_close 0 = .ok (.iload_n 1, 1) := by decide +kernel
theorem dX1_close_1 : decode cX1_close 1 = .ok (.invokestatic 112, 3) := by decide +kernel
theorem dX1_close_4 : decode cX1_close 4 = .ok (.ifCond .eq 10, 3) := by decide +kernel
theorem dX1_close_7 : decode cX1_close 7 = .ok (.iload_n 2, 1) := by decide +kernel
theorem dX1_close_8 : decode cX1_close 8 = .ok (.invokestatic 112, 3) := by decide +kernel
theorem dX1_close_11 : decode cX1_close 11 = .ok (.ifCond .ne 11, 3) := by decide +kernel
theorem dX1_close_14 : decode cX1_close 14 = .ok (.new 61, 3) := by decide +kernel
theorem dX1_close_17 : decode cX1_close 17 = .ok (.dup, 1) := by decide +kernel
theorem dX1_close_18 : decode cX1_close 18 = .ok (.invokespecial 63, 3) := by decide +kernel
theorem dX1_close_21 : decode cX1_close 21 = .ok (.athrow, 1) := by decide +kernel
theorem dX1_close_22 : decode cX1_close 22 = .ok (.aload_n 0, 1) := by decide +kernel
theorem dX1_close_23 : decode cX1_close 23 = .ok (.iload_n 1, 1) := by decide +kernel
theorem dX1_close_24 : decode cX1_close 24 = .ok (.sipush 1024, 3) := by decide +kernel
theorem dX1_close_27 : decode cX1_close 27 = .ok (.imul, 1) := by decide +kernel
theorem dX1_close_28 : decode cX1_close 28 = .ok (.iload_n 2, 1) := by decide +kernel
theorem dX1_close_29 : decode cX1_close 29 = .ok (.iload_n 1, 1) := by decide +kernel
theorem dX1_close_30 : decode cX1_close 30 = .ok (.iand, 1) := by decide +kernel
theorem dX1_close_31 : decode cX1_close 31 = .ok (.iadd, 1) := by decide +kernel
theorem dX1_close_32 : decode cX1_close 32 = .ok (.aload_n 0, 1) := by decide +kernel
theorem dX1_close_33 : decode cX1_close 33 = .ok (.getfield 22, 3) := by decide +kernel
theorem dX1_close_36 : decode cX1_close 36 = .ok (.invokevirtual 115, 3) := by decide +kernel
theorem dX1_close_39 : decode cX1_close 39 = .ok (.ireturn, 1) := by decide +kernel
set_option maxRecDepth 20000 in
theorem ggX1_load_X1_isStored : GoodIn wsX1_load wsX1_isStored := goodIn_r _ [10, 11, 12, 13, 9, 14, 32, 33, 34, 35, 36, 37, 38, 39, 40, 41, 42, 43] (by decide +kernel) (by decide +kernel)
set_option maxRecDepth 20000 in
theorem gX1_load_X1_isStored : GoodIn wsX1_load (wsV RX1 96 RX1 yX1_isStored wsX1_isStored) := goodIn_app (goodIn_of _ (by decide +kernel)) ggX1_load_X1_isStored
set_option maxRecDepth 20000 in
theorem ggX1_load_X1_refuseFullStack : GoodIn wsX1_load wsX1_refuseFullStack := goodIn_ca (goodIn_r _ [18, 19, 20, 4, 32, 33, 34, 35, 36, 37, 38, 39, 40, 41, 42, 43] (by decide +kernel) (by decide +kernel)) (goodIn_sub (fun _ h => List.mem_cons_of_mem _ (List.mem_append_right _ h)) (by decide +kernel))
set_option maxRecDepth 20000 in
theorem gX1_load_X1_refuseFullStack : GoodIn wsX1_load (wsV RX1 119 RX1 yX1_refuseFullStack wsX1_refuseFullStack) := goodIn_app (goodIn_of _ (by decide +kernel)) ggX1_load_X1_refuseFullStack
set_option maxRecDepth 20000 in
theorem ggX1_load_X0_become : GoodIn wsX1_load wsX0_become := goodIn_r _ [25, 26, 27, 28, 29, 30, 31, 44, 45, 46] (by decide +kernel) (by decide +kernel)
set_option maxRecDepth 20000 in
theorem gX1_load_X0_become : GoodIn wsX1_load (wsV RX1 122 RX0 yX0_become wsX0_become) := goodIn_app (goodIn_of _ (by decide +kernel)) ggX1_load_X0_become
theorem dX1_load_0 : decode cX1_load 0 = .ok (.aload_n 0, 1) := by decide +kernel
theorem dX1_load_1 : decode cX1_load 1 = .ok (.iload_n 1, 1) := by decide +kernel
theorem dX1_load_2 : decode cX1_load 2 = .ok (.invokevirtual 96, 3) := by decide +kernel
theorem dX1_load_5 : decode cX1_load 5 = .ok (.ifCond .ne 11, 3) := by decide +kernel
theorem dX1_load_8 : decode cX1_load 8 = .ok (.new 99, 3) := by decide +kernel
theorem dX1_load_11 : decode cX1_load 11 = .ok (.dup, 1) := by decide +kernel
theorem dX1_load_12 : decode cX1_load 12 = .ok (.invokespecial 101, 3) := by decide +kernel
theorem dX1_load_15 : decode cX1_load 15 = .ok (.athrow, 1) := by decide +kernel
theorem dX1_load_16 : decode cX1_load 16 = .ok (.aload_n 0, 1) := by decide +kernel
theorem dX1_load_17 : decode cX1_load 17 = .ok (.invokevirtual 119, 3) := by decide +kernel
theorem dX1_load_20 : decode cX1_load 20 = .ok (.aload_n 0, 1) := by decide +kernel
theorem dX1_load_21 : decode cX1_load 21 = .ok (.getfield 26, 3) := by decide +kernel
theorem dX1_load_24 : decode cX1_load 24 = .ok (.aload_n 0, 1) := by decide +kernel
theorem dX1_load_25 : decode cX1_load 25 = .ok (.getfield 29, 3) := by decide +kernel
theorem dX1_load_28 : decode cX1_load 28 = .ok (.aaload, 1) := by decide +kernel
theorem dX1_load_29 : decode cX1_load 29 = .ok (.aload_n 0, 1) := by decide +kernel
theorem dX1_load_30 : decode cX1_load 30 = .ok (.getfield 18, 3) := by decide +kernel
theorem dX1_load_33 : decode cX1_load 33 = .ok (.iload_n 1, 1) := by decide +kernel
theorem dX1_load_34 : decode cX1_load 34 = .ok (.aaload, 1) := by decide +kernel
theorem dX1_load_35 : decode cX1_load 35 = .ok (.invokevirtual 122, 3) := by decide +kernel
theorem dX1_load_38 : decode cX1_load 38 = .ok (.aload_n 0, 1) := by decide +kernel
theorem dX1_load_39 : decode cX1_load 39 = .ok (.dup, 1) := by decide +kernel
theorem dX1_load_40 : decode cX1_load 40 = .ok (.getfield 29, 3) := by decide +kernel
theorem dX1_load_43 : decode cX1_load 43 = .ok (.iconst 1, 1) := by decide +kernel
theorem dX1_load_44 : decode cX1_load 44 = .ok (.iadd, 1) := by decide +kernel
theorem dX1_load_45 : decode cX1_load 45 = .ok (.putfield 29, 3) := by decide +kernel
theorem dX1_load_48 : decode cX1_load 48 = .ok (.return_, 1) := by decide +kernel
set_option maxRecDepth 20000 in
theorem ggX1_axiom_X1_isVariable : GoodIn wsX1_axiom wsX1_isVariable := goodIn_r _ [8, 9, 10, 7, 11] (by decide +kernel) (by decide +kernel)
set_option maxRecDepth 20000 in
theorem gX1_axiom_X1_isVariable : GoodIn wsX1_axiom (va_wsS RX1 53 yX1_isVariable wsX1_isVariable) := goodIn_app (goodIn_of _ (by decide +kernel)) ggX1_axiom_X1_isVariable
set_option maxRecDepth 20000 in
theorem ggX1_axiom_X1_refuseFullStack : GoodIn wsX1_axiom wsX1_refuseFullStack := goodIn_ca (goodIn_r _ [15, 16, 17, 4, 29, 30, 31, 32, 33, 34, 35, 36, 37, 38, 39, 40] (by decide +kernel) (by decide +kernel)) (goodIn_sub (fun _ h => List.mem_cons_of_mem _ (List.mem_append_right _ h)) (by decide +kernel))
set_option maxRecDepth 20000 in
theorem gX1_axiom_X1_refuseFullStack : GoodIn wsX1_axiom (wsV RX1 119 RX1 yX1_refuseFullStack wsX1_refuseFullStack) := goodIn_app (goodIn_of _ (by decide +kernel)) ggX1_axiom_X1_refuseFullStack
set_option maxRecDepth 20000 in
theorem ggX1_axiom_X0_becomeAxiom : GoodIn wsX1_axiom wsX0_becomeAxiom := goodIn_r _ [22, 23, 24, 25, 26, 27, 28, 41, 42, 43] (by decide +kernel) (by decide +kernel)
set_option maxRecDepth 20000 in
theorem gX1_axiom_X0_becomeAxiom : GoodIn wsX1_axiom (wsV RX1 126 RX0 yX0_becomeAxiom wsX0_becomeAxiom) := goodIn_app (goodIn_of _ (by decide +kernel)) ggX1_axiom_X0_becomeAxiom
theorem dX1_axiom_0 : decode cX1_axiom 0 = .ok (.iload_n 1, 1) := by decide +kernel
theorem dX1_axiom_1 : decode cX1_axiom 1 = .ok (.invokestatic 53, 3) := by decide +kernel
theorem dX1_axiom_4 : decode cX1_axiom 4 = .ok (.ifCond .ne 11, 3) := by decide +kernel
theorem dX1_axiom_7 : decode cX1_axiom 7 = .ok (.new 99, 3) := by decide +kernel
theorem dX1_axiom_10 : decode cX1_axiom 10 = .ok (.dup, 1) := by decide +kernel
theorem dX1_axiom_11 : decode cX1_axiom 11 = .ok (.invokespecial 101, 3) := by decide +kernel
theorem dX1_axiom_14 : decode cX1_axiom 14 = .ok (.athrow, 1) := by decide +kernel
theorem dX1_axiom_15 : decode cX1_axiom 15 = .ok (.aload_n 0, 1) := by decide +kernel
theorem dX1_axiom_16 : decode cX1_axiom 16 = .ok (.invokevirtual 119, 3) := by decide +kernel
theorem dX1_axiom_19 : decode cX1_axiom 19 = .ok (.aload_n 0, 1) := by decide +kernel
theorem dX1_axiom_20 : decode cX1_axiom 20 = .ok (.getfield 26, 3) := by decide +kernel
theorem dX1_axiom_23 : decode cX1_axiom 23 = .ok (.aload_n 0, 1) := by decide +kernel
theorem dX1_axiom_24 : decode cX1_axiom 24 = .ok (.getfield 29, 3) := by decide +kernel
theorem dX1_axiom_27 : decode cX1_axiom 27 = .ok (.aaload, 1) := by decide +kernel
theorem dX1_axiom_28 : decode cX1_axiom 28 = .ok (.iload_n 1, 1) := by decide +kernel
theorem dX1_axiom_29 : decode cX1_axiom 29 = .ok (.iload_n 2, 1) := by decide +kernel
theorem dX1_axiom_30 : decode cX1_axiom 30 = .ok (.invokevirtual 126, 3) := by decide +kernel
theorem dX1_axiom_33 : decode cX1_axiom 33 = .ok (.aload_n 0, 1) := by decide +kernel
theorem dX1_axiom_34 : decode cX1_axiom 34 = .ok (.dup, 1) := by decide +kernel
theorem dX1_axiom_35 : decode cX1_axiom 35 = .ok (.getfield 29, 3) := by decide +kernel
theorem dX1_axiom_38 : decode cX1_axiom 38 = .ok (.iconst 1, 1) := by decide +kernel
theorem dX1_axiom_39 : decode cX1_axiom 39 = .ok (.iadd, 1) := by decide +kernel
theorem dX1_axiom_40 : decode cX1_axiom 40 = .ok (.putfield 29, 3) := by decide +kernel
theorem dX1_axiom_43 : decode cX1_axiom 43 = .ok (.return_, 1) := by decide +kernel
set_option maxRecDepth 20000 in
theorem ggX1_add_X0_becomeSum : GoodIn wsX1_add wsX0_becomeSum := goodIn_r _ [10, 11, 12, 13, 14, 15, 16, 17, 18, 19, 20, 21, 22, 9, 23, 24, 25, 26, 27, 28, 29, 30, 63, 64, 65] (by decide +kernel) (by decide +kernel)
set_option maxRecDepth 20000 in
theorem gX1_add_X0_becomeSum : GoodIn wsX1_add (wsV RX1 130 RX0 yX0_becomeSum wsX0_becomeSum) := goodIn_app (goodIn_of _ (by decide +kernel)) ggX1_add_X0_becomeSum
set_option maxRecDepth 20000 in
theorem ggX1_add_X1_refuseTooLargeScratch : GoodIn wsX1_add wsX1_refuseTooLargeScratch := goodIn_ca (goodIn_r _ [35, 36, 37, 4, 38, 39, 40, 9, 41, 42, 11, 24, 25, 26, 27, 12, 28, 29, 15, 30, 51, 52, 53, 54, 55, 56, 57, 58, 59, 60, 61, 62, 63, 64, 65] (by decide +kernel) (by decide +kernel)) (goodIn_sub (fun _ h => List.mem_cons_of_mem _ (List.mem_append_right _ h)) (by decide +kernel))
set_option maxRecDepth 20000 in
theorem gX1_add_X1_refuseTooLargeScratch : GoodIn wsX1_add (wsV RX1 134 RX1 yX1_refuseTooLargeScratch wsX1_refuseTooLargeScratch) := goodIn_app (goodIn_of _ (by decide +kernel)) ggX1_add_X1_refuseTooLargeScratch
set_option maxRecDepth 20000 in
theorem ggX1_add_X0_become : GoodIn wsX1_add wsX0_become := goodIn_r _ [46, 12, 47, 48, 49, 50, 11, 63, 64, 65] (by decide +kernel) (by decide +kernel)
set_option maxRecDepth 20000 in
theorem gX1_add_X0_become : GoodIn wsX1_add (wsV RX1 122 RX0 yX0_become wsX0_become) := goodIn_app (goodIn_of _ (by decide +kernel)) ggX1_add_X0_become
theorem dX1_add_0 : decode cX1_add 0 = .ok (.aload_n 0, 1) := by decide +kernel
theorem dX1_add_1 : decode cX1_add 1 = .ok (.getfield 29, 3) := by decide +kernel
theorem dX1_add_4 : decode cX1_add 4 = .ok (.iconst 2, 1) := by decide +kernel
theorem dX1_add_5 : decode cX1_add 5 = .ok (.if_icmp .ge 11, 3) := by decide +kernel
theorem dX1_add_8 : decode cX1_add 8 = .ok (.new 74, 3) := by decide +kernel
theorem dX1_add_11 : decode cX1_add 11 = .ok (.dup, 1) := by decide +kernel
theorem dX1_add_12 : decode cX1_add 12 = .ok (.invokespecial 76, 3) := by decide +kernel
theorem dX1_add_15 : decode cX1_add 15 = .ok (.athrow, 1) := by decide +kernel
theorem dX1_add_16 : decode cX1_add 16 = .ok (.aload_n 0, 1) := by decide +kernel
theorem dX1_add_17 : decode cX1_add 17 = .ok (.getfield 33, 3) := by decide +kernel
theorem dX1_add_20 : decode cX1_add 20 = .ok (.aload_n 0, 1) := by decide +kernel
theorem dX1_add_21 : decode cX1_add 21 = .ok (.getfield 26, 3) := by decide +kernel
theorem dX1_add_24 : decode cX1_add 24 = .ok (.aload_n 0, 1) := by decide +kernel
theorem dX1_add_25 : decode cX1_add 25 = .ok (.getfield 29, 3) := by decide +kernel
theorem dX1_add_28 : decode cX1_add 28 = .ok (.iconst 2, 1) := by decide +kernel
theorem dX1_add_29 : decode cX1_add 29 = .ok (.isub, 1) := by decide +kernel
theorem dX1_add_30 : decode cX1_add 30 = .ok (.aaload, 1) := by decide +kernel
theorem dX1_add_31 : decode cX1_add 31 = .ok (.aload_n 0, 1) := by decide +kernel
theorem dX1_add_32 : decode cX1_add 32 = .ok (.getfield 26, 3) := by decide +kernel
theorem dX1_add_35 : decode cX1_add 35 = .ok (.aload_n 0, 1) := by decide +kernel
theorem dX1_add_36 : decode cX1_add 36 = .ok (.getfield 29, 3) := by decide +kernel
theorem dX1_add_39 : decode cX1_add 39 = .ok (.iconst 1, 1) := by decide +kernel
theorem dX1_add_40 : decode cX1_add 40 = .ok (.isub, 1) := by decide +kernel
theorem dX1_add_41 : decode cX1_add 41 = .ok (.aaload, 1) := by decide +kernel
theorem dX1_add_42 : decode cX1_add 42 = .ok (.invokevirtual 130, 3) := by decide +kernel
theorem dX1_add_45 : decode cX1_add 45 = .ok (.aload_n 0, 1) := by decide +kernel
theorem dX1_add_46 : decode cX1_add 46 = .ok (.invokevirtual 134, 3) := by decide +kernel
theorem dX1_add_49 : decode cX1_add 49 = .ok (.aload_n 0, 1) := by decide +kernel
theorem dX1_add_50 : decode cX1_add 50 = .ok (.getfield 26, 3) := by decide +kernel
theorem dX1_add_53 : decode cX1_add 53 = .ok (.aload_n 0, 1) := by decide +kernel
theorem dX1_add_54 : decode cX1_add 54 = .ok (.getfield 29, 3) := by decide +kernel
theorem dX1_add_57 : decode cX1_add 57 = .ok (.iconst 2, 1) := by decide +kernel
theorem dX1_add_58 : decode cX1_add 58 = .ok (.isub, 1) := by decide +kernel
theorem dX1_add_59 : decode cX1_add 59 = .ok (.aaload, 1) := by decide +kernel
theorem dX1_add_60 : decode cX1_add 60 = .ok (.aload_n 0, 1) := by decide +kernel
theorem dX1_add_61 : decode cX1_add 61 = .ok (.getfield 33, 3) := by decide +kernel
theorem dX1_add_64 : decode cX1_add 64 = .ok (.invokevirtual 122, 3) := by decide +kernel
theorem dX1_add_67 : decode cX1_add 67 = .ok (.aload_n 0, 1) := by decide +kernel
theorem dX1_add_68 : decode cX1_add 68 = .ok (.dup, 1) := by decide +kernel
theorem dX1_add_69 : decode cX1_add 69 = .ok (.getfield 29, 3) := by decide +kernel
theorem dX1_add_72 : decode cX1_add 72 = .ok (.iconst 1, 1) := by decide +kernel
theorem dX1_add_73 : decode cX1_add 73 = .ok (.isub, 1) := by decide +kernel
theorem dX1_add_74 : decode cX1_add 74 = .ok (.putfield 29, 3) := by decide +kernel
theorem dX1_add_77 : decode cX1_add 77 = .ok (.return_, 1) := by decide +kernel
set_option maxRecDepth 20000 in
theorem ggX1_times_X1_refuseEmptyStack : GoodIn wsX1_times wsX1_refuseEmptyStack := goodIn_ca (goodIn_r _ [10, 11, 12, 5, 50, 51, 52, 53, 54, 55, 56, 57, 58, 59, 60, 61] (by decide +kernel) (by decide +kernel)) (goodIn_sub (fun _ h => List.mem_cons_of_mem _ (List.mem_append_left _ (List.mem_append_right _ h))) (by decide +kernel))
set_option maxRecDepth 20000 in
theorem gX1_times_X1_refuseEmptyStack : GoodIn wsX1_times (wsV RX1 137 RX1 yX1_refuseEmptyStack wsX1_refuseEmptyStack) := goodIn_app (goodIn_of _ (by decide +kernel)) ggX1_times_X1_refuseEmptyStack
set_option maxRecDepth 20000 in
theorem ggX1_times_X1_isWithin : GoodIn wsX1_times wsX1_isWithin := goodIn_r _ [15] (by decide +kernel) (by decide +kernel)
set_option maxRecDepth 20000 in
theorem gX1_times_X1_isWithin : GoodIn wsX1_times (va_wsS RX1 57 yX1_isWithin wsX1_isWithin) := goodIn_app (goodIn_of _ (by decide +kernel)) ggX1_times_X1_isWithin
set_option maxRecDepth 20000 in
theorem ggX1_times_X0_becomeMultiple : GoodIn wsX1_times wsX0_becomeMultiple := goodIn_r _ [20, 21, 22, 62, 63, 64] (by decide +kernel) (by decide +kernel)
set_option maxRecDepth 20000 in
theorem gX1_times_X0_becomeMultiple : GoodIn wsX1_times (wsV RX1 140 RX0 yX0_becomeMultiple wsX0_becomeMultiple) := goodIn_app (goodIn_of _ (by decide +kernel)) ggX1_times_X0_becomeMultiple
set_option maxRecDepth 20000 in
theorem ggX1_times_X1_refuseTooLargeScratch : GoodIn wsX1_times wsX1_refuseTooLargeScratch := goodIn_ca (goodIn_r _ [26, 27, 28, 3, 29, 30, 31, 19, 32, 33, 22, 34, 35, 36, 37, 21, 38, 39, 40, 41, 50, 51, 52, 53, 54, 55, 56, 57, 58, 59, 60, 61, 62, 63, 64] (by decide +kernel) (by decide +kernel)) (goodIn_sub (fun _ h => List.mem_cons_of_mem _ (List.mem_append_right _ h)) (by decide +kernel))
set_option maxRecDepth 20000 in
theorem gX1_times_X1_refuseTooLargeScratch : GoodIn wsX1_times (wsV RX1 134 RX1 yX1_refuseTooLargeScratch wsX1_refuseTooLargeScratch) := goodIn_app (goodIn_of _ (by decide +kernel)) ggX1_times_X1_refuseTooLargeScratch
set_option maxRecDepth 20000 in
theorem ggX1_times_X0_become : GoodIn wsX1_times wsX0_become := goodIn_r _ [45, 21, 46, 47, 48, 49, 22, 62, 63, 64] (by decide +kernel) (by decide +kernel)
set_option maxRecDepth 20000 in
theorem gX1_times_X0_become : GoodIn wsX1_times (wsV RX1 122 RX0 yX0_become wsX0_become) := goodIn_app (goodIn_of _ (by decide +kernel)) ggX1_times_X0_become
theorem dX1_times_0 : decode cX1_times 0 = .ok (.aload_n 0, 1) := by decide +kernel
theorem dX1_times_1 : decode cX1_times 1 = .ok (.invokevirtual 137, 3) := by decide +kernel
theorem dX1_times_4 : decode cX1_times 4 = .ok (.iload_n 1, 1) := by decide +kernel
theorem dX1_times_5 : decode cX1_times 5 = .ok (.iconst 1, 1) := by decide +kernel
theorem dX1_times_6 : decode cX1_times 6 = .ok (.sipush 1000, 3) := by decide +kernel
theorem dX1_times_9 : decode cX1_times 9 = .ok (.invokestatic 57, 3) := by decide +kernel
theorem dX1_times_12 : decode cX1_times 12 = .ok (.ifCond .ne 11, 3) := by decide +kernel
theorem dX1_times_15 : decode cX1_times 15 = .ok (.new 61, 3) := by decide +kernel
theorem dX1_times_18 : decode cX1_times 18 = .ok (.dup, 1) := by decide +kernel
theorem dX1_times_19 : decode cX1_times 19 = .ok (.invokespecial 63, 3) := by decide +kernel
theorem dX1_times_22 : decode cX1_times 22 = .ok (.athrow, 1) := by decide +kernel
theorem dX1_times_23 : decode cX1_times 23 = .ok (.aload_n 0, 1) := by decide +kernel
theorem dX1_times_24 : decode cX1_times 24 = .ok (.getfield 33, 3) := by decide +kernel
theorem dX1_times_27 : decode cX1_times 27 = .ok (.aload_n 0, 1) := by decide +kernel
theorem dX1_times_28 : decode cX1_times 28 = .ok (.getfield 26, 3) := by decide +kernel
theorem dX1_times_31 : decode cX1_times 31 = .ok (.aload_n 0, 1) := by decide +kernel
theorem dX1_times_32 : decode cX1_times 32 = .ok (.getfield 29, 3) := by decide +kernel
theorem dX1_times_35 : decode cX1_times 35 = .ok (.iconst 1, 1) := by decide +kernel
theorem dX1_times_36 : decode cX1_times 36 = .ok (.isub, 1) := by decide +kernel
theorem dX1_times_37 : decode cX1_times 37 = .ok (.aaload, 1) := by decide +kernel
theorem dX1_times_38 : decode cX1_times 38 = .ok (.iload_n 1, 1) := by decide +kernel
theorem dX1_times_39 : decode cX1_times 39 = .ok (.invokevirtual 140, 3) := by decide +kernel
theorem dX1_times_42 : decode cX1_times 42 = .ok (.aload_n 0, 1) := by decide +kernel
theorem dX1_times_43 : decode cX1_times 43 = .ok (.invokevirtual 134, 3) := by decide +kernel
theorem dX1_times_46 : decode cX1_times 46 = .ok (.aload_n 0, 1) := by decide +kernel
theorem dX1_times_47 : decode cX1_times 47 = .ok (.getfield 26, 3) := by decide +kernel
theorem dX1_times_50 : decode cX1_times 50 = .ok (.aload_n 0, 1) := by decide +kernel
theorem dX1_times_51 : decode cX1_times 51 = .ok (.getfield 29, 3) := by decide +kernel
theorem dX1_times_54 : decode cX1_times 54 = .ok (.iconst 1, 1) := by decide +kernel
theorem dX1_times_55 : decode cX1_times 55 = .ok (.isub, 1) := by decide +kernel
theorem dX1_times_56 : decode cX1_times 56 = .ok (.aaload, 1) := by decide +kernel
theorem dX1_times_57 : decode cX1_times 57 = .ok (.aload_n 0, 1) := by decide +kernel
theorem dX1_times_58 : decode cX1_times 58 = .ok (.getfield 33, 3) := by decide +kernel
theorem dX1_times_61 : decode cX1_times 61 = .ok (.invokevirtual 122, 3) := by decide +kernel
theorem dX1_times_64 : decode cX1_times 64 = .ok (.return_, 1) := by decide +kernel
set_option maxRecDepth 20000 in
theorem ggX1_divide_X1_refuseEmptyStack : GoodIn wsX1_divide wsX1_refuseEmptyStack := goodIn_ca (goodIn_r _ [10, 11, 12, 5, 38, 39, 40, 41, 42, 43, 44, 45, 46, 47, 48, 49] (by decide +kernel) (by decide +kernel)) (goodIn_sub (fun _ h => List.mem_cons_of_mem _ (List.mem_append_right _ h)) (by decide +kernel))
set_option maxRecDepth 20000 in
theorem gX1_divide_X1_refuseEmptyStack : GoodIn wsX1_divide (wsV RX1 137 RX1 yX1_refuseEmptyStack wsX1_refuseEmptyStack) := goodIn_app (goodIn_of _ (by decide +kernel)) ggX1_divide_X1_refuseEmptyStack
set_option maxRecDepth 20000 in
theorem ggX1_divide_X1_isWithin : GoodIn wsX1_divide wsX1_isWithin := goodIn_r _ [15] (by decide +kernel) (by decide +kernel)
set_option maxRecDepth 20000 in
theorem gX1_divide_X1_isWithin : GoodIn wsX1_divide (va_wsS RX1 57 yX1_isWithin wsX1_isWithin) := goodIn_app (goodIn_of _ (by decide +kernel)) ggX1_divide_X1_isWithin
set_option maxRecDepth 20000 in
theorem ggX1_divide_X0_divideRoundingUp : GoodIn wsX1_divide wsX0_divideRoundingUp := goodIn_r _ [20, 21, 22, 23, 24, 19, 25, 26, 27, 28, 29, 30, 31, 32, 33, 34, 35, 36, 37, 50, 51, 52] (by decide +kernel) (by decide +kernel)
set_option maxRecDepth 20000 in
theorem gX1_divide_X0_divideRoundingUp : GoodIn wsX1_divide (wsV RX1 145 RX0 yX0_divideRoundingUp wsX0_divideRoundingUp) := goodIn_app (goodIn_of _ (by decide +kernel)) ggX1_divide_X0_divideRoundingUp
theorem dX1_divide_0 : decode cX1_divide 0 = .ok (.aload_n 0, 1) := by decide +kernel
theorem dX1_divide_1 : decode cX1_divide 1 = .ok (.invokevirtual 137, 3) := by decide +kernel
theorem dX1_divide_4 : decode cX1_divide 4 = .ok (.iload_n 1, 1) := by decide +kernel
theorem dX1_divide_5 : decode cX1_divide 5 = .ok (.iconst 1, 1) := by decide +kernel
theorem dX1_divide_6 : decode cX1_divide 6 = .ok (.ldc 144, 2) := by decide +kernel
theorem dX1_divide_8 : decode cX1_divide 8 = .ok (.invokestatic 57, 3) := by decide +kernel
theorem dX1_divide_11 : decode cX1_divide 11 = .ok (.ifCond .ne 11, 3) := by decide +kernel
theorem dX1_divide_14 : decode cX1_divide 14 = .ok (.new 61, 3) := by decide +kernel
theorem dX1_divide_17 : decode cX1_divide 17 = .ok (.dup, 1) := by decide +kernel
theorem dX1_divide_18 : decode cX1_divide 18 = .ok (.invokespecial 63, 3) := by decide +kernel
theorem dX1_divide_21 : decode cX1_divide 21 = .ok (.athrow, 1) := by decide +kernel
theorem dX1_divide_22 : decode cX1_divide 22 = .ok (.aload_n 0, 1) := by decide +kernel
theorem dX1_divide_23 : decode cX1_divide 23 = .ok (.getfield 26, 3) := by decide +kernel
theorem dX1_divide_26 : decode cX1_divide 26 = .ok (.aload_n 0, 1) := by decide +kernel
theorem dX1_divide_27 : decode cX1_divide 27 = .ok (.getfield 29, 3) := by decide +kernel
theorem dX1_divide_30 : decode cX1_divide 30 = .ok (.iconst 1, 1) := by decide +kernel
theorem dX1_divide_31 : decode cX1_divide 31 = .ok (.isub, 1) := by decide +kernel
theorem dX1_divide_32 : decode cX1_divide 32 = .ok (.aaload, 1) := by decide +kernel
theorem dX1_divide_33 : decode cX1_divide 33 = .ok (.iload_n 1, 1) := by decide +kernel
theorem dX1_divide_34 : decode cX1_divide 34 = .ok (.invokevirtual 145, 3) := by decide +kernel
theorem dX1_divide_37 : decode cX1_divide 37 = .ok (.return_, 1) := by decide +kernel
set_option maxRecDepth 20000 in
theorem ggX1_saturate_X1_refuseEmptyStack : GoodIn wsX1_saturate wsX1_refuseEmptyStack := goodIn_ca (goodIn_r _ [7, 8, 9, 2, 32, 33, 34, 35, 36, 37, 38, 39, 40, 41, 42, 43] (by decide +kernel) (by decide +kernel)) (goodIn_sub (fun _ h => List.mem_cons_of_mem _ (List.mem_append_right _ h)) (by decide +kernel))
set_option maxRecDepth 20000 in
theorem gX1_saturate_X1_refuseEmptyStack : GoodIn wsX1_saturate (wsV RX1 137 RX1 yX1_refuseEmptyStack wsX1_refuseEmptyStack) := goodIn_app (goodIn_of _ (by decide +kernel)) ggX1_saturate_X1_refuseEmptyStack
set_option maxRecDepth 20000 in
theorem ggX1_saturate_X0_limitSizesToDegree : GoodIn wsX1_saturate wsX0_limitSizesToDegree := goodIn_r _ [14, 15, 16, 17, 18, 19, 20, 21, 22, 13, 23, 24, 25, 26, 27, 28, 29, 30, 31, 44, 45, 46] (by decide +kernel) (by decide +kernel)
set_option maxRecDepth 20000 in
theorem gX1_saturate_X0_limitSizesToDegree : GoodIn wsX1_saturate (wsV RX1 149 RX0 yX0_limitSizesToDegree wsX0_limitSizesToDegree) := goodIn_app (goodIn_of _ (by decide +kernel)) ggX1_saturate_X0_limitSizesToDegree
theorem dX1_saturate_0 : decode cX1_saturate 0 = .ok (.aload_n 0, 1) := by decide +kernel
theorem dX1_saturate_1 : decode cX1_saturate 1 = .ok (.invokevirtual 137, 3) := by decide +kernel
theorem dX1_saturate_4 : decode cX1_saturate 4 = .ok (.aload_n 0, 1) := by decide +kernel
theorem dX1_saturate_5 : decode cX1_saturate 5 = .ok (.getfield 26, 3) := by decide +kernel
theorem dX1_saturate_8 : decode cX1_saturate 8 = .ok (.aload_n 0, 1) := by decide +kernel
theorem dX1_saturate_9 : decode cX1_saturate 9 = .ok (.getfield 29, 3) := by decide +kernel
theorem dX1_saturate_12 : decode cX1_saturate 12 = .ok (.iconst 1, 1) := by decide +kernel
theorem dX1_saturate_13 : decode cX1_saturate 13 = .ok (.isub, 1) := by decide +kernel
theorem dX1_saturate_14 : decode cX1_saturate 14 = .ok (.aaload, 1) := by decide +kernel
theorem dX1_saturate_15 : decode cX1_saturate 15 = .ok (.invokevirtual 149, 3) := by decide +kernel
theorem dX1_saturate_18 : decode cX1_saturate 18 = .ok (.return_, 1) := by decide +kernel
set_option maxRecDepth 20000 in
theorem ggX1_weaken_X1_refuseEmptyStack : GoodIn wsX1_weaken wsX1_refuseEmptyStack := goodIn_ca (goodIn_r _ [9, 10, 11, 4, 36, 37, 38, 39, 40, 41, 42, 43, 44, 45, 46, 47] (by decide +kernel) (by decide +kernel)) (goodIn_sub (fun _ h => List.mem_cons_of_mem _ (List.mem_append_right _ h)) (by decide +kernel))
set_option maxRecDepth 20000 in
theorem gX1_weaken_X1_refuseEmptyStack : GoodIn wsX1_weaken (wsV RX1 137 RX1 yX1_refuseEmptyStack wsX1_refuseEmptyStack) := goodIn_app (goodIn_of _ (by decide +kernel)) ggX1_weaken_X1_refuseEmptyStack
set_option maxRecDepth 20000 in
theorem ggX1_weaken_X1_isVariable : GoodIn wsX1_weaken wsX1_isVariable := goodIn_r _ [14, 15, 16, 8, 17] (by decide +kernel) (by decide +kernel)
set_option maxRecDepth 20000 in
theorem gX1_weaken_X1_isVariable : GoodIn wsX1_weaken (va_wsS RX1 53 yX1_isVariable wsX1_isVariable) := goodIn_app (goodIn_of _ (by decide +kernel)) ggX1_weaken_X1_isVariable
set_option maxRecDepth 20000 in
theorem ggX1_weaken_X0_giveUp : GoodIn wsX1_weaken wsX0_giveUp := goodIn_r _ [22, 23, 24, 25, 26, 27, 28, 29, 30, 31, 21, 32, 33, 34, 35, 48, 49, 50] (by decide +kernel) (by decide +kernel)
set_option maxRecDepth 20000 in
theorem gX1_weaken_X0_giveUp : GoodIn wsX1_weaken (wsV RX1 152 RX0 yX0_giveUp wsX0_giveUp) := goodIn_app (goodIn_of _ (by decide +kernel)) ggX1_weaken_X0_giveUp
theorem dX1_weaken_0 : decode cX1_weaken 0 = .ok (.aload_n 0, 1) := by decide +kernel
theorem dX1_weaken_1 : decode cX1_weaken 1 = .ok (.invokevirtual 137, 3) := by decide +kernel
theorem dX1_weaken_4 : decode cX1_weaken 4 = .ok (.iload_n 1, 1) := by decide +kernel
theorem dX1_weaken_5 : decode cX1_weaken 5 = .ok (.invokestatic 53, 3) := by decide +kernel
theorem dX1_weaken_8 : decode cX1_weaken 8 = .ok (.ifCond .ne 11, 3) := by decide +kernel
theorem dX1_weaken_11 : decode cX1_weaken 11 = .ok (.new 99, 3) := by decide +kernel
theorem dX1_weaken_14 : decode cX1_weaken 14 = .ok (.dup, 1) := by decide +kernel
theorem dX1_weaken_15 : decode cX1_weaken 15 = .ok (.invokespecial 101, 3) := by decide +kernel
theorem dX1_weaken_18 : decode cX1_weaken 18 = .ok (.athrow, 1) := by decide +kernel
theorem dX1_weaken_19 : decode cX1_weaken 19 = .ok (.aload_n 0, 1) := by decide +kernel
theorem dX1_weaken_20 : decode cX1_weaken 20 = .ok (.getfield 26, 3) := by decide +kernel
theorem dX1_weaken_23 : decode cX1_weaken 23 = .ok (.aload_n 0, 1) := by decide +kernel
theorem dX1_weaken_24 : decode cX1_weaken 24 = .ok (.getfield 29, 3) := by decide +kernel
theorem dX1_weaken_27 : decode cX1_weaken 27 = .ok (.iconst 1, 1) := by decide +kernel
theorem dX1_weaken_28 : decode cX1_weaken 28 = .ok (.isub, 1) := by decide +kernel
theorem dX1_weaken_29 : decode cX1_weaken 29 = .ok (.aaload, 1) := by decide +kernel
theorem dX1_weaken_30 : decode cX1_weaken 30 = .ok (.iload_n 1, 1) := by decide +kernel
theorem dX1_weaken_31 : decode cX1_weaken 31 = .ok (.invokevirtual 152, 3) := by decide +kernel
theorem dX1_weaken_34 : decode cX1_weaken 34 = .ok (.return_, 1) := by decide +kernel
set_option maxRecDepth 20000 in
theorem ggX1_drop_X1_refuseEmptyStack : GoodIn wsX1_drop wsX1_refuseEmptyStack := goodIn_ca (goodIn_r _ [6, 7, 8, 1, 9, 10, 11, 12, 13, 14, 15, 16, 17, 18, 19, 20] (by decide +kernel) (by decide +kernel)) (goodIn_sub (fun _ h => List.mem_cons_of_mem _ (List.mem_append_right _ h)) (by decide +kernel))
set_option maxRecDepth 20000 in
theorem gX1_drop_X1_refuseEmptyStack : GoodIn wsX1_drop (wsV RX1 137 RX1 yX1_refuseEmptyStack wsX1_refuseEmptyStack) := goodIn_app (goodIn_of _ (by decide +kernel)) ggX1_drop_X1_refuseEmptyStack
theorem dX1_drop_0 : decode cX1_drop 0 = .ok (.aload_n 0, 1) := by decide +kernel
theorem dX1_drop_1 : decode cX1_drop 1 = .ok (.invokevirtual 137, 3) := by decide +kernel
theorem dX1_drop_4 : decode cX1_drop 4 = .ok (.aload_n 0, 1) := by decide +kernel
theorem dX1_drop_5 : decode cX1_drop 5 = .ok (.dup, 1) := by decide +kernel
theorem dX1_drop_6 : decode cX1_drop 6 = .ok (.getfield 29, 3) := by decide +kernel
theorem dX1_drop_9 : decode cX1_drop 9 = .ok (.iconst 1, 1) := by decide +kernel
theorem dX1_drop_10 : decode cX1_drop 10 = .ok (.isub, 1) := by decide +kernel
theorem dX1_drop_11 : decode cX1_drop 11 = .ok (.putfield 29, 3) := by decide +kernel
theorem dX1_drop_14 : decode cX1_drop 14 = .ok (.return_, 1) := by decide +kernel
set_option maxRecDepth 20000 in
theorem ggX1_top_X1_isQuestion : GoodIn wsX1_top wsX1_isQuestion := goodIn_r _ [8, 9, 10, 7, 11] (by decide +kernel) (by decide +kernel)
set_option maxRecDepth 20000 in
theorem gX1_top_X1_isQuestion : GoodIn wsX1_top (va_wsS RX1 102 yX1_isQuestion wsX1_isQuestion) := goodIn_app (goodIn_of _ (by decide +kernel)) ggX1_top_X1_isQuestion
set_option maxRecDepth 20000 in
theorem ggX1_top_X1_refuseEmptyStack : GoodIn wsX1_top wsX1_refuseEmptyStack := goodIn_ca (goodIn_r _ [15, 16, 17, 3, 25, 26, 27, 28, 29, 30, 31, 32, 33, 34, 35, 36] (by decide +kernel) (by decide +kernel)) (goodIn_sub (fun _ h => List.mem_cons_of_mem _ (List.mem_append_right _ h)) (by decide +kernel))
set_option maxRecDepth 20000 in
theorem gX1_top_X1_refuseEmptyStack : GoodIn wsX1_top (wsV RX1 137 RX1 yX1_refuseEmptyStack wsX1_refuseEmptyStack) := goodIn_app (goodIn_of _ (by decide +kernel)) ggX1_top_X1_refuseEmptyStack
set_option maxRecDepth 20000 in
theorem ggX1_top_X0_weightOrDegree : GoodIn wsX1_top wsX0_weightOrDegree := goodIn_r _ [22, 23, 24, 37, 38, 39] (by decide +kernel) (by decide +kernel)
set_option maxRecDepth 20000 in
theorem gX1_top_X0_weightOrDegree : GoodIn wsX1_top (wsV RX1 108 RX0 yX0_weightOrDegree wsX0_weightOrDegree) := goodIn_app (goodIn_of _ (by decide +kernel)) ggX1_top_X0_weightOrDegree
theorem dX1_top_0 : decode cX1_top 0 = .ok (.iload_n 1, 1) := by decide +kernel
theorem dX1_top_1 : decode cX1_top 1 = .ok (.invokestatic 102, 3) := by decide +kernel
theorem dX1_top_4 : decode cX1_top 4 = .ok (.ifCond .ne 11, 3) := by decide +kernel
theorem dX1_top_7 : decode cX1_top 7 = .ok (.new 61, 3) := by decide +kernel
theorem dX1_top_10 : decode cX1_top 10 = .ok (.dup, 1) := by decide +kernel
theorem dX1_top_11 : decode cX1_top 11 = .ok (.invokespecial 63, 3) := by decide +kernel
theorem dX1_top_14 : decode cX1_top 14 = .ok (.athrow, 1) := by decide +kernel
theorem dX1_top_15 : decode cX1_top 15 = .ok (.iload_n 1, 1) := by decide +kernel
theorem dX1_top_16 : decode cX1_top 16 = .ok (.bipush (-2), 2) := by decide +kernel
theorem dX1_top_18 : decode cX1_top 18 = .ok (.if_icmp .ne 8, 3) := by decide +kernel
theorem dX1_top_21 : decode cX1_top 21 = .ok (.aload_n 0, 1) := by decide +kernel
theorem dX1_top_22 : decode cX1_top 22 = .ok (.getfield 29, 3) := by decide +kernel
theorem dX1_top_25 : decode cX1_top 25 = .ok (.ireturn, 1) := by decide +kernel
theorem dX1_top_26 : decode cX1_top 26 = .ok (.aload_n 0, 1) := by decide +kernel
theorem dX1_top_27 : decode cX1_top 27 = .ok (.invokevirtual 137, 3) := by decide +kernel
theorem dX1_top_30 : decode cX1_top 30 = .ok (.aload_n 0, 1) := by decide +kernel
theorem dX1_top_31 : decode cX1_top 31 = .ok (.getfield 26, 3) := by decide +kernel
theorem dX1_top_34 : decode cX1_top 34 = .ok (.aload_n 0, 1) := by decide +kernel
theorem dX1_top_35 : decode cX1_top 35 = .ok (.getfield 29, 3) := by decide +kernel
theorem dX1_top_38 : decode cX1_top 38 = .ok (.iconst 1, 1) := by decide +kernel
theorem dX1_top_39 : decode cX1_top 39 = .ok (.isub, 1) := by decide +kernel
theorem dX1_top_40 : decode cX1_top 40 = .ok (.aaload, 1) := by decide +kernel
theorem dX1_top_41 : decode cX1_top 41 = .ok (.iload_n 1, 1) := by decide +kernel
theorem dX1_top_42 : decode cX1_top 42 = .ok (.invokevirtual 108, 3) := by decide +kernel
theorem dX1_top_45 : decode cX1_top 45 = .ok (.ireturn, 1) := by decide +kernel
set_option maxRecDepth 20000 in
theorem ggX1_learn_X1_refuseEmptyStack : GoodIn wsX1_learn wsX1_refuseEmptyStack := goodIn_ca (goodIn_r _ [9, 10, 11, 1, 35, 36, 37, 38, 39, 40, 41, 42, 43, 44, 45, 46] (by decide +kernel) (by decide +kernel)) (goodIn_sub (fun _ h => List.mem_cons_of_mem _ (List.mem_append_right _ h)) (by decide +kernel))
set_option maxRecDepth 20000 in
theorem gX1_learn_X1_refuseEmptyStack : GoodIn wsX1_learn (wsV RX1 137 RX1 yX1_refuseEmptyStack wsX1_refuseEmptyStack) := goodIn_app (goodIn_of _ (by decide +kernel)) ggX1_learn_X1_refuseEmptyStack
set_option maxRecDepth 20000 in
theorem ggX1_learn_X1_refuseFullStore : GoodIn wsX1_learn wsX1_refuseFullStore := goodIn_ca (goodIn_r _ [15, 10, 11, 16, 17, 18, 8, 19, 3, 35, 36, 37, 38, 39, 40, 41, 42, 43, 44, 45, 46] (by decide +kernel) (by decide +kernel)) (goodIn_sub (fun _ h => List.mem_cons_of_mem _ (List.mem_append_right _ h)) (by decide +kernel))
set_option maxRecDepth 20000 in
theorem gX1_learn_X1_refuseFullStore : GoodIn wsX1_learn (wsV RX1 155 RX1 yX1_refuseFullStore wsX1_refuseFullStore) := goodIn_app (goodIn_of _ (by decide +kernel)) ggX1_learn_X1_refuseFullStore
set_option maxRecDepth 20000 in
theorem ggX1_learn_X0_become : GoodIn wsX1_learn wsX0_become := goodIn_r _ [24, 25, 26, 27, 28, 29, 30, 47, 48, 49] (by decide +kernel) (by decide +kernel)
set_option maxRecDepth 20000 in
theorem gX1_learn_X0_become : GoodIn wsX1_learn (wsV RX1 122 RX0 yX0_become wsX0_become) := goodIn_app (goodIn_of _ (by decide +kernel)) ggX1_learn_X0_become
set_option maxRecDepth 20000 in
theorem ggX1_learn_X1_keepNext : GoodIn wsX1_learn wsX1_keepNext := goodIn_r _ [34, 2, 3, 35, 36, 37, 38, 39, 40, 41, 42, 43, 44, 45, 46, 47, 48, 49] (by decide +kernel) (by decide +kernel)
set_option maxRecDepth 20000 in
theorem gX1_learn_X1_keepNext : GoodIn wsX1_learn (wsV RX1 86 RX1 yX1_keepNext wsX1_keepNext) := goodIn_app (goodIn_of _ (by decide +kernel)) ggX1_learn_X1_keepNext
theorem dX1_learn_0 : decode cX1_learn 0 = .ok (.aload_n 0, 1) := by decide +kernel
theorem dX1_learn_1 : decode cX1_learn 1 = .ok (.invokevirtual 137, 3) := by decide +kernel
theorem dX1_learn_4 : decode cX1_learn 4 = .ok (.aload_n 0, 1) := by decide +kernel
theorem dX1_learn_5 : decode cX1_learn 5 = .ok (.invokevirtual 155, 3) := by decide +kernel
theorem dX1_learn_8 : decode cX1_learn 8 = .ok (.aload_n 0, 1) := by decide +kernel
theorem dX1_learn_9 : decode cX1_learn 9 = .ok (.dup, 1) := by decide +kernel
theorem dX1_learn_10 : decode cX1_learn 10 = .ok (.getfield 29, 3) := by decide +kernel
theorem dX1_learn_13 : decode cX1_learn 13 = .ok (.iconst 1, 1) := by decide +kernel
theorem dX1_learn_14 : decode cX1_learn 14 = .ok (.isub, 1) := by decide +kernel
theorem dX1_learn_15 : decode cX1_learn 15 = .ok (.putfield 29, 3) := by decide +kernel
theorem dX1_learn_18 : decode cX1_learn 18 = .ok (.aload_n 0, 1) := by decide +kernel
theorem dX1_learn_19 : decode cX1_learn 19 = .ok (.getfield 18, 3) := by decide +kernel
theorem dX1_learn_22 : decode cX1_learn 22 = .ok (.aload_n 0, 1) := by decide +kernel
theorem dX1_learn_23 : decode cX1_learn 23 = .ok (.getfield 22, 3) := by decide +kernel
theorem dX1_learn_26 : decode cX1_learn 26 = .ok (.aaload, 1) := by decide +kernel
theorem dX1_learn_27 : decode cX1_learn 27 = .ok (.aload_n 0, 1) := by decide +kernel
theorem dX1_learn_28 : decode cX1_learn 28 = .ok (.getfield 26, 3) := by decide +kernel
theorem dX1_learn_31 : decode cX1_learn 31 = .ok (.aload_n 0, 1) := by decide +kernel
theorem dX1_learn_32 : decode cX1_learn 32 = .ok (.getfield 29, 3) := by decide +kernel
theorem dX1_learn_35 : decode cX1_learn 35 = .ok (.aaload, 1) := by decide +kernel
theorem dX1_learn_36 : decode cX1_learn 36 = .ok (.invokevirtual 122, 3) := by decide +kernel
theorem dX1_learn_39 : decode cX1_learn 39 = .ok (.aload_n 0, 1) := by decide +kernel
theorem dX1_learn_40 : decode cX1_learn 40 = .ok (.iconst 0, 1) := by decide +kernel
theorem dX1_learn_41 : decode cX1_learn 41 = .ok (.invokevirtual 86, 3) := by decide +kernel
theorem dX1_learn_44 : decode cX1_learn 44 = .ok (.ireturn, 1) := by decide +kernel
set_option maxRecDepth 20000 in
theorem ggX1_contradict_X1_isWithin : GoodIn wsX1_contradict wsX1_isWithin := goodIn_r _ [9] (by decide +kernel) (by decide +kernel)
set_option maxRecDepth 20000 in
theorem gX1_contradict_X1_isWithin : GoodIn wsX1_contradict (va_wsS RX1 57 yX1_isWithin wsX1_isWithin) := goodIn_app (goodIn_of _ (by decide +kernel)) ggX1_contradict_X1_isWithin
set_option maxRecDepth 20000 in
theorem ggX1_contradict_X1_refuseFullStore : GoodIn wsX1_contradict wsX1_refuseFullStore := goodIn_ca (goodIn_r _ [13, 14, 15, 16, 17, 18, 8, 19, 4, 80, 81, 82, 83, 84, 85, 86, 87, 88, 89, 90, 91] (by decide +kernel) (by decide +kernel)) (goodIn_sub (fun _ h => List.mem_cons_of_mem _ (List.mem_append_right _ h)) (by decide +kernel))
set_option maxRecDepth 20000 in
theorem gX1_contradict_X1_refuseFullStore : GoodIn wsX1_contradict (wsV RX1 155 RX1 yX1_refuseFullStore wsX1_refuseFullStore) := goodIn_app (goodIn_of _ (by decide +kernel)) ggX1_contradict_X1_refuseFullStore
set_option maxRecDepth 20000 in
theorem ggX1_contradict_X0_becomeAtLeast : GoodIn wsX1_contradict wsX0_becomeAtLeast := goodIn_r _ [24, 25, 26, 27, 23, 28, 29, 30, 31, 32, 33, 34, 35, 36, 37, 38, 39, 40, 41, 92, 93, 94] (by decide +kernel) (by decide +kernel)
set_option maxRecDepth 20000 in
theorem gX1_contradict_X0_becomeAtLeast : GoodIn wsX1_contradict (wsV RX1 77 RX0 yX0_becomeAtLeast wsX0_becomeAtLeast) := goodIn_app (goodIn_of _ (by decide +kernel)) ggX1_contradict_X0_becomeAtLeast
set_option maxRecDepth 20000 in
theorem ggX1_contradict_X0_turnToContrary : GoodIn wsX1_contradict wsX0_turnToContrary := goodIn_r _ [45, 34, 30, 31, 32, 33, 29, 46, 47, 48, 23, 49, 35, 36, 37, 38, 39, 40, 41, 92, 93, 94] (by decide +kernel) (by decide +kernel)
set_option maxRecDepth 20000 in
theorem gX1_contradict_X0_turnToContrary : GoodIn wsX1_contradict (wsV RX1 158 RX0 yX0_turnToContrary wsX0_turnToContrary) := goodIn_app (goodIn_of _ (by decide +kernel)) ggX1_contradict_X0_turnToContrary
set_option maxRecDepth 20000 in
theorem ggX1_contradict_X1_closed : GoodIn wsX1_contradict wsX1_closed := goodIn_r _ [53, 3, 54, 55, 56, 23, 57, 58, 59, 60, 61, 34, 62, 8, 63, 64, 65, 66, 67, 29, 35, 36, 37, 38, 39, 40, 32, 41, 80, 81, 82, 83, 84, 85, 86, 87, 88, 89, 90, 91, 92, 93, 94] (by decide +kernel) (by decide +kernel)
set_option maxRecDepth 20000 in
theorem gX1_contradict_X1_closed : GoodIn wsX1_contradict (wsV RX1 115 RX1 yX1_closed wsX1_closed) := goodIn_app (goodIn_of _ (by decide +kernel)) ggX1_contradict_X1_closed
set_option maxRecDepth 20000 in
theorem ggX1_contradict_X1_clear : GoodIn wsX1_contradict wsX1_clear := goodIn_r _ [71, 5, 72, 73, 74, 75, 80, 81, 82, 83, 84, 85, 86, 87, 88, 89, 90, 91] (by decide +kernel) (by decide +kernel)
set_option maxRecDepth 20000 in
theorem gX1_contradict_X1_clear : GoodIn wsX1_contradict (wsV RX1 83 RX1 yX1_clear wsX1_clear) := goodIn_app (goodIn_of _ (by decide +kernel)) ggX1_contradict_X1_clear
set_option maxRecDepth 20000 in
theorem ggX1_contradict_X1_keepNext : GoodIn wsX1_contradict wsX1_keepNext := goodIn_r _ [79, 3, 4, 80, 81, 82, 83, 84, 85, 86, 87, 88, 89, 90, 91, 92, 93, 94] (by decide +kernel) (by decide +kernel)
set_option maxRecDepth 20000 in
theorem gX1_contradict_X1_keepNext : GoodIn wsX1_contradict (wsV RX1 86 RX1 yX1_keepNext wsX1_keepNext) := goodIn_app (goodIn_of _ (by decide +kernel)) ggX1_contradict_X1_keepNext
theorem dX1_contradict_0 : decode cX1_contradict 0 = .ok (.iload_n 1, 1) := by decide +kernel
theorem dX1_contradict_1 : decode cX1_contradict 1 = .ok (.sipush (-9999), 3) := by decide +kernel
theorem dX1_contradict_4 : decode cX1_contradict 4 = .ok (.sipush 9999, 3) := by decide +kernel
theorem dX1_contradict_7 : decode cX1_contradict 7 = .ok (.invokestatic 57, 3) := by decide +kernel
theorem dX1_contradict_10 : decode cX1_contradict 10 = .ok (.ifCond .ne 11, 3) := by decide +kernel
theorem dX1_contradict_13 : decode cX1_contradict 13 = .ok (.new 61, 3) := by decide +kernel
theorem dX1_contradict_16 : decode cX1_contradict 16 = .ok (.dup, 1) := by decide +kernel
theorem dX1_contradict_17 : decode cX1_contradict 17 = .ok (.invokespecial 63, 3) := by decide +kernel
theorem dX1_contradict_20 : decode cX1_contradict 20 = .ok (.athrow, 1) := by decide +kernel
theorem dX1_contradict_21 : decode cX1_contradict 21 = .ok (.aload_n 0, 1) := by decide +kernel
theorem dX1_contradict_22 : decode cX1_contradict 22 = .ok (.invokevirtual 155, 3) := by decide +kernel
theorem dX1_contradict_25 : decode cX1_contradict 25 = .ok (.aload_n 0, 1) := by decide +kernel
theorem dX1_contradict_26 : decode cX1_contradict 26 = .ok (.getfield 18, 3) := by decide +kernel
theorem dX1_contradict_29 : decode cX1_contradict 29 = .ok (.aload_n 0, 1) := by decide +kernel
theorem dX1_contradict_30 : decode cX1_contradict 30 = .ok (.getfield 22, 3) := by decide +kernel
theorem dX1_contradict_33 : decode cX1_contradict 33 = .ok (.aaload, 1) := by decide +kernel
theorem dX1_contradict_34 : decode cX1_contradict 34 = .ok (.aload_n 0, 1) := by decide +kernel
theorem dX1_contradict_35 : decode cX1_contradict 35 = .ok (.getfield 9, 3) := by decide +kernel
theorem dX1_contradict_38 : decode cX1_contradict 38 = .ok (.iload_n 1, 1) := by decide +kernel
theorem dX1_contradict_39 : decode cX1_contradict 39 = .ok (.invokevirtual 77, 3) := by decide +kernel
theorem dX1_contradict_42 : decode cX1_contradict 42 = .ok (.aload_n 0, 1) := by decide +kernel
theorem dX1_contradict_43 : decode cX1_contradict 43 = .ok (.getfield 18, 3) := by decide +kernel
theorem dX1_contradict_46 : decode cX1_contradict 46 = .ok (.aload_n 0, 1) := by decide +kernel
theorem dX1_contradict_47 : decode cX1_contradict 47 = .ok (.getfield 22, 3) := by decide +kernel
theorem dX1_contradict_50 : decode cX1_contradict 50 = .ok (.aaload, 1) := by decide +kernel
theorem dX1_contradict_51 : decode cX1_contradict 51 = .ok (.invokevirtual 158, 3) := by decide +kernel
theorem dX1_contradict_54 : decode cX1_contradict 54 = .ok (.aload_n 0, 1) := by decide +kernel
theorem dX1_contradict_55 : decode cX1_contradict 55 = .ok (.iconst 0, 1) := by decide +kernel
theorem dX1_contradict_56 : decode cX1_contradict 56 = .ok (.aload_n 0, 1) := by decide +kernel
theorem dX1_contradict_57 : decode cX1_contradict 57 = .ok (.getfield 22, 3) := by decide +kernel
theorem dX1_contradict_60 : decode cX1_contradict 60 = .ok (.iconst 1, 1) := by decide +kernel
theorem dX1_contradict_61 : decode cX1_contradict 61 = .ok (.iadd, 1) := by decide +kernel
theorem dX1_contradict_62 : decode cX1_contradict 62 = .ok (.invokevirtual 115, 3) := by decide +kernel
theorem dX1_contradict_65 : decode cX1_contradict 65 = .ok (.iconst (-1), 1) := by decide +kernel
theorem dX1_contradict_66 : decode cX1_contradict 66 = .ok (.if_icmp .eq 5, 3) := by decide +kernel
theorem dX1_contradict_69 : decode cX1_contradict 69 = .ok (.iconst (-1), 1) := by decide +kernel
theorem dX1_contradict_70 : decode cX1_contradict 70 = .ok (.ireturn, 1) := by decide +kernel
theorem dX1_contradict_71 : decode cX1_contradict 71 = .ok (.aload_n 0, 1) := by decide +kernel
theorem dX1_contradict_72 : decode cX1_contradict 72 = .ok (.getfield 18, 3) := by decide +kernel
theorem dX1_contradict_75 : decode cX1_contradict 75 = .ok (.aload_n 0, 1) := by decide +kernel
theorem dX1_contradict_76 : decode cX1_contradict 76 = .ok (.getfield 22, 3) := by decide +kernel
theorem dX1_contradict_79 : decode cX1_contradict 79 = .ok (.aaload, 1) := by decide +kernel
theorem dX1_contradict_80 : decode cX1_contradict 80 = .ok (.aload_n 0, 1) := by decide +kernel
theorem dX1_contradict_81 : decode cX1_contradict 81 = .ok (.getfield 9, 3) := by decide +kernel
theorem dX1_contradict_84 : decode cX1_contradict 84 = .ok (.iload_n 1, 1) := by decide +kernel
theorem dX1_contradict_85 : decode cX1_contradict 85 = .ok (.invokevirtual 77, 3) := by decide +kernel
theorem dX1_contradict_88 : decode cX1_contradict 88 = .ok (.aload_n 0, 1) := by decide +kernel
theorem dX1_contradict_89 : decode cX1_contradict 89 = .ok (.invokevirtual 83, 3) := by decide +kernel
theorem dX1_contradict_92 : decode cX1_contradict 92 = .ok (.aload_n 0, 1) := by decide +kernel
theorem dX1_contradict_93 : decode cX1_contradict 93 = .ok (.iconst 0, 1) := by decide +kernel
theorem dX1_contradict_94 : decode cX1_contradict 94 = .ok (.invokevirtual 86, 3) := by decide +kernel
theorem dX1_contradict_97 : decode cX1_contradict 97 = .ok (.ireturn, 1) := by decide +kernel
set_option maxRecDepth 20000 in
theorem ggX1_found_X1_isChoice : GoodIn wsX1_found wsX1_isChoice := goodIn_r _ [11, 12, 13, 10, 14] (by decide +kernel) (by decide +kernel)
set_option maxRecDepth 20000 in
theorem gX1_found_X1_isChoice : GoodIn wsX1_found (va_wsS RX1 112 yX1_isChoice wsX1_isChoice) := goodIn_app (goodIn_of _ (by decide +kernel)) ggX1_found_X1_isChoice
set_option maxRecDepth 20000 in
theorem ggX1_found_X1_refuseFullStore : GoodIn wsX1_found wsX1_refuseFullStore := goodIn_ca (goodIn_r _ [18, 19, 20, 21, 22, 23, 10, 24, 6, 78, 79, 80, 81, 82, 83, 84, 85, 86, 87, 88, 89] (by decide +kernel) (by decide +kernel)) (goodIn_sub (fun _ h => List.mem_cons_of_mem _ (List.mem_append_right _ h)) (by decide +kernel))
set_option maxRecDepth 20000 in
theorem gX1_found_X1_refuseFullStore : GoodIn wsX1_found (wsV RX1 155 RX1 yX1_refuseFullStore wsX1_refuseFullStore) := goodIn_app (goodIn_of _ (by decide +kernel)) ggX1_found_X1_refuseFullStore
set_option maxRecDepth 20000 in
theorem ggX1_found_X1_meetsStore : GoodIn wsX1_found wsX1_meetsStore := goodIn_r _ [28, 6, 5, 29, 30, 31, 32, 33, 34, 35, 36, 37, 38, 39, 10, 40, 41, 42, 43, 44, 45, 46, 47, 48, 49, 50, 51, 52, 53, 78, 79, 80, 81, 82, 83, 84, 85, 86, 87, 88, 89, 90, 91, 92] (by decide +kernel) (by decide +kernel)
set_option maxRecDepth 20000 in
theorem gX1_found_X1_meetsStore : GoodIn wsX1_found (wsV RX1 161 RX1 yX1_meetsStore wsX1_meetsStore) := goodIn_app (goodIn_of _ (by decide +kernel)) ggX1_found_X1_meetsStore
set_option maxRecDepth 20000 in
theorem ggX1_found_X1_objectiveValue : GoodIn wsX1_found wsX1_objectiveValue := goodIn_r _ [57, 7, 58, 39, 10, 40, 78, 79, 80, 81, 82, 83, 84, 85, 86, 87, 88, 89] (by decide +kernel) (by decide +kernel)
set_option maxRecDepth 20000 in
theorem gX1_found_X1_objectiveValue : GoodIn wsX1_found (wsV RX1 165 RX1 yX1_objectiveValue wsX1_objectiveValue) := goodIn_app (goodIn_of _ (by decide +kernel)) ggX1_found_X1_objectiveValue
set_option maxRecDepth 20000 in
theorem ggX1_found_X1_hasObjective : GoodIn wsX1_found wsX1_hasObjective := goodIn_r _ [62, 7, 78, 79, 80, 81, 82, 83, 84, 85, 86, 87, 88, 89] (by decide +kernel) (by decide +kernel)
set_option maxRecDepth 20000 in
theorem gX1_found_X1_hasObjective : GoodIn wsX1_found (wsV RX1 168 RX1 yX1_hasObjective wsX1_hasObjective) := goodIn_app (goodIn_of _ (by decide +kernel)) ggX1_found_X1_hasObjective
set_option maxRecDepth 20000 in
theorem ggX1_found_X0_becomeAtMost : GoodIn wsX1_found wsX0_becomeAtMost := goodIn_r _ [66, 67, 68, 69, 32, 70, 45, 71, 72, 52, 73, 38, 46, 47, 48, 49, 50, 51, 53, 90, 91, 92] (by decide +kernel) (by decide +kernel)
set_option maxRecDepth 20000 in
theorem gX1_found_X0_becomeAtMost : GoodIn wsX1_found (wsV RX1 80 RX0 yX0_becomeAtMost wsX0_becomeAtMost) := goodIn_app (goodIn_of _ (by decide +kernel)) ggX1_found_X0_becomeAtMost
set_option maxRecDepth 20000 in
theorem ggX1_found_X1_keepNext : GoodIn wsX1_found wsX1_keepNext := goodIn_r _ [77, 5, 6, 78, 79, 80, 81, 82, 83, 84, 85, 86, 87, 88, 89, 90, 91, 92] (by decide +kernel) (by decide +kernel)
set_option maxRecDepth 20000 in
theorem gX1_found_X1_keepNext : GoodIn wsX1_found (wsV RX1 86 RX1 yX1_keepNext wsX1_keepNext) := goodIn_app (goodIn_of _ (by decide +kernel)) ggX1_found_X1_keepNext
theorem dX1_found_0 : decode cX1_found 0 = .ok (.iload_n 1, 1) := by decide +kernel
theorem dX1_found_1 : decode cX1_found 1 = .ok (.invokestatic 112, 3) := by decide +kernel
theorem dX1_found_4 : decode cX1_found 4 = .ok (.ifCond .ne 11, 3) := by decide +kernel
theorem dX1_found_7 : decode cX1_found 7 = .ok (.new 61, 3) := by decide +kernel
theorem dX1_found_10 : decode cX1_found 10 = .ok (.dup, 1) := by decide +kernel
theorem dX1_found_11 : decode cX1_found 11 = .ok (.invokespecial 63, 3) := by decide +kernel
theorem dX1_found_14 : decode cX1_found 14 = .ok (.athrow, 1) := by decide +kernel
theorem dX1_found_15 : decode cX1_found 15 = .ok (.aload_n 0, 1) := by decide +kernel
theorem dX1_found_16 : decode cX1_found 16 = .ok (.invokevirtual 155, 3) := by decide +kernel
theorem dX1_found_19 : decode cX1_found 19 = .ok (.aload_n 0, 1) := by decide +kernel
theorem dX1_found_20 : decode cX1_found 20 = .ok (.iload_n 1, 1) := by decide +kernel
theorem dX1_found_21 : decode cX1_found 21 = .ok (.iconst 0, 1) := by decide +kernel
theorem dX1_found_22 : decode cX1_found 22 = .ok (.invokevirtual 161, 3) := by decide +kernel
theorem dX1_found_25 : decode cX1_found 25 = .ok (.ifCond .ne 5, 3) := by decide +kernel
theorem dX1_found_28 : decode cX1_found 28 = .ok (.iconst 0, 1) := by decide +kernel
theorem dX1_found_29 : decode cX1_found 29 = .ok (.ireturn, 1) := by decide +kernel
theorem dX1_found_30 : decode cX1_found 30 = .ok (.aload_n 0, 1) := by decide +kernel
theorem dX1_found_31 : decode cX1_found 31 = .ok (.iconst 1, 1) := by decide +kernel
theorem dX1_found_32 : decode cX1_found 32 = .ok (.putfield 37, 3) := by decide +kernel
theorem dX1_found_35 : decode cX1_found 35 = .ok (.aload_n 0, 1) := by decide +kernel
theorem dX1_found_36 : decode cX1_found 36 = .ok (.aload_n 0, 1) := by decide +kernel
theorem dX1_found_37 : decode cX1_found 37 = .ok (.iload_n 1, 1) := by decide +kernel
theorem dX1_found_38 : decode cX1_found 38 = .ok (.invokevirtual 165, 3) := by decide +kernel
theorem dX1_found_41 : decode cX1_found 41 = .ok (.putfield 41, 3) := by decide +kernel
theorem dX1_found_44 : decode cX1_found 44 = .ok (.aload_n 0, 1) := by decide +kernel
theorem dX1_found_45 : decode cX1_found 45 = .ok (.invokevirtual 168, 3) := by decide +kernel
theorem dX1_found_48 : decode cX1_found 48 = .ok (.ifCond .eq 31, 3) := by decide +kernel
theorem dX1_found_51 : decode cX1_found 51 = .ok (.aload_n 0, 1) := by decide +kernel
theorem dX1_found_52 : decode cX1_found 52 = .ok (.getfield 18, 3) := by decide +kernel
theorem dX1_found_55 : decode cX1_found 55 = .ok (.aload_n 0, 1) := by decide +kernel
theorem dX1_found_56 : decode cX1_found 56 = .ok (.getfield 22, 3) := by decide +kernel
theorem dX1_found_59 : decode cX1_found 59 = .ok (.aaload, 1) := by decide +kernel
theorem dX1_found_60 : decode cX1_found 60 = .ok (.aload_n 0, 1) := by decide +kernel
theorem dX1_found_61 : decode cX1_found 61 = .ok (.getfield 13, 3) := by decide +kernel
theorem dX1_found_64 : decode cX1_found 64 = .ok (.aload_n 0, 1) := by decide +kernel
theorem dX1_found_65 : decode cX1_found 65 = .ok (.getfield 41, 3) := by decide +kernel
theorem dX1_found_68 : decode cX1_found 68 = .ok (.iconst 1, 1) := by decide +kernel
theorem dX1_found_69 : decode cX1_found 69 = .ok (.isub, 1) := by decide +kernel
theorem dX1_found_70 : decode cX1_found 70 = .ok (.invokevirtual 80, 3) := by decide +kernel
theorem dX1_found_73 : decode cX1_found 73 = .ok (.aload_n 0, 1) := by decide +kernel
theorem dX1_found_74 : decode cX1_found 74 = .ok (.iconst 0, 1) := by decide +kernel
theorem dX1_found_75 : decode cX1_found 75 = .ok (.invokevirtual 86, 3) := by decide +kernel
theorem dX1_found_78 : decode cX1_found 78 = .ok (.pop, 1) := by decide +kernel
theorem dX1_found_79 : decode cX1_found 79 = .ok (.iconst 1, 1) := by decide +kernel
theorem dX1_found_80 : decode cX1_found 80 = .ok (.ireturn, 1) := by decide +kernel
set_option maxRecDepth 20000 in
theorem ggX1_verdict_X1_hasVoid : GoodIn wsX1_verdict wsX1_hasVoid := goodIn_r _ [6, 7, 8, 9, 10, 11, 12, 13, 14, 15, 16, 17, 18, 19, 20, 21, 22, 23, 24, 25, 26, 27, 33, 34, 35, 36, 37, 38, 39, 40, 41, 42, 43, 44, 45, 46, 47] (by decide +kernel) (by decide +kernel)
set_option maxRecDepth 20000 in
theorem gX1_verdict_X1_hasVoid : GoodIn wsX1_verdict (wsV RX1 171 RX1 yX1_hasVoid wsX1_hasVoid) := goodIn_app (goodIn_of _ (by decide +kernel)) ggX1_verdict_X1_hasVoid
set_option maxRecDepth 20000 in
theorem ggX1_verdict_X1_hasObjective : GoodIn wsX1_verdict wsX1_hasObjective := goodIn_r _ [31, 32, 33, 34, 35, 36, 37, 38, 39, 40, 41, 42, 43, 44] (by decide +kernel) (by decide +kernel)
set_option maxRecDepth 20000 in
theorem gX1_verdict_X1_hasObjective : GoodIn wsX1_verdict (wsV RX1 168 RX1 yX1_hasObjective wsX1_hasObjective) := goodIn_app (goodIn_of _ (by decide +kernel)) ggX1_verdict_X1_hasObjective
theorem dX1_verdict_0 : decode cX1_verdict 0 = .ok (.aload_n 0, 1) := by decide +kernel
theorem dX1_verdict_1 : decode cX1_verdict 1 = .ok (.invokevirtual 171, 3) := by decide +kernel
theorem dX1_verdict_4 : decode cX1_verdict 4 = .ok (.ifCond .eq 16, 3) := by decide +kernel
theorem dX1_verdict_7 : decode cX1_verdict 7 = .ok (.aload_n 0, 1) := by decide +kernel
theorem dX1_verdict_8 : decode cX1_verdict 8 = .ok (.getfield 37, 3) := by decide +kernel
theorem dX1_verdict_11 : decode cX1_verdict 11 = .ok (.ifCond .eq 7, 3) := by decide +kernel
theorem dX1_verdict_14 : decode cX1_verdict 14 = .ok (.iconst 2, 1) := by decide +kernel
theorem dX1_verdict_15 : decode cX1_verdict 15 = .ok (.goto 4, 3) := by decide +kernel
theorem dX1_verdict_18 : decode cX1_verdict 18 = .ok (.iconst 1, 1) := by decide +kernel
theorem dX1_verdict_19 : decode cX1_verdict 19 = .ok (.ireturn, 1) := by decide +kernel
theorem dX1_verdict_20 : decode cX1_verdict 20 = .ok (.aload_n 0, 1) := by decide +kernel
theorem dX1_verdict_21 : decode cX1_verdict 21 = .ok (.getfield 37, 3) := by decide +kernel
theorem dX1_verdict_24 : decode cX1_verdict 24 = .ok (.ifCond .eq 14, 3) := by decide +kernel
theorem dX1_verdict_27 : decode cX1_verdict 27 = .ok (.aload_n 0, 1) := by decide +kernel
theorem dX1_verdict_28 : decode cX1_verdict 28 = .ok (.invokevirtual 168, 3) := by decide +kernel
theorem dX1_verdict_31 : decode cX1_verdict 31 = .ok (.ifCond .ne 7, 3) := by decide +kernel
theorem dX1_verdict_34 : decode cX1_verdict 34 = .ok (.iconst 3, 1) := by decide +kernel
theorem dX1_verdict_35 : decode cX1_verdict 35 = .ok (.goto 4, 3) := by decide +kernel
theorem dX1_verdict_38 : decode cX1_verdict 38 = .ok (.iconst 0, 1) := by decide +kernel
theorem dX1_verdict_39 : decode cX1_verdict 39 = .ok (.ireturn, 1) := by decide +kernel
theorem dX1_best_0 : decode cX1_best 0 = .ok (.aload_n 0, 1) := by decide +kernel
theorem dX1_best_1 : decode cX1_best 1 = .ok (.getfield 37, 3) := by decide +kernel
theorem dX1_best_4 : decode cX1_best 4 = .ok (.ifCond .ne 11, 3) := by decide +kernel
theorem dX1_best_7 : decode cX1_best 7 = .ok (.new 99, 3) := by decide +kernel
theorem dX1_best_10 : decode cX1_best 10 = .ok (.dup, 1) := by decide +kernel
theorem dX1_best_11 : decode cX1_best 11 = .ok (.invokespecial 101, 3) := by decide +kernel
theorem dX1_best_14 : decode cX1_best 14 = .ok (.athrow, 1) := by decide +kernel
theorem dX1_best_15 : decode cX1_best 15 = .ok (.aload_n 0, 1) := by decide +kernel
theorem dX1_best_16 : decode cX1_best 16 = .ok (.getfield 41, 3) := by decide +kernel
theorem dX1_best_19 : decode cX1_best 19 = .ok (.ireturn, 1) := by decide +kernel
set_option maxRecDepth 20000 in
theorem ggX1_solve_X1_objectiveValue : GoodIn wsX1_solve wsX1_objectiveValue := goodIn_r _ [8, 9, 10, 11, 7, 12, 49, 50, 51, 52, 53, 54, 55, 56, 57, 58, 59, 60] (by decide +kernel) (by decide +kernel)
set_option maxRecDepth 20000 in
theorem gX1_solve_X1_objectiveValue : GoodIn wsX1_solve (wsV RX1 165 RX1 yX1_objectiveValue wsX1_objectiveValue) := goodIn_app (goodIn_of _ (by decide +kernel)) ggX1_solve_X1_objectiveValue
set_option maxRecDepth 20000 in
theorem ggX1_solve_X1_isPreferred : GoodIn wsX1_solve wsX1_isPreferred := goodIn_r _ [16, 1, 2, 3, 17, 18, 7, 19, 49, 50, 51, 52, 53, 54, 55, 56, 57, 58, 59, 60] (by decide +kernel) (by decide +kernel)
set_option maxRecDepth 20000 in
theorem gX1_solve_X1_isPreferred : GoodIn wsX1_solve (wsV RX1 174 RX1 yX1_isPreferred wsX1_isPreferred) := goodIn_app (goodIn_of _ (by decide +kernel)) ggX1_solve_X1_isPreferred
set_option maxRecDepth 20000 in
theorem ggX1_solve_X1_meetsStore : GoodIn wsX1_solve wsX1_meetsStore := goodIn_r _ [23, 24, 25, 26, 27, 28, 29, 30, 31, 32, 33, 34, 35, 11, 7, 12, 36, 37, 38, 39, 40, 41, 42, 43, 44, 45, 46, 47, 48, 49, 50, 51, 52, 53, 54, 55, 56, 57, 58, 59, 60, 61, 62, 63] (by decide +kernel) (by decide +kernel)
set_option maxRecDepth 20000 in
theorem gX1_solve_X1_meetsStore : GoodIn wsX1_solve (wsV RX1 161 RX1 yX1_meetsStore wsX1_meetsStore) := goodIn_app (goodIn_of _ (by decide +kernel)) ggX1_solve_X1_meetsStore
theorem dX1_solve_0 : decode cX1_solve 0 = .ok (.aload_n 0, 1) := by decide +kernel
theorem dX1_solve_1 : decode cX1_solve 1 = .ok (.iconst 0, 1) := by decide +kernel
theorem dX1_solve_2 : decode cX1_solve 2 = .ok (.putfield 44, 3) := by decide +kernel
theorem dX1_solve_5 : decode cX1_solve 5 = .ok (.iconst 0, 1) := by decide +kernel
theorem dX1_solve_6 : decode cX1_solve 6 = .ok (.istore_n 1, 1) := by decide +kernel
theorem dX1_solve_7 : decode cX1_solve 7 = .ok (.iload_n 1, 1) := by decide +kernel
theorem dX1_solve_8 : decode cX1_solve 8 = .ok (.sipush 1024, 3) := by decide +kernel
theorem dX1_solve_11 : decode cX1_solve 11 = .ok (.if_icmp .ge 48, 3) := by decide +kernel
theorem dX1_solve_14 : decode cX1_solve 14 = .ok (.aload_n 0, 1) := by decide +kernel
theorem dX1_solve_15 : decode cX1_solve 15 = .ok (.iload_n 1, 1) := by decide +kernel
theorem dX1_solve_16 : decode cX1_solve 16 = .ok (.invokevirtual 165, 3) := by decide +kernel
theorem dX1_solve_19 : decode cX1_solve 19 = .ok (.istore_n 2, 1) := by decide +kernel
theorem dX1_solve_20 : decode cX1_solve 20 = .ok (.aload_n 0, 1) := by decide +kernel
theorem dX1_solve_21 : decode cX1_solve 21 = .ok (.iload_n 1, 1) := by decide +kernel
theorem dX1_solve_22 : decode cX1_solve 22 = .ok (.iload_n 2, 1) := by decide +kernel
theorem dX1_solve_23 : decode cX1_solve 23 = .ok (.invokevirtual 174, 3) := by decide +kernel
theorem dX1_solve_26 : decode cX1_solve 26 = .ok (.ifCond .eq 27, 3) := by decide +kernel
theorem dX1_solve_29 : decode cX1_solve 29 = .ok (.aload_n 0, 1) := by decide +kernel
theorem dX1_solve_30 : decode cX1_solve 30 = .ok (.iload_n 1, 1) := by decide +kernel
theorem dX1_solve_31 : decode cX1_solve 31 = .ok (.iconst 1, 1) := by decide +kernel
theorem dX1_solve_32 : decode cX1_solve 32 = .ok (.invokevirtual 161, 3) := by decide +kernel
theorem dX1_solve_35 : decode cX1_solve 35 = .ok (.ifCond .eq 18, 3) := by decide +kernel
theorem dX1_solve_38 : decode cX1_solve 38 = .ok (.aload_n 0, 1) := by decide +kernel
theorem dX1_solve_39 : decode cX1_solve 39 = .ok (.iconst 1, 1) := by decide +kernel
theorem dX1_solve_40 : decode cX1_solve 40 = .ok (.putfield 44, 3) := by decide +kernel
theorem dX1_solve_43 : decode cX1_solve 43 = .ok (.aload_n 0, 1) := by decide +kernel
theorem dX1_solve_44 : decode cX1_solve 44 = .ok (.iload_n 2, 1) := by decide +kernel
theorem dX1_solve_45 : decode cX1_solve 45 = .ok (.putfield 47, 3) := by decide +kernel
theorem dX1_solve_48 : decode cX1_solve 48 = .ok (.aload_n 0, 1) := by decide +kernel
theorem dX1_solve_49 : decode cX1_solve 49 = .ok (.iload_n 1, 1) := by decide +kernel
theorem dX1_solve_50 : decode cX1_solve 50 = .ok (.putfield 50, 3) := by decide +kernel
theorem dX1_solve_53 : decode cX1_solve 53 = .ok (.iinc 1 1, 3) := by decide +kernel
theorem dX1_solve_56 : decode cX1_solve 56 = .ok (.goto (-49), 3) := by decide +kernel
theorem dX1_solve_59 : decode cX1_solve 59 = .ok (.aload_n 0, 1) := by decide +kernel
theorem dX1_solve_60 : decode cX1_solve 60 = .ok (.getfield 44, 3) := by decide +kernel
theorem dX1_solve_63 : decode cX1_solve 63 = .ok (.ifCond .eq 7, 3) := by decide +kernel
theorem dX1_solve_66 : decode cX1_solve 66 = .ok (.iconst 1, 1) := by decide +kernel
theorem dX1_solve_67 : decode cX1_solve 67 = .ok (.goto 4, 3) := by decide +kernel
theorem dX1_solve_70 : decode cX1_solve 70 = .ok (.iconst 0, 1) := by decide +kernel
theorem dX1_solve_71 : decode cX1_solve 71 = .ok (.ireturn, 1) := by decide +kernel
set_option maxRecDepth 20000 in
theorem ggX1_least_X1_refuseUnsolved : GoodIn wsX1_least wsX1_refuseUnsolved := goodIn_ca (goodIn_r _ [6, 7, 8, 9, 10, 11, 12, 13, 14, 15, 16, 17, 18, 19, 20, 21] (by decide +kernel) (by decide +kernel)) (goodIn_sub (fun _ h => List.mem_cons_of_mem _ (List.mem_append_right _ h)) (by decide +kernel))
set_option maxRecDepth 20000 in
theorem gX1_least_X1_refuseUnsolved : GoodIn wsX1_least (wsV RX1 178 RX1 yX1_refuseUnsolved wsX1_refuseUnsolved) := goodIn_app (goodIn_of _ (by decide +kernel)) ggX1_least_X1_refuseUnsolved
theorem dX1_least_0 : decode cX1_least 0 = .ok (.aload_n 0, 1) := by decide +kernel
theorem dX1_least_1 : decode cX1_least 1 = .ok (.invokevirtual 178, 3) := by decide +kernel
theorem dX1_least_4 : decode cX1_least 4 = .ok (.aload_n 0, 1) := by decide +kernel
theorem dX1_least_5 : decode cX1_least 5 = .ok (.getfield 47, 3) := by decide +kernel
theorem dX1_least_8 : decode cX1_least 8 = .ok (.ireturn, 1) := by decide +kernel
set_option maxRecDepth 20000 in
theorem ggX1_value_X1_refuseUnsolved : GoodIn wsX1_value wsX1_refuseUnsolved := goodIn_ca (goodIn_r _ [8, 9, 10, 11, 21, 22, 23, 24, 25, 26, 27, 28, 29, 30, 31, 32] (by decide +kernel) (by decide +kernel)) (goodIn_sub (fun _ h => List.mem_cons_of_mem _ (List.mem_append_right _ h)) (by decide +kernel))
set_option maxRecDepth 20000 in
theorem gX1_value_X1_refuseUnsolved : GoodIn wsX1_value (wsV RX1 178 RX1 yX1_refuseUnsolved wsX1_refuseUnsolved) := goodIn_app (goodIn_of _ (by decide +kernel)) ggX1_value_X1_refuseUnsolved
set_option maxRecDepth 20000 in
theorem ggX1_value_X1_isVariable : GoodIn wsX1_value wsX1_isVariable := goodIn_r _ [14, 15, 16, 7, 17] (by decide +kernel) (by decide +kernel)
set_option maxRecDepth 20000 in
theorem gX1_value_X1_isVariable : GoodIn wsX1_value (va_wsS RX1 53 yX1_isVariable wsX1_isVariable) := goodIn_app (goodIn_of _ (by decide +kernel)) ggX1_value_X1_isVariable
set_option maxRecDepth 20000 in
theorem ggX1_value_X1_bit : GoodIn wsX1_value wsX1_bit := goodIn_r _ [20] (by decide +kernel) (by decide +kernel)
set_option maxRecDepth 20000 in
theorem gX1_value_X1_bit : GoodIn wsX1_value (va_wsS RX1 181 yX1_bit wsX1_bit) := goodIn_app (goodIn_of _ (by decide +kernel)) ggX1_value_X1_bit
theorem dX1_value_0 : decode cX1_value 0 = .ok (.aload_n 0, 1) := by decide +kernel
theorem dX1_value_1 : decode cX1_value 1 = .ok (.invokevirtual 178, 3) := by decide +kernel
theorem dX1_value_4 : decode cX1_value 4 = .ok (.iload_n 1, 1) := by decide +kernel
theorem dX1_value_5 : decode cX1_value 5 = .ok (.invokestatic 53, 3) := by decide +kernel
theorem dX1_value_8 : decode cX1_value 8 = .ok (.ifCond .ne 11, 3) := by decide +kernel
theorem dX1_value_11 : decode cX1_value 11 = .ok (.new 61, 3) := by decide +kernel
theorem dX1_value_14 : decode cX1_value 14 = .ok (.dup, 1) := by decide +kernel
theorem dX1_value_15 : decode cX1_value 15 = .ok (.invokespecial 63, 3) := by decide +kernel
theorem dX1_value_18 : decode cX1_value 18 = .ok (.athrow, 1) := by decide +kernel
theorem dX1_value_19 : decode cX1_value 19 = .ok (.aload_n 0, 1) := by decide +kernel
theorem dX1_value_20 : decode cX1_value 20 = .ok (.getfield 50, 3) := by decide +kernel
theorem dX1_value_23 : decode cX1_value 23 = .ok (.iload_n 1, 1) := by decide +kernel
theorem dX1_value_24 : decode cX1_value 24 = .ok (.invokestatic 181, 3) := by decide +kernel
theorem dX1_value_27 : decode cX1_value 27 = .ok (.ireturn, 1) := by decide +kernel
set_option maxRecDepth 20000 in
theorem ggX1_refuseFullStore_X1_isStoreFull : GoodIn wsX1_refuseFullStore wsX1_isStoreFull := goodIn_r _ [7, 8, 9, 10, 11, 12, 13, 14, 15, 16, 17, 18, 19, 20] (by decide +kernel) (by decide +kernel)
set_option maxRecDepth 20000 in
theorem gX1_refuseFullStore_X1_isStoreFull : GoodIn wsX1_refuseFullStore (wsV RX1 70 RX1 yX1_isStoreFull wsX1_isStoreFull) := goodIn_app (goodIn_of _ (by decide +kernel)) ggX1_refuseFullStore_X1_isStoreFull
theorem dX1_refuseFullStore_0 : decode cX1_refuseFullStore 0 = .ok (.aload_n 0, 1) := by decide +kernel
theorem dX1_refuseFullStore_1 : decode cX1_refuseFullStore 1 = .ok (.invokevirtual 70, 3) := by decide +kernel
theorem dX1_refuseFullStore_4 : decode cX1_refuseFullStore 4 = .ok (.ifCond .eq 11, 3) := by decide +kernel
theorem dX1_refuseFullStore_7 : decode cX1_refuseFullStore 7 = .ok (.new 74, 3) := by decide +kernel
theorem dX1_refuseFullStore_10 : decode cX1_refuseFullStore 10 = .ok (.dup, 1) := by decide +kernel
theorem dX1_refuseFullStore_11 : decode cX1_refuseFullStore 11 = .ok (.invokespecial 76, 3) := by decide +kernel
theorem dX1_refuseFullStore_14 : decode cX1_refuseFullStore 14 = .ok (.athrow, 1) := by decide +kernel
theorem dX1_refuseFullStore_15 : decode cX1_refuseFullStore 15 = .ok (.return_, 1) := by decide +kernel
theorem dX1_refuseFullStack_0 : decode cX1_refuseFullStack 0 = .ok (.aload_n 0, 1) := by decide +kernel
theorem dX1_refuseFullStack_1 : decode cX1_refuseFullStack 1 = .ok (.getfield 29, 3) := by decide +kernel
theorem dX1_refuseFullStack_4 : decode cX1_refuseFullStack 4 = .ok (.bipush 6, 2) := by decide +kernel
theorem dX1_refuseFullStack_6 : decode cX1_refuseFullStack 6 = .ok (.if_icmp .lt 11, 3) := by decide +kernel
theorem dX1_refuseFullStack_9 : decode cX1_refuseFullStack 9 = .ok (.new 74, 3) := by decide +kernel
theorem dX1_refuseFullStack_12 : decode cX1_refuseFullStack 12 = .ok (.dup, 1) := by decide +kernel
theorem dX1_refuseFullStack_13 : decode cX1_refuseFullStack 13 = .ok (.invokespecial 76, 3) := by decide +kernel
theorem dX1_refuseFullStack_16 : decode cX1_refuseFullStack 16 = .ok (.athrow, 1) := by decide +kernel
theorem dX1_refuseFullStack_17 : decode cX1_refuseFullStack 17 = .ok (.return_, 1) := by decide +kernel
theorem dX1_refuseEmptyStack_0 : decode cX1_refuseEmptyStack 0 = .ok (.aload_n 0, 1) := by decide +kernel
theorem dX1_refuseEmptyStack_1 : decode cX1_refuseEmptyStack 1 = .ok (.getfield 29, 3) := by decide +kernel
theorem dX1_refuseEmptyStack_4 : decode cX1_refuseEmptyStack 4 = .ok (.iconst 1, 1) := by decide +kernel
theorem dX1_refuseEmptyStack_5 : decode cX1_refuseEmptyStack 5 = .ok (.if_icmp .ge 11, 3) := by decide +kernel
theorem dX1_refuseEmptyStack_8 : decode cX1_refuseEmptyStack 8 = .ok (.new 74, 3) := by decide +kernel
theorem dX1_refuseEmptyStack_11 : decode cX1_refuseEmptyStack 11 = .ok (.dup, 1) := by decide +kernel
theorem dX1_refuseEmptyStack_12 : decode cX1_refuseEmptyStack 12 = .ok (.invokespecial 76, 3) := by decide +kernel
theorem dX1_refuseEmptyStack_15 : decode cX1_refuseEmptyStack 15 = .ok (.athrow, 1) := by decide +kernel
theorem dX1_refuseEmptyStack_16 : decode cX1_refuseEmptyStack 16 = .ok (.return_, 1) := by decide +kernel
set_option maxRecDepth 20000 in
theorem ggX1_refuseTooLargeScratch_X0_isTooLarge : GoodIn wsX1_refuseTooLargeScratch wsX0_isTooLarge := goodIn_r _ [8, 9, 10, 11, 12, 13, 7, 14, 15, 16, 17, 18, 19, 32, 33, 34] (by decide +kernel) (by decide +kernel)
set_option maxRecDepth 20000 in
theorem gX1_refuseTooLargeScratch_X0_isTooLarge : GoodIn wsX1_refuseTooLargeScratch (wsV RX1 184 RX0 yX0_isTooLarge wsX0_isTooLarge) := goodIn_app (goodIn_of _ (by decide +kernel)) ggX1_refuseTooLargeScratch_X0_isTooLarge
theorem dX1_refuseTooLargeScratch_0 : decode cX1_refuseTooLargeScratch 0 = .ok (.aload_n 0, 1) := by decide +kernel
theorem dX1_refuseTooLargeScratch_1 : decode cX1_refuseTooLargeScratch 1 = .ok (.getfield 33, 3) := by decide +kernel
theorem dX1_refuseTooLargeScratch_4 : decode cX1_refuseTooLargeScratch 4 = .ok (.invokevirtual 184, 3) := by decide +kernel
theorem dX1_refuseTooLargeScratch_7 : decode cX1_refuseTooLargeScratch 7 = .ok (.ifCond .eq 11, 3) := by decide +kernel
theorem dX1_refuseTooLargeScratch_10 : decode cX1_refuseTooLargeScratch 10 = .ok (.new 187, 3) := by decide +kernel
theorem dX1_refuseTooLargeScratch_13 : decode cX1_refuseTooLargeScratch 13 = .ok (.dup, 1) := by decide +kernel
theorem dX1_refuseTooLargeScratch_14 : decode cX1_refuseTooLargeScratch 14 = .ok (.invokespecial 189, 3) := by decide +kernel
theorem dX1_refuseTooLargeScratch_17 : decode cX1_refuseTooLargeScratch 17 = .ok (.athrow, 1) := by decide +kernel
theorem dX1_refuseTooLargeScratch_18 : decode cX1_refuseTooLargeScratch 18 = .ok (.return_, 1) := by decide +kernel
theorem dX1_refuseUnsolved_0 : decode cX1_refuseUnsolved 0 = .ok (.aload_n 0, 1) := by decide +kernel
theorem dX1_refuseUnsolved_1 : decode cX1_refuseUnsolved 1 = .ok (.getfield 44, 3) := by decide +kernel
theorem dX1_refuseUnsolved_4 : decode cX1_refuseUnsolved 4 = .ok (.ifCond .ne 11, 3) := by decide +kernel
theorem dX1_refuseUnsolved_7 : decode cX1_refuseUnsolved 7 = .ok (.new 99, 3) := by decide +kernel
theorem dX1_refuseUnsolved_10 : decode cX1_refuseUnsolved 10 = .ok (.dup, 1) := by decide +kernel
theorem dX1_refuseUnsolved_11 : decode cX1_refuseUnsolved 11 = .ok (.invokespecial 101, 3) := by decide +kernel
theorem dX1_refuseUnsolved_14 : decode cX1_refuseUnsolved 14 = .ok (.athrow, 1) := by decide +kernel
theorem dX1_refuseUnsolved_15 : decode cX1_refuseUnsolved 15 = .ok (.return_, 1) := by decide +kernel
theorem dX1_isWithin_0 : decode cX1_isWithin 0 = .ok (.iload_n 0, 1) := by decide +kernel
theorem dX1_isWithin_1 : decode cX1_isWithin 1 = .ok (.iload_n 1, 1) := by decide +kernel
theorem dX1_isWithin_2 : decode cX1_isWithin 2 = .ok (.if_icmp .lt 12, 3) := by decide +kernel
theorem dX1_isWithin_5 : decode cX1_isWithin 5 = .ok (.iload_n 0, 1) := by decide +kernel
theorem dX1_isWithin_6 : decode cX1_isWithin 6 = .ok (.iload_n 2, 1) := by decide +kernel
theorem dX1_isWithin_7 : decode cX1_isWithin 7 = .ok (.if_icmp .gt 7, 3) := by decide +kernel
theorem dX1_isWithin_10 : decode cX1_isWithin 10 = .ok (.iconst 1, 1) := by decide +kernel
theorem dX1_isWithin_11 : decode cX1_isWithin 11 = .ok (.goto 4, 3) := by decide +kernel
theorem dX1_isWithin_14 : decode cX1_isWithin 14 = .ok (.iconst 0, 1) := by decide +kernel
theorem dX1_isWithin_15 : decode cX1_isWithin 15 = .ok (.ireturn, 1) := by decide +kernel
set_option maxRecDepth 20000 in
theorem ggX1_isVariable_X1_isWithin : GoodIn wsX1_isVariable wsX1_isWithin := goodIn_r _ [4] (by decide +kernel) (by decide +kernel)
set_option maxRecDepth 20000 in
theorem gX1_isVariable_X1_isWithin : GoodIn wsX1_isVariable (va_wsS RX1 57 yX1_isWithin wsX1_isWithin) := goodIn_app (goodIn_of _ (by decide +kernel)) ggX1_isVariable_X1_isWithin
theorem dX1_isVariable_0 : decode cX1_isVariable 0 = .ok (.iload_n 0, 1) := by decide +kernel
theorem dX1_isVariable_1 : decode cX1_isVariable 1 = .ok (.iconst 0, 1) := by decide +kernel
theorem dX1_isVariable_2 : decode cX1_isVariable 2 = .ok (.bipush 9, 2) := by decide +kernel
theorem dX1_isVariable_4 : decode cX1_isVariable 4 = .ok (.invokestatic 57, 3) := by decide +kernel
theorem dX1_isVariable_7 : decode cX1_isVariable 7 = .ok (.ireturn, 1) := by decide +kernel
set_option maxRecDepth 20000 in
theorem ggX1_isQuestion_X1_isWithin : GoodIn wsX1_isQuestion wsX1_isWithin := goodIn_r _ [4] (by decide +kernel) (by decide +kernel)
set_option maxRecDepth 20000 in
theorem gX1_isQuestion_X1_isWithin : GoodIn wsX1_isQuestion (va_wsS RX1 57 yX1_isWithin wsX1_isWithin) := goodIn_app (goodIn_of _ (by decide +kernel)) ggX1_isQuestion_X1_isWithin
theorem dX1_isQuestion_0 : decode cX1_isQuestion 0 = .ok (.iload_n 0, 1) := by decide +kernel
theorem dX1_isQuestion_1 : decode cX1_isQuestion 1 = .ok (.bipush (-2), 2) := by decide +kernel
theorem dX1_isQuestion_3 : decode cX1_isQuestion 3 = .ok (.bipush 9, 2) := by decide +kernel
theorem dX1_isQuestion_5 : decode cX1_isQuestion 5 = .ok (.invokestatic 57, 3) := by decide +kernel
theorem dX1_isQuestion_8 : decode cX1_isQuestion 8 = .ok (.ireturn, 1) := by decide +kernel
set_option maxRecDepth 20000 in
theorem ggX1_isChoice_X1_isWithin : GoodIn wsX1_isChoice wsX1_isWithin := goodIn_r _ [4] (by decide +kernel) (by decide +kernel)
set_option maxRecDepth 20000 in
theorem gX1_isChoice_X1_isWithin : GoodIn wsX1_isChoice (va_wsS RX1 57 yX1_isWithin wsX1_isWithin) := goodIn_app (goodIn_of _ (by decide +kernel)) ggX1_isChoice_X1_isWithin
theorem dX1_isChoice_0 : decode cX1_isChoice 0 = .ok (.iload_n 0, 1) := by decide +kernel
theorem dX1_isChoice_1 : decode cX1_isChoice 1 = .ok (.iconst 0, 1) := by decide +kernel
theorem dX1_isChoice_2 : decode cX1_isChoice 2 = .ok (.sipush 1023, 3) := by decide +kernel
theorem dX1_isChoice_5 : decode cX1_isChoice 5 = .ok (.invokestatic 57, 3) := by decide +kernel
theorem dX1_isChoice_8 : decode cX1_isChoice 8 = .ok (.ireturn, 1) := by decide +kernel
set_option maxRecDepth 20000 in
theorem ggX1_isStored_X1_isWithin : GoodIn wsX1_isStored wsX1_isWithin := goodIn_r _ [5] (by decide +kernel) (by decide +kernel)
set_option maxRecDepth 20000 in
theorem gX1_isStored_X1_isWithin : GoodIn wsX1_isStored (va_wsS RX1 57 yX1_isWithin wsX1_isWithin) := goodIn_app (goodIn_of _ (by decide +kernel)) ggX1_isStored_X1_isWithin
theorem dX1_isStored_0 : decode cX1_isStored 0 = .ok (.iload_n 1, 1) := by decide +kernel
theorem dX1_isStored_1 : decode cX1_isStored 1 = .ok (.iconst 0, 1) := by decide +kernel
theorem dX1_isStored_2 : decode cX1_isStored 2 = .ok (.aload_n 0, 1) := by decide +kernel
theorem dX1_isStored_3 : decode cX1_isStored 3 = .ok (.getfield 22, 3) := by decide +kernel
theorem dX1_isStored_6 : decode cX1_isStored 6 = .ok (.iconst 1, 1) := by decide +kernel
theorem dX1_isStored_7 : decode cX1_isStored 7 = .ok (.isub, 1) := by decide +kernel
theorem dX1_isStored_8 : decode cX1_isStored 8 = .ok (.invokestatic 57, 3) := by decide +kernel
theorem dX1_isStored_11 : decode cX1_isStored 11 = .ok (.ireturn, 1) := by decide +kernel
theorem dX1_isStoreFull_0 : decode cX1_isStoreFull 0 = .ok (.aload_n 0, 1) := by decide +kernel
theorem dX1_isStoreFull_1 : decode cX1_isStoreFull 1 = .ok (.getfield 22, 3) := by decide +kernel
theorem dX1_isStoreFull_4 : decode cX1_isStoreFull 4 = .ok (.bipush 30, 2) := by decide +kernel
theorem dX1_isStoreFull_6 : decode cX1_isStoreFull 6 = .ok (.if_icmp .lt 7, 3) := by decide +kernel
theorem dX1_isStoreFull_9 : decode cX1_isStoreFull 9 = .ok (.iconst 1, 1) := by decide +kernel
theorem dX1_isStoreFull_10 : decode cX1_isStoreFull 10 = .ok (.goto 4, 3) := by decide +kernel
theorem dX1_isStoreFull_13 : decode cX1_isStoreFull 13 = .ok (.iconst 0, 1) := by decide +kernel
theorem dX1_isStoreFull_14 : decode cX1_isStoreFull 14 = .ok (.ireturn, 1) := by decide +kernel
theorem dX1_keepNext_0 : decode cX1_keepNext 0 = .ok (.aload_n 0, 1) := by decide +kernel
theorem dX1_keepNext_1 : decode cX1_keepNext 1 = .ok (.getfield 18, 3) := by decide +kernel
theorem dX1_keepNext_4 : decode cX1_keepNext 4 = .ok (.aload_n 0, 1) := by decide +kernel
theorem dX1_keepNext_5 : decode cX1_keepNext 5 = .ok (.getfield 22, 3) := by decide +kernel
theorem dX1_keepNext_8 : decode cX1_keepNext 8 = .ok (.aaload, 1) := by decide +kernel
theorem dX1_keepNext_9 : decode cX1_keepNext 9 = .ok (.iload_n 1, 1) := by decide +kernel
theorem dX1_keepNext_10 : decode cX1_keepNext 10 = .ok (.putfield 105, 3) := by decide +kernel
theorem dX1_keepNext_13 : decode cX1_keepNext 13 = .ok (.aload_n 0, 1) := by decide +kernel
theorem dX1_keepNext_14 : decode cX1_keepNext 14 = .ok (.dup, 1) := by decide +kernel
theorem dX1_keepNext_15 : decode cX1_keepNext 15 = .ok (.getfield 22, 3) := by decide +kernel
theorem dX1_keepNext_18 : decode cX1_keepNext 18 = .ok (.iconst 1, 1) := by decide +kernel
theorem dX1_keepNext_19 : decode cX1_keepNext 19 = .ok (.iadd, 1) := by decide +kernel
theorem dX1_keepNext_20 : decode cX1_keepNext 20 = .ok (.putfield 22, 3) := by decide +kernel
theorem dX1_keepNext_23 : decode cX1_keepNext 23 = .ok (.aload_n 0, 1) := by decide +kernel
theorem dX1_keepNext_24 : decode cX1_keepNext 24 = .ok (.getfield 22, 3) := by decide +kernel
theorem dX1_keepNext_27 : decode cX1_keepNext 27 = .ok (.iconst 1, 1) := by decide +kernel
theorem dX1_keepNext_28 : decode cX1_keepNext 28 = .ok (.isub, 1) := by decide +kernel
theorem dX1_keepNext_29 : decode cX1_keepNext 29 = .ok (.ireturn, 1) := by decide +kernel
set_option maxRecDepth 20000 in
theorem ggX1_meetsStore_X0_isMetBy : GoodIn wsX1_meetsStore wsX0_isMetBy := goodIn_r _ [7, 8, 9, 10, 6, 11, 12, 13, 14, 15, 16, 17, 18, 19, 20, 21, 22, 23, 24, 25, 26, 27, 28, 41, 42, 43] (by decide +kernel) (by decide +kernel)
set_option maxRecDepth 20000 in
theorem gX1_meetsStore_X0_isMetBy : GoodIn wsX1_meetsStore (wsV RX1 190 RX0 yX0_isMetBy wsX0_isMetBy) := goodIn_app (goodIn_of _ (by decide +kernel)) ggX1_meetsStore_X0_isMetBy
theorem dX1_meetsStore_0 : decode cX1_meetsStore 0 = .ok (.iconst 0, 1) := by decide +kernel
theorem dX1_meetsStore_1 : decode cX1_meetsStore 1 = .ok (.istore_n 3, 1) := by decide +kernel
theorem dX1_meetsStore_2 : decode cX1_meetsStore 2 = .ok (.iload_n 3, 1) := by decide +kernel
theorem dX1_meetsStore_3 : decode cX1_meetsStore 3 = .ok (.aload_n 0, 1) := by decide +kernel
theorem dX1_meetsStore_4 : decode cX1_meetsStore 4 = .ok (.getfield 22, 3) := by decide +kernel
theorem dX1_meetsStore_7 : decode cX1_meetsStore 7 = .ok (.if_icmp .ge 52, 3) := by decide +kernel
theorem dX1_meetsStore_10 : decode cX1_meetsStore 10 = .ok (.aload_n 0, 1) := by decide +kernel
theorem dX1_meetsStore_11 : decode cX1_meetsStore 11 = .ok (.getfield 18, 3) := by decide +kernel
theorem dX1_meetsStore_14 : decode cX1_meetsStore 14 = .ok (.iload_n 3, 1) := by decide +kernel
theorem dX1_meetsStore_15 : decode cX1_meetsStore 15 = .ok (.aaload, 1) := by decide +kernel
theorem dX1_meetsStore_16 : decode cX1_meetsStore 16 = .ok (.getfield 105, 3) := by decide +kernel
theorem dX1_meetsStore_19 : decode cX1_meetsStore 19 = .ok (.ifCond .ne 7, 3) := by decide +kernel
theorem dX1_meetsStore_22 : decode cX1_meetsStore 22 = .ok (.iload_n 2, 1) := by decide +kernel
theorem dX1_meetsStore_23 : decode cX1_meetsStore 23 = .ok (.ifCond .ne 7, 3) := by decide +kernel
theorem dX1_meetsStore_26 : decode cX1_meetsStore 26 = .ok (.iconst 1, 1) := by decide +kernel
theorem dX1_meetsStore_27 : decode cX1_meetsStore 27 = .ok (.goto 4, 3) := by decide +kernel
theorem dX1_meetsStore_30 : decode cX1_meetsStore 30 = .ok (.iconst 0, 1) := by decide +kernel
theorem dX1_meetsStore_31 : decode cX1_meetsStore 31 = .ok (.istore 4, 2) := by decide +kernel
theorem dX1_meetsStore_33 : decode cX1_meetsStore 33 = .ok (.iload 4, 2) := by decide +kernel
theorem dX1_meetsStore_35 : decode cX1_meetsStore 35 = .ok (.ifCond .eq 18, 3) := by decide +kernel
theorem dX1_meetsStore_38 : decode cX1_meetsStore 38 = .ok (.aload_n 0, 1) := by decide +kernel
theorem dX1_meetsStore_39 : decode cX1_meetsStore 39 = .ok (.getfield 18, 3) := by decide +kernel
theorem dX1_meetsStore_42 : decode cX1_meetsStore 42 = .ok (.iload_n 3, 1) := by decide +kernel
theorem dX1_meetsStore_43 : decode cX1_meetsStore 43 = .ok (.aaload, 1) := by decide +kernel
theorem dX1_meetsStore_44 : decode cX1_meetsStore 44 = .ok (.iload_n 1, 1) := by decide +kernel
theorem dX1_meetsStore_45 : decode cX1_meetsStore 45 = .ok (.invokevirtual 190, 3) := by decide +kernel
theorem dX1_meetsStore_48 : decode cX1_meetsStore 48 = .ok (.ifCond .ne 5, 3) := by decide +kernel
theorem dX1_meetsStore_51 : decode cX1_meetsStore 51 = .ok (.iconst 0, 1) := by decide +kernel
theorem dX1_meetsStore_52 : decode cX1_meetsStore 52 = .ok (.ireturn, 1) := by decide +kernel
theorem dX1_meetsStore_53 : decode cX1_meetsStore 53 = .ok (.iinc 3 1, 3) := by decide +kernel
theorem dX1_meetsStore_56 : decode cX1_meetsStore 56 = .ok (.goto (-54), 3) := by decide +kernel
theorem dX1_meetsStore_59 : decode cX1_meetsStore 59 = .ok (.iconst 1, 1) := by decide +kernel
theorem dX1_meetsStore_60 : decode cX1_meetsStore 60 = .ok (.ireturn, 1) := by decide +kernel
set_option maxRecDepth 20000 in
theorem ggX1_hasVoid_X0_isVoid : GoodIn wsX1_hasVoid wsX0_isVoid := goodIn_r _ [7, 8, 9, 10, 11, 6, 12, 13, 14, 15, 16, 17, 18, 19, 20, 21, 34, 35, 36] (by decide +kernel) (by decide +kernel)
set_option maxRecDepth 20000 in
theorem gX1_hasVoid_X0_isVoid : GoodIn wsX1_hasVoid (wsV RX1 193 RX0 yX0_isVoid wsX0_isVoid) := goodIn_app (goodIn_of _ (by decide +kernel)) ggX1_hasVoid_X0_isVoid
theorem dX1_hasVoid_0 : decode cX1_hasVoid 0 = .ok (.iconst 0, 1) := by decide +kernel
theorem dX1_hasVoid_1 : decode cX1_hasVoid 1 = .ok (.istore_n 1, 1) := by decide +kernel
theorem dX1_hasVoid_2 : decode cX1_hasVoid 2 = .ok (.iload_n 1, 1) := by decide +kernel
theorem dX1_hasVoid_3 : decode cX1_hasVoid 3 = .ok (.aload_n 0, 1) := by decide +kernel
theorem dX1_hasVoid_4 : decode cX1_hasVoid 4 = .ok (.getfield 22, 3) := by decide +kernel
theorem dX1_hasVoid_7 : decode cX1_hasVoid 7 = .ok (.if_icmp .ge 23, 3) := by decide +kernel
theorem dX1_hasVoid_10 : decode cX1_hasVoid 10 = .ok (.aload_n 0, 1) := by decide +kernel
theorem dX1_hasVoid_11 : decode cX1_hasVoid 11 = .ok (.getfield 18, 3) := by decide +kernel
theorem dX1_hasVoid_14 : decode cX1_hasVoid 14 = .ok (.iload_n 1, 1) := by decide +kernel
theorem dX1_hasVoid_15 : decode cX1_hasVoid 15 = .ok (.aaload, 1) := by decide +kernel
theorem dX1_hasVoid_16 : decode cX1_hasVoid 16 = .ok (.invokevirtual 193, 3) := by decide +kernel
theorem dX1_hasVoid_19 : decode cX1_hasVoid 19 = .ok (.ifCond .eq 5, 3) := by decide +kernel
theorem dX1_hasVoid_22 : decode cX1_hasVoid 22 = .ok (.iconst 1, 1) := by decide +kernel
theorem dX1_hasVoid_23 : decode cX1_hasVoid 23 = .ok (.ireturn, 1) := by decide +kernel
theorem dX1_hasVoid_24 : decode cX1_hasVoid 24 = .ok (.iinc 1 1, 3) := by decide +kernel
theorem dX1_hasVoid_27 : decode cX1_hasVoid 27 = .ok (.goto (-25), 3) := by decide +kernel
theorem dX1_hasVoid_30 : decode cX1_hasVoid 30 = .ok (.iconst 0, 1) := by decide +kernel
theorem dX1_hasVoid_31 : decode cX1_hasVoid 31 = .ok (.ireturn, 1) := by decide +kernel
set_option maxRecDepth 20000 in
theorem ggX1_closed_X0_forcedFrom : GoodIn wsX1_closed wsX0_forcedFrom := goodIn_r _ [6, 7, 8, 9, 5, 10, 11, 12, 13, 14, 15, 16, 17, 18, 19, 20, 21, 22, 23, 24, 25, 26, 27, 40, 41, 42] (by decide +kernel) (by decide +kernel)
set_option maxRecDepth 20000 in
theorem gX1_closed_X0_forcedFrom : GoodIn wsX1_closed (wsV RX1 196 RX0 yX0_forcedFrom wsX0_forcedFrom) := goodIn_app (goodIn_of _ (by decide +kernel)) ggX1_closed_X0_forcedFrom
theorem dX1_closed_0 : decode cX1_closed 0 = .ok (.iload_n 1, 1) := by decide +kernel
theorem dX1_closed_1 : decode cX1_closed 1 = .ok (.istore_n 3, 1) := by decide +kernel
theorem dX1_closed_2 : decode cX1_closed 2 = .ok (.iconst 0, 1) := by decide +kernel
theorem dX1_closed_3 : decode cX1_closed 3 = .ok (.istore 4, 2) := by decide +kernel
theorem dX1_closed_5 : decode cX1_closed 5 = .ok (.iload 4, 2) := by decide +kernel
theorem dX1_closed_7 : decode cX1_closed 7 = .ok (.bipush 10, 2) := by decide +kernel
theorem dX1_closed_9 : decode cX1_closed 9 = .ok (.if_icmp .gt 55, 3) := by decide +kernel
theorem dX1_closed_12 : decode cX1_closed 12 = .ok (.iload_n 3, 1) := by decide +kernel
theorem dX1_closed_13 : decode cX1_closed 13 = .ok (.istore 5, 2) := by decide +kernel
theorem dX1_closed_15 : decode cX1_closed 15 = .ok (.iconst 0, 1) := by decide +kernel
theorem dX1_closed_16 : decode cX1_closed 16 = .ok (.istore 6, 2) := by decide +kernel
theorem dX1_closed_18 : decode cX1_closed 18 = .ok (.iload 6, 2) := by decide +kernel
theorem dX1_closed_20 : decode cX1_closed 20 = .ok (.iload_n 2, 1) := by decide +kernel
theorem dX1_closed_21 : decode cX1_closed 21 = .ok (.if_icmp .ge 28, 3) := by decide +kernel
theorem dX1_closed_24 : decode cX1_closed 24 = .ok (.aload_n 0, 1) := by decide +kernel
theorem dX1_closed_25 : decode cX1_closed 25 = .ok (.getfield 18, 3) := by decide +kernel
theorem dX1_closed_28 : decode cX1_closed 28 = .ok (.iload 6, 2) := by decide +kernel
theorem dX1_closed_30 : decode cX1_closed 30 = .ok (.aaload, 1) := by decide +kernel
theorem dX1_closed_31 : decode cX1_closed 31 = .ok (.iload_n 3, 1) := by decide +kernel
theorem dX1_closed_32 : decode cX1_closed 32 = .ok (.invokevirtual 196, 3) := by decide +kernel
theorem dX1_closed_35 : decode cX1_closed 35 = .ok (.istore_n 3, 1) := by decide +kernel
theorem dX1_closed_36 : decode cX1_closed 36 = .ok (.iload_n 3, 1) := by decide +kernel
theorem dX1_closed_37 : decode cX1_closed 37 = .ok (.iconst (-1), 1) := by decide +kernel
theorem dX1_closed_38 : decode cX1_closed 38 = .ok (.if_icmp .ne 5, 3) := by decide +kernel
theorem dX1_closed_41 : decode cX1_closed 41 = .ok (.iconst (-1), 1) := by decide +kernel
theorem dX1_closed_42 : decode cX1_closed 42 = .ok (.ireturn, 1) := by decide +kernel
theorem dX1_closed_43 : decode cX1_closed 43 = .ok (.iinc 6 1, 3) := by decide +kernel
theorem dX1_closed_46 : decode cX1_closed 46 = .ok (.goto (-28), 3) := by decide +kernel
theorem dX1_closed_49 : decode cX1_closed 49 = .ok (.iload_n 3, 1) := by decide +kernel
theorem dX1_closed_50 : decode cX1_closed 50 = .ok (.iload 5, 2) := by decide +kernel
theorem dX1_closed_52 : decode cX1_closed 52 = .ok (.if_icmp .ne 6, 3) := by decide +kernel
theorem dX1_closed_55 : decode cX1_closed 55 = .ok (.goto 9, 3) := by decide +kernel
theorem dX1_closed_58 : decode cX1_closed 58 = .ok (.iinc 4 1, 3) := by decide +kernel
theorem dX1_closed_61 : decode cX1_closed 61 = .ok (.goto (-56), 3) := by decide +kernel
theorem dX1_closed_64 : decode cX1_closed 64 = .ok (.iload_n 3, 1) := by decide +kernel
theorem dX1_closed_65 : decode cX1_closed 65 = .ok (.ireturn, 1) := by decide +kernel
theorem dX1_hasObjective_0 : decode cX1_hasObjective 0 = .ok (.iconst 0, 1) := by decide +kernel
theorem dX1_hasObjective_1 : decode cX1_hasObjective 1 = .ok (.istore_n 1, 1) := by decide +kernel
theorem dX1_hasObjective_2 : decode cX1_hasObjective 2 = .ok (.iload_n 1, 1) := by decide +kernel
theorem dX1_hasObjective_3 : decode cX1_hasObjective 3 = .ok (.bipush 10, 2) := by decide +kernel
theorem dX1_hasObjective_5 : decode cX1_hasObjective 5 = .ok (.if_icmp .ge 20, 3) := by decide +kernel
theorem dX1_hasObjective_8 : decode cX1_hasObjective 8 = .ok (.aload_n 0, 1) := by decide +kernel
theorem dX1_hasObjective_9 : decode cX1_hasObjective 9 = .ok (.getfield 13, 3) := by decide +kernel
theorem dX1_hasObjective_12 : decode cX1_hasObjective 12 = .ok (.iload_n 1, 1) := by decide +kernel
theorem dX1_hasObjective_13 : decode cX1_hasObjective 13 = .ok (.iaload, 1) := by decide +kernel
theorem dX1_hasObjective_14 : decode cX1_hasObjective 14 = .ok (.ifCond .eq 5, 3) := by decide +kernel
theorem dX1_hasObjective_17 : decode cX1_hasObjective 17 = .ok (.iconst 1, 1) := by decide +kernel
theorem dX1_hasObjective_18 : decode cX1_hasObjective 18 = .ok (.ireturn, 1) := by decide +kernel
theorem dX1_hasObjective_19 : decode cX1_hasObjective 19 = .ok (.iinc 1 1, 3) := by decide +kernel
theorem dX1_hasObjective_22 : decode cX1_hasObjective 22 = .ok (.goto (-20), 3) := by decide +kernel
theorem dX1_hasObjective_25 : decode cX1_hasObjective 25 = .ok (.iconst 0, 1) := by decide +kernel
theorem dX1_hasObjective_26 : decode cX1_hasObjective 26 = .ok (.ireturn, 1) := by decide +kernel
set_option maxRecDepth 20000 in
theorem ggX1_objectiveValue_X1_bit : GoodIn wsX1_objectiveValue wsX1_bit := goodIn_r _ [5] (by decide +kernel) (by decide +kernel)
set_option maxRecDepth 20000 in
theorem gX1_objectiveValue_X1_bit : GoodIn wsX1_objectiveValue (va_wsS RX1 181 yX1_bit wsX1_bit) := goodIn_app (goodIn_of _ (by decide +kernel)) ggX1_objectiveValue_X1_bit
theorem dX1_objectiveValue_0 : decode cX1_objectiveValue 0 = .ok (.iconst 0, 1) := by decide +kernel
theorem dX1_objectiveValue_1 : decode cX1_objectiveValue 1 = .ok (.istore_n 2, 1) := by decide +kernel
theorem dX1_objectiveValue_2 : decode cX1_objectiveValue 2 = .ok (.iconst 0, 1) := by decide +kernel
theorem dX1_objectiveValue_3 : decode cX1_objectiveValue 3 = .ok (.istore_n 3, 1) := by decide +kernel
theorem dX1_objectiveValue_4 : decode cX1_objectiveValue 4 = .ok (.iload_n 3, 1) := by decide +kernel
theorem dX1_objectiveValue_5 : decode cX1_objectiveValue 5 = .ok (.bipush 10, 2) := by decide +kernel
theorem dX1_objectiveValue_7 : decode cX1_objectiveValue 7 = .ok (.if_icmp .ge 24, 3) := by decide +kernel
theorem dX1_objectiveValue_10 : decode cX1_objectiveValue 10 = .ok (.iload_n 2, 1) := by decide +kernel
theorem dX1_objectiveValue_11 : decode cX1_objectiveValue 11 = .ok (.aload_n 0, 1) := by decide +kernel
theorem dX1_objectiveValue_12 : decode cX1_objectiveValue 12 = .ok (.getfield 13, 3) := by decide +kernel
theorem dX1_objectiveValue_15 : decode cX1_objectiveValue 15 = .ok (.iload_n 3, 1) := by decide +kernel
theorem dX1_objectiveValue_16 : decode cX1_objectiveValue 16 = .ok (.iaload, 1) := by decide +kernel
theorem dX1_objectiveValue_17 : decode cX1_objectiveValue 17 = .ok (.iload_n 1, 1) := by decide +kernel
theorem dX1_objectiveValue_18 : decode cX1_objectiveValue 18 = .ok (.iload_n 3, 1) := by decide +kernel
theorem dX1_objectiveValue_19 : decode cX1_objectiveValue 19 = .ok (.invokestatic 181, 3) := by decide +kernel
theorem dX1_objectiveValue_22 : decode cX1_objectiveValue 22 = .ok (.imul, 1) := by decide +kernel
theorem dX1_objectiveValue_23 : decode cX1_objectiveValue 23 = .ok (.iadd, 1) := by decide +kernel
theorem dX1_objectiveValue_24 : decode cX1_objectiveValue 24 = .ok (.istore_n 2, 1) := by decide +kernel
theorem dX1_objectiveValue_25 : decode cX1_objectiveValue 25 = .ok (.iinc 3 1, 3) := by decide +kernel
theorem dX1_objectiveValue_28 : decode cX1_objectiveValue 28 = .ok (.goto (-24), 3) := by decide +kernel
theorem dX1_objectiveValue_31 : decode cX1_objectiveValue 31 = .ok (.iload_n 2, 1) := by decide +kernel
theorem dX1_objectiveValue_32 : decode cX1_objectiveValue 32 = .ok (.ireturn, 1) := by decide +kernel
set_option maxRecDepth 20000 in
theorem ggX1_isPreferred_X1_comesBefore : GoodIn wsX1_isPreferred wsX1_comesBefore := goodIn_r _ [7] (by decide +kernel) (by decide +kernel)
set_option maxRecDepth 20000 in
theorem gX1_isPreferred_X1_comesBefore : GoodIn wsX1_isPreferred (va_wsS RX1 199 yX1_comesBefore wsX1_comesBefore) := goodIn_app (goodIn_of _ (by decide +kernel)) ggX1_isPreferred_X1_comesBefore
theorem dX1_isPreferred_0 : decode cX1_isPreferred 0 = .ok (.aload_n 0, 1) := by decide +kernel
theorem dX1_isPreferred_1 : decode cX1_isPreferred 1 = .ok (.getfield 44, 3) := by decide +kernel
theorem dX1_isPreferred_4 : decode cX1_isPreferred 4 = .ok (.ifCond .eq 11, 3) := by decide +kernel
theorem dX1_isPreferred_7 : decode cX1_isPreferred 7 = .ok (.iload_n 2, 1) := by decide +kernel
theorem dX1_isPreferred_8 : decode cX1_isPreferred 8 = .ok (.aload_n 0, 1) := by decide +kernel
theorem dX1_isPreferred_9 : decode cX1_isPreferred 9 = .ok (.getfield 47, 3) := by decide +kernel
theorem dX1_isPreferred_12 : decode cX1_isPreferred 12 = .ok (.if_icmp .ge 5, 3) := by decide +kernel
theorem dX1_isPreferred_15 : decode cX1_isPreferred 15 = .ok (.iconst 1, 1) := by decide +kernel
theorem dX1_isPreferred_16 : decode cX1_isPreferred 16 = .ok (.ireturn, 1) := by decide +kernel
theorem dX1_isPreferred_17 : decode cX1_isPreferred 17 = .ok (.iload_n 2, 1) := by decide +kernel
theorem dX1_isPreferred_18 : decode cX1_isPreferred 18 = .ok (.aload_n 0, 1) := by decide +kernel
theorem dX1_isPreferred_19 : decode cX1_isPreferred 19 = .ok (.getfield 47, 3) := by decide +kernel
theorem dX1_isPreferred_22 : decode cX1_isPreferred 22 = .ok (.if_icmp .ne 18, 3) := by decide +kernel
theorem dX1_isPreferred_25 : decode cX1_isPreferred 25 = .ok (.iload_n 1, 1) := by decide +kernel
theorem dX1_isPreferred_26 : decode cX1_isPreferred 26 = .ok (.aload_n 0, 1) := by decide +kernel
theorem dX1_isPreferred_27 : decode cX1_isPreferred 27 = .ok (.getfield 50, 3) := by decide +kernel
theorem dX1_isPreferred_30 : decode cX1_isPreferred 30 = .ok (.invokestatic 199, 3) := by decide +kernel
theorem dX1_isPreferred_33 : decode cX1_isPreferred 33 = .ok (.ifCond .eq 7, 3) := by decide +kernel
theorem dX1_isPreferred_36 : decode cX1_isPreferred 36 = .ok (.iconst 1, 1) := by decide +kernel
theorem dX1_isPreferred_37 : decode cX1_isPreferred 37 = .ok (.goto 4, 3) := by decide +kernel
theorem dX1_isPreferred_40 : decode cX1_isPreferred 40 = .ok (.iconst 0, 1) := by decide +kernel
theorem dX1_isPreferred_41 : decode cX1_isPreferred 41 = .ok (.ireturn, 1) := by decide +kernel
theorem dX1_comesBefore_0 : decode cX1_comesBefore 0 = .ok (.iload_n 0, 1) := by decide +kernel
theorem dX1_comesBefore_1 : decode cX1_comesBefore 1 = .ok (.iload_n 1, 1) := by decide +kernel
theorem dX1_comesBefore_2 : decode cX1_comesBefore 2 = .ok (.ixor, 1) := by decide +kernel
theorem dX1_comesBefore_3 : decode cX1_comesBefore 3 = .ok (.istore_n 2, 1) := by decide +kernel
theorem dX1_comesBefore_4 : decode cX1_comesBefore 4 = .ok (.iload_n 2, 1) := by decide +kernel
theorem dX1_comesBefore_5 : decode cX1_comesBefore 5 = .ok (.iload_n 2, 1) := by decide +kernel
theorem dX1_comesBefore_6 : decode cX1_comesBefore 6 = .ok (.ineg, 1) := by decide +kernel
theorem dX1_comesBefore_7 : decode cX1_comesBefore 7 = .ok (.iand, 1) := by decide +kernel
theorem dX1_comesBefore_8 : decode cX1_comesBefore 8 = .ok (.istore_n 3, 1) := by decide +kernel
theorem dX1_comesBefore_9 : decode cX1_comesBefore 9 = .ok (.iload_n 1, 1) := by decide +kernel
theorem dX1_comesBefore_10 : decode cX1_comesBefore 10 = .ok (.iload_n 3, 1) := by decide +kernel
theorem dX1_comesBefore_11 : decode cX1_comesBefore 11 = .ok (.iand, 1) := by decide +kernel
theorem dX1_comesBefore_12 : decode cX1_comesBefore 12 = .ok (.ifCond .eq 7, 3) := by decide +kernel
theorem dX1_comesBefore_15 : decode cX1_comesBefore 15 = .ok (.iconst 1, 1) := by decide +kernel
theorem dX1_comesBefore_16 : decode cX1_comesBefore 16 = .ok (.goto 4, 3) := by decide +kernel
theorem dX1_comesBefore_19 : decode cX1_comesBefore 19 = .ok (.iconst 0, 1) := by decide +kernel
theorem dX1_comesBefore_20 : decode cX1_comesBefore 20 = .ok (.ireturn, 1) := by decide +kernel
theorem dX1_bit_0 : decode cX1_bit 0 = .ok (.iload_n 0, 1) := by decide +kernel
theorem dX1_bit_1 : decode cX1_bit 1 = .ok (.iload_n 1, 1) := by decide +kernel
theorem dX1_bit_2 : decode cX1_bit 2 = .ok (.ishr, 1) := by decide +kernel
theorem dX1_bit_3 : decode cX1_bit 3 = .ok (.iconst 1, 1) := by decide +kernel
theorem dX1_bit_4 : decode cX1_bit 4 = .ok (.iand, 1) := by decide +kernel
theorem dX1_bit_5 : decode cX1_bit 5 = .ok (.ireturn, 1) := by decide +kernel
theorem dX2_init_0 : decode cX2_init 0 = .ok (.aload_n 0, 1) := by decide +kernel
theorem dX2_init_1 : decode cX2_init 1 = .ok (.invokespecial 1, 3) := by decide +kernel
theorem dX2_init_4 : decode cX2_init 4 = .ok (.aload_n 0, 1) := by decide +kernel
theorem dX2_init_5 : decode cX2_init 5 = .ok (.sipush 418, 3) := by decide +kernel
theorem dX2_init_8 : decode cX2_init 8 = .ok (.newarray .int, 2) := by decide +kernel
theorem dX2_init_10 : decode cX2_init 10 = .ok (.putfield 7, 3) := by decide +kernel
theorem dX2_init_13 : decode cX2_init 13 = .ok (.aload_n 0, 1) := by decide +kernel
theorem dX2_init_14 : decode cX2_init 14 = .ok (.bipush 30, 2) := by decide +kernel
theorem dX2_init_16 : decode cX2_init 16 = .ok (.newarray .boolean, 2) := by decide +kernel
theorem dX2_init_18 : decode cX2_init 18 = .ok (.putfield 13, 3) := by decide +kernel
theorem dX2_init_21 : decode cX2_init 21 = .ok (.aload_n 0, 1) := by decide +kernel
theorem dX2_init_22 : decode cX2_init 22 = .ok (.bipush 10, 2) := by decide +kernel
theorem dX2_init_24 : decode cX2_init 24 = .ok (.newarray .int, 2) := by decide +kernel
theorem dX2_init_26 : decode cX2_init 26 = .ok (.putfield 17, 3) := by decide +kernel
theorem dX2_init_29 : decode cX2_init 29 = .ok (.aload_n 0, 1) := by decide +kernel
theorem dX2_init_30 : decode cX2_init 30 = .ok (.bipush 10, 2) := by decide +kernel
theorem dX2_init_32 : decode cX2_init 32 = .ok (.newarray .int, 2) := by decide +kernel
theorem dX2_init_34 : decode cX2_init 34 = .ok (.putfield 20, 3) := by decide +kernel
theorem dX2_init_37 : decode cX2_init 37 = .ok (.aload_n 0, 1) := by decide +kernel
theorem dX2_init_38 : decode cX2_init 38 = .ok (.bipush 10, 2) := by decide +kernel
theorem dX2_init_40 : decode cX2_init 40 = .ok (.newarray .int, 2) := by decide +kernel
theorem dX2_init_42 : decode cX2_init 42 = .ok (.putfield 23, 3) := by decide +kernel
theorem dX2_init_45 : decode cX2_init 45 = .ok (.return_, 1) := by decide +kernel
theorem dX2_thrown_0 : decode cX2_thrown 0 = .ok (.aload_n 0, 1) := by decide +kernel
theorem dX2_thrown_1 : decode cX2_thrown 1 = .ok (.getfield 26, 3) := by decide +kernel
theorem dX2_thrown_4 : decode cX2_thrown 4 = .ok (.ireturn, 1) := by decide +kernel
theorem dX2_outside_0 : decode cX2_outside 0 = .ok (.iload_n 0, 1) := by decide +kernel
theorem dX2_outside_1 : decode cX2_outside 1 = .ok (.iload_n 1, 1) := by decide +kernel
theorem dX2_outside_2 : decode cX2_outside 2 = .ok (.if_icmp .lt 8, 3) := by decide +kernel
theorem dX2_outside_5 : decode cX2_outside 5 = .ok (.iload_n 0, 1) := by decide +kernel
theorem dX2_outside_6 : decode cX2_outside 6 = .ok (.iload_n 2, 1) := by decide +kernel
theorem dX2_outside_7 : decode cX2_outside 7 = .ok (.if_icmp .le 7, 3) := by decide +kernel
theorem dX2_outside_10 : decode cX2_outside 10 = .ok (.iconst 1, 1) := by decide +kernel
theorem dX2_outside_11 : decode cX2_outside 11 = .ok (.goto 4, 3) := by decide +kernel
theorem dX2_outside_14 : decode cX2_outside 14 = .ok (.iconst 0, 1) := by decide +kernel
theorem dX2_outside_15 : decode cX2_outside 15 = .ok (.ireturn, 1) := by decide +kernel
theorem dX2_fails_0 : decode cX2_fails 0 = .ok (.aload_n 0, 1) := by decide +kernel
theorem dX2_fails_1 : decode cX2_fails 1 = .ok (.iload_n 1, 1) := by decide +kernel
theorem dX2_fails_2 : decode cX2_fails 2 = .ok (.ifCond .eq 7, 3) := by decide +kernel
theorem dX2_fails_5 : decode cX2_fails 5 = .ok (.iconst 1, 1) := by decide +kernel
theorem dX2_fails_6 : decode cX2_fails 6 = .ok (.goto 20, 3) := by decide +kernel
theorem dX2_fails_9 : decode cX2_fails 9 = .ok (.iload_n 2, 1) := by decide +kernel
theorem dX2_fails_10 : decode cX2_fails 10 = .ok (.ifCond .eq 7, 3) := by decide +kernel
theorem dX2_fails_13 : decode cX2_fails 13 = .ok (.iconst 2, 1) := by decide +kernel
theorem dX2_fails_14 : decode cX2_fails 14 = .ok (.goto 12, 3) := by decide +kernel
theorem dX2_fails_17 : decode cX2_fails 17 = .ok (.iload_n 3, 1) := by decide +kernel
theorem dX2_fails_18 : decode cX2_fails 18 = .ok (.ifCond .eq 7, 3) := by decide +kernel
theorem dX2_fails_21 : decode cX2_fails 21 = .ok (.iconst 3, 1) := by decide +kernel
theorem dX2_fails_22 : decode cX2_fails 22 = .ok (.goto 4, 3) := by decide +kernel
theorem dX2_fails_25 : decode cX2_fails 25 = .ok (.iconst 0, 1) := by decide +kernel
theorem dX2_fails_26 : decode cX2_fails 26 = .ok (.putfield 26, 3) := by decide +kernel
theorem dX2_fails_29 : decode cX2_fails 29 = .ok (.aload_n 0, 1) := by decide +kernel
theorem dX2_fails_30 : decode cX2_fails 30 = .ok (.getfield 26, 3) := by decide +kernel
theorem dX2_fails_33 : decode cX2_fails 33 = .ok (.ifCond .le 7, 3) := by decide +kernel
theorem dX2_fails_36 : decode cX2_fails 36 = .ok (.iconst 1, 1) := by decide +kernel
theorem dX2_fails_37 : decode cX2_fails 37 = .ok (.goto 4, 3) := by decide +kernel
theorem dX2_fails_40 : decode cX2_fails 40 = .ok (.iconst 0, 1) := by decide +kernel
theorem dX2_fails_41 : decode cX2_fails 41 = .ok (.ireturn, 1) := by decide +kernel
theorem dX2_size_0 : decode cX2_size 0 = .ok (.iload_n 0, 1) := by decide +kernel
theorem dX2_size_1 : decode cX2_size 1 = .ok (.ifCond .ge 8, 3) := by decide +kernel
theorem dX2_size_4 : decode cX2_size 4 = .ok (.iload_n 0, 1) := by decide +kernel
theorem dX2_size_5 : decode cX2_size 5 = .ok (.ineg, 1) := by decide +kernel
theorem dX2_size_6 : decode cX2_size 6 = .ok (.goto 4, 3) := by decide +kernel
theorem dX2_size_9 : decode cX2_size 9 = .ok (.iload_n 0, 1) := by decide +kernel
theorem dX2_size_10 : decode cX2_size 10 = .ok (.ireturn, 1) := by decide +kernel
set_option maxRecDepth 20000 in
theorem ggX2_sizes_X2_size : GoodIn wsX2_sizes wsX2_size := goodIn_r _ [5] (by decide +kernel) (by decide +kernel)
set_option maxRecDepth 20000 in
theorem gX2_sizes_X2_size : GoodIn wsX2_sizes (va_wsS RX2 30 yX2_size wsX2_size) := goodIn_app (goodIn_of _ (by decide +kernel)) ggX2_sizes_X2_size
theorem dX2_sizes_0 : decode cX2_sizes 0 = .ok (.iconst 0, 1) := by decide +kernel
theorem dX2_sizes_1 : decode cX2_sizes 1 = .ok (.istore_n 2, 1) := by decide +kernel
theorem dX2_sizes_2 : decode cX2_sizes 2 = .ok (.iconst 0, 1) := by decide +kernel
theorem dX2_sizes_3 : decode cX2_sizes 3 = .ok (.istore_n 3, 1) := by decide +kernel
theorem dX2_sizes_4 : decode cX2_sizes 4 = .ok (.iload_n 3, 1) := by decide +kernel
theorem dX2_sizes_5 : decode cX2_sizes 5 = .ok (.bipush 10, 2) := by decide +kernel
theorem dX2_sizes_7 : decode cX2_sizes 7 = .ok (.if_icmp .ge 26, 3) := by decide +kernel
theorem dX2_sizes_10 : decode cX2_sizes 10 = .ok (.iload_n 2, 1) := by decide +kernel
theorem dX2_sizes_11 : decode cX2_sizes 11 = .ok (.aload_n 0, 1) := by decide +kernel
theorem dX2_sizes_12 : decode cX2_sizes 12 = .ok (.getfield 7, 3) := by decide +kernel
theorem dX2_sizes_15 : decode cX2_sizes 15 = .ok (.bipush 11, 2) := by decide +kernel
theorem dX2_sizes_17 : decode cX2_sizes 17 = .ok (.iload_n 1, 1) := by decide +kernel
theorem dX2_sizes_18 : decode cX2_sizes 18 = .ok (.imul, 1) := by decide +kernel
theorem dX2_sizes_19 : decode cX2_sizes 19 = .ok (.iload_n 3, 1) := by decide +kernel
theorem dX2_sizes_20 : decode cX2_sizes 20 = .ok (.iadd, 1) := by decide +kernel
theorem dX2_sizes_21 : decode cX2_sizes 21 = .ok (.iaload, 1) := by decide +kernel
theorem dX2_sizes_22 : decode cX2_sizes 22 = .ok (.invokestatic 30, 3) := by decide +kernel
theorem dX2_sizes_25 : decode cX2_sizes 25 = .ok (.iadd, 1) := by decide +kernel
theorem dX2_sizes_26 : decode cX2_sizes 26 = .ok (.istore_n 2, 1) := by decide +kernel
theorem dX2_sizes_27 : decode cX2_sizes 27 = .ok (.iinc 3 1, 3) := by decide +kernel
theorem dX2_sizes_30 : decode cX2_sizes 30 = .ok (.goto (-26), 3) := by decide +kernel
theorem dX2_sizes_33 : decode cX2_sizes 33 = .ok (.iload_n 2, 1) := by decide +kernel
theorem dX2_sizes_34 : decode cX2_sizes 34 = .ok (.ireturn, 1) := by decide +kernel
theorem dX2_copy_0 : decode cX2_copy 0 = .ok (.iconst 0, 1) := by decide +kernel
theorem dX2_copy_1 : decode cX2_copy 1 = .ok (.istore_n 3, 1) := by decide +kernel
theorem dX2_copy_2 : decode cX2_copy 2 = .ok (.iload_n 3, 1) := by decide +kernel
theorem dX2_copy_3 : decode cX2_copy 3 = .ok (.bipush 11, 2) := by decide +kernel
theorem dX2_copy_5 : decode cX2_copy 5 = .ok (.if_icmp .ge 31, 3) := by decide +kernel
theorem dX2_copy_8 : decode cX2_copy 8 = .ok (.aload_n 0, 1) := by decide +kernel
theorem dX2_copy_9 : decode cX2_copy 9 = .ok (.getfield 7, 3) := by decide +kernel
theorem dX2_copy_12 : decode cX2_copy 12 = .ok (.bipush 11, 2) := by decide +kernel
theorem dX2_copy_14 : decode cX2_copy 14 = .ok (.iload_n 2, 1) := by decide +kernel
theorem dX2_copy_15 : decode cX2_copy 15 = .ok (.imul, 1) := by decide +kernel
theorem dX2_copy_16 : decode cX2_copy 16 = .ok (.iload_n 3, 1) := by decide +kernel
theorem dX2_copy_17 : decode cX2_copy 17 = .ok (.iadd, 1) := by decide +kernel
theorem dX2_copy_18 : decode cX2_copy 18 = .ok (.aload_n 0, 1) := by decide +kernel
theorem dX2_copy_19 : decode cX2_copy 19 = .ok (.getfield 7, 3) := by decide +kernel
theorem dX2_copy_22 : decode cX2_copy 22 = .ok (.bipush 11, 2) := by decide +kernel
theorem dX2_copy_24 : decode cX2_copy 24 = .ok (.iload_n 1, 1) := by decide +kernel
theorem dX2_copy_25 : decode cX2_copy 25 = .ok (.imul, 1) := by decide +kernel
theorem dX2_copy_26 : decode cX2_copy 26 = .ok (.iload_n 3, 1) := by decide +kernel
theorem dX2_copy_27 : decode cX2_copy 27 = .ok (.iadd, 1) := by decide +kernel
theorem dX2_copy_28 : decode cX2_copy 28 = .ok (.iaload, 1) := by decide +kernel
theorem dX2_copy_29 : decode cX2_copy 29 = .ok (.iastore, 1) := by decide +kernel
theorem dX2_copy_30 : decode cX2_copy 30 = .ok (.iinc 3 1, 3) := by decide +kernel
theorem dX2_copy_33 : decode cX2_copy 33 = .ok (.goto (-31), 3) := by decide +kernel
theorem dX2_copy_36 : decode cX2_copy 36 = .ok (.return_, 1) := by decide +kernel
set_option maxRecDepth 20000 in
theorem ggX2_term_X2_outside : GoodIn wsX2_term wsX2_outside := goodIn_r _ [5] (by decide +kernel) (by decide +kernel)
set_option maxRecDepth 20000 in
theorem gX2_term_X2_outside : GoodIn wsX2_term (va_wsS RX2 34 yX2_outside wsX2_outside) := goodIn_app (goodIn_of _ (by decide +kernel)) ggX2_term_X2_outside
set_option maxRecDepth 20000 in
theorem ggX2_term_X2_fails : GoodIn wsX2_term wsX2_fails := goodIn_r _ [9, 10, 11, 12, 13, 14, 15, 16, 17, 18, 19, 20, 21, 22, 23] (by decide +kernel) (by decide +kernel)
set_option maxRecDepth 20000 in
theorem gX2_term_X2_fails : GoodIn wsX2_term (wsV RX2 38 RX2 yX2_fails wsX2_fails) := goodIn_app (goodIn_of _ (by decide +kernel)) ggX2_term_X2_fails
theorem dX2_term_0 : decode cX2_term 0 = .ok (.aload_n 0, 1) := by decide +kernel
theorem dX2_term_1 : decode cX2_term 1 = .ok (.iload_n 1, 1) := by decide +kernel
theorem dX2_term_2 : decode cX2_term 2 = .ok (.iconst 0, 1) := by decide +kernel
theorem dX2_term_3 : decode cX2_term 3 = .ok (.bipush 9, 2) := by decide +kernel
theorem dX2_term_5 : decode cX2_term 5 = .ok (.invokestatic 34, 3) := by decide +kernel
theorem dX2_term_8 : decode cX2_term 8 = .ok (.ifCond .ne 14, 3) := by decide +kernel
theorem dX2_term_11 : decode cX2_term 11 = .ok (.iload_n 2, 1) := by decide +kernel
theorem dX2_term_12 : decode cX2_term 12 = .ok (.bipush (-99), 2) := by decide +kernel
theorem dX2_term_14 : decode cX2_term 14 = .ok (.bipush 99, 2) := by decide +kernel
theorem dX2_term_16 : decode cX2_term 16 = .ok (.invokestatic 34, 3) := by decide +kernel
theorem dX2_term_19 : decode cX2_term 19 = .ok (.ifCond .eq 7, 3) := by decide +kernel
theorem dX2_term_22 : decode cX2_term 22 = .ok (.iconst 1, 1) := by decide +kernel
theorem dX2_term_23 : decode cX2_term 23 = .ok (.goto 4, 3) := by decide +kernel
theorem dX2_term_26 : decode cX2_term 26 = .ok (.iconst 0, 1) := by decide +kernel
theorem dX2_term_27 : decode cX2_term 27 = .ok (.iconst 0, 1) := by decide +kernel
theorem dX2_term_28 : decode cX2_term 28 = .ok (.iconst 0, 1) := by decide +kernel
theorem dX2_term_29 : decode cX2_term 29 = .ok (.invokevirtual 38, 3) := by decide +kernel
theorem dX2_term_32 : decode cX2_term 32 = .ok (.ifCond .eq 4, 3) := by decide +kernel
theorem dX2_term_35 : decode cX2_term 35 = .ok (.return_, 1) := by decide +kernel
theorem dX2_term_36 : decode cX2_term 36 = .ok (.aload_n 0, 1) := by decide +kernel
theorem dX2_term_37 : decode cX2_term 37 = .ok (.getfield 17, 3) := by decide +kernel
theorem dX2_term_40 : decode cX2_term 40 = .ok (.iload_n 1, 1) := by decide +kernel
theorem dX2_term_41 : decode cX2_term 41 = .ok (.iload_n 2, 1) := by decide +kernel
theorem dX2_term_42 : decode cX2_term 42 = .ok (.iastore, 1) := by decide +kernel
theorem dX2_term_43 : decode cX2_term 43 = .ok (.return_, 1) := by decide +kernel
theorem dX2_empty_0 : decode cX2_empty 0 = .ok (.iconst 0, 1) := by decide +kernel
theorem dX2_empty_1 : decode cX2_empty 1 = .ok (.istore_n 1, 1) := by decide +kernel
theorem dX2_empty_2 : decode cX2_empty 2 = .ok (.iload_n 1, 1) := by decide +kernel
theorem dX2_empty_3 : decode cX2_empty 3 = .ok (.bipush 10, 2) := by decide +kernel
theorem dX2_empty_5 : decode cX2_empty 5 = .ok (.if_icmp .ge 16, 3) := by decide +kernel
theorem dX2_empty_8 : decode cX2_empty 8 = .ok (.aload_n 0, 1) := by decide +kernel
theorem dX2_empty_9 : decode cX2_empty 9 = .ok (.getfield 17, 3) := by decide +kernel
theorem dX2_empty_12 : decode cX2_empty 12 = .ok (.iload_n 1, 1) := by decide +kernel
theorem dX2_empty_13 : decode cX2_empty 13 = .ok (.iconst 0, 1) := by decide +kernel
theorem dX2_empty_14 : decode cX2_empty 14 = .ok (.iastore, 1) := by decide +kernel
theorem dX2_empty_15 : decode cX2_empty 15 = .ok (.iinc 1 1, 3) := by decide +kernel
theorem dX2_empty_18 : decode cX2_empty 18 = .ok (.goto (-16), 3) := by decide +kernel
theorem dX2_empty_21 : decode cX2_empty 21 = .ok (.return_, 1) := by decide +kernel
set_option maxRecDepth 20000 in
theorem ggX2_clear_X2_empty : GoodIn wsX2_clear wsX2_empty := goodIn_r _ [6, 7, 8, 9, 10, 11, 12, 13, 14, 15, 16, 17, 18, 19, 20] (by decide +kernel) (by decide +kernel)
set_option maxRecDepth 20000 in
theorem gX2_clear_X2_empty : GoodIn wsX2_clear (wsV RX2 42 RX2 yX2_empty wsX2_empty) := goodIn_app (goodIn_of _ (by decide +kernel)) ggX2_clear_X2_empty
theorem dX2_clear_0 : decode cX2_clear 0 = .ok (.aload_n 0, 1) := by decide +kernel
theorem dX2_clear_1 : decode cX2_clear 1 = .ok (.iconst 0, 1) := by decide +kernel
theorem dX2_clear_2 : decode cX2_clear 2 = .ok (.putfield 26, 3) := by decide +kernel
theorem dX2_clear_5 : decode cX2_clear 5 = .ok (.aload_n 0, 1) := by decide +kernel
theorem dX2_clear_6 : decode cX2_clear 6 = .ok (.invokevirtual 42, 3) := by decide +kernel
theorem dX2_clear_9 : decode cX2_clear 9 = .ok (.return_, 1) := by decide +kernel
theorem dX2_normalize_0 : decode cX2_normalize 0 = .ok (.iload_n 3, 1) := by decide +kernel
theorem dX2_normalize_1 : decode cX2_normalize 1 = .ok (.istore 4, 2) := by decide +kernel
theorem dX2_normalize_3 : decode cX2_normalize 3 = .ok (.iconst 0, 1) := by decide +kernel
theorem dX2_normalize_4 : decode cX2_normalize 4 = .ok (.istore 5, 2) := by decide +kernel
theorem dX2_normalize_6 : decode cX2_normalize 6 = .ok (.iload 5, 2) := by decide +kernel
theorem dX2_normalize_8 : decode cX2_normalize 8 = .ok (.bipush 10, 2) := by decide +kernel
theorem dX2_normalize_10 : decode cX2_normalize 10 = .ok (.if_icmp .ge 64, 3) := by decide +kernel
theorem dX2_normalize_13 : decode cX2_normalize 13 = .ok (.iload_n 2, 1) := by decide +kernel
theorem dX2_normalize_14 : decode cX2_normalize 14 = .ok (.iload_n 1, 1) := by decide +kernel
theorem dX2_normalize_15 : decode cX2_normalize 15 = .ok (.ifCond .eq 13, 3) := by decide +kernel
theorem dX2_normalize_18 : decode cX2_normalize 18 = .ok (.aload_n 0, 1) := by decide +kernel
theorem dX2_normalize_19 : decode cX2_normalize 19 = .ok (.getfield 20, 3) := by decide +kernel
theorem dX2_normalize_22 : decode cX2_normalize 22 = .ok (.iload 5, 2) := by decide +kernel
theorem dX2_normalize_24 : decode cX2_normalize 24 = .ok (.iaload, 1) := by decide +kernel
theorem dX2_normalize_25 : decode cX2_normalize 25 = .ok (.goto 10, 3) := by decide +kernel
theorem dX2_normalize_28 : decode cX2_normalize 28 = .ok (.aload_n 0, 1) := by decide +kernel
theorem dX2_normalize_29 : decode cX2_normalize 29 = .ok (.getfield 17, 3) := by decide +kernel
theorem dX2_normalize_32 : decode cX2_normalize 32 = .ok (.iload 5, 2) := by decide +kernel
theorem dX2_normalize_34 : decode cX2_normalize 34 = .ok (.iaload, 1) := by decide +kernel
theorem dX2_normalize_35 : decode cX2_normalize 35 = .ok (.imul, 1) := by decide +kernel
theorem dX2_normalize_36 : decode cX2_normalize 36 = .ok (.istore 6, 2) := by decide +kernel
theorem dX2_normalize_38 : decode cX2_normalize 38 = .ok (.aload_n 0, 1) := by decide +kernel
theorem dX2_normalize_39 : decode cX2_normalize 39 = .ok (.getfield 7, 3) := by decide +kernel
theorem dX2_normalize_42 : decode cX2_normalize 42 = .ok (.sipush 396, 3) := by decide +kernel
theorem dX2_normalize_45 : decode cX2_normalize 45 = .ok (.iload 5, 2) := by decide +kernel
theorem dX2_normalize_47 : decode cX2_normalize 47 = .ok (.iadd, 1) := by decide +kernel
theorem dX2_normalize_48 : decode cX2_normalize 48 = .ok (.iload 6, 2) := by decide +kernel
theorem dX2_normalize_50 : decode cX2_normalize 50 = .ok (.iastore, 1) := by decide +kernel
theorem dX2_normalize_51 : decode cX2_normalize 51 = .ok (.iload 4, 2) := by decide +kernel
theorem dX2_normalize_53 : decode cX2_normalize 53 = .ok (.iload 6, 2) := by decide +kernel
theorem dX2_normalize_55 : decode cX2_normalize 55 = .ok (.ifCond .ge 9, 3) := by decide +kernel
theorem dX2_normalize_58 : decode cX2_normalize 58 = .ok (.iload 6, 2) := by decide +kernel
theorem dX2_normalize_60 : decode cX2_normalize 60 = .ok (.ineg, 1) := by decide +kernel
theorem dX2_normalize_61 : decode cX2_normalize 61 = .ok (.goto 4, 3) := by decide +kernel
theorem dX2_normalize_64 : decode cX2_normalize 64 = .ok (.iconst 0, 1) := by decide +kernel
theorem dX2_normalize_65 : decode cX2_normalize 65 = .ok (.iadd, 1) := by decide +kernel
theorem dX2_normalize_66 : decode cX2_normalize 66 = .ok (.istore 4, 2) := by decide +kernel
theorem dX2_normalize_68 : decode cX2_normalize 68 = .ok (.iinc 5 1, 3) := by decide +kernel
theorem dX2_normalize_71 : decode cX2_normalize 71 = .ok (.goto (-65), 3) := by decide +kernel
theorem dX2_normalize_74 : decode cX2_normalize 74 = .ok (.aload_n 0, 1) := by decide +kernel
theorem dX2_normalize_75 : decode cX2_normalize 75 = .ok (.getfield 7, 3) := by decide +kernel
theorem dX2_normalize_78 : decode cX2_normalize 78 = .ok (.sipush 406, 3) := by decide +kernel
theorem dX2_normalize_81 : decode cX2_normalize 81 = .ok (.iload 4, 2) := by decide +kernel
theorem dX2_normalize_83 : decode cX2_normalize 83 = .ok (.ifCond .ge 7, 3) := by decide +kernel
theorem dX2_normalize_86 : decode cX2_normalize 86 = .ok (.iconst 0, 1) := by decide +kernel
theorem dX2_normalize_87 : decode cX2_normalize 87 = .ok (.goto 5, 3) := by decide +kernel
theorem dX2_normalize_90 : decode cX2_normalize 90 = .ok (.iload 4, 2) := by decide +kernel
theorem dX2_normalize_92 : decode cX2_normalize 92 = .ok (.iastore, 1) := by decide +kernel
theorem dX2_normalize_93 : decode cX2_normalize 93 = .ok (.return_, 1) := by decide +kernel
set_option maxRecDepth 20000 in
theorem ggX2_keep_X2_copy : GoodIn wsX2_keep wsX2_copy := goodIn_r _ [7, 8, 9, 10, 11, 12, 13, 14, 15, 16, 17, 18, 19, 20, 21] (by decide +kernel) (by decide +kernel)
set_option maxRecDepth 20000 in
theorem gX2_keep_X2_copy : GoodIn wsX2_keep (wsV RX2 48 RX2 yX2_copy wsX2_copy) := goodIn_app (goodIn_of _ (by decide +kernel)) ggX2_keep_X2_copy
theorem dX2_keep_0 : decode cX2_keep 0 = .ok (.aload_n 0, 1) := by decide +kernel
theorem dX2_keep_1 : decode cX2_keep 1 = .ok (.iload_n 1, 1) := by decide +kernel
theorem dX2_keep_2 : decode cX2_keep 2 = .ok (.aload_n 0, 1) := by decide +kernel
theorem dX2_keep_3 : decode cX2_keep 3 = .ok (.getfield 45, 3) := by decide +kernel
theorem dX2_keep_6 : decode cX2_keep 6 = .ok (.invokevirtual 48, 3) := by decide +kernel
theorem dX2_keep_9 : decode cX2_keep 9 = .ok (.aload_n 0, 1) := by decide +kernel
theorem dX2_keep_10 : decode cX2_keep 10 = .ok (.getfield 13, 3) := by decide +kernel
theorem dX2_keep_13 : decode cX2_keep 13 = .ok (.aload_n 0, 1) := by decide +kernel
theorem dX2_keep_14 : decode cX2_keep 14 = .ok (.getfield 45, 3) := by decide +kernel
theorem dX2_keep_17 : decode cX2_keep 17 = .ok (.iload_n 2, 1) := by decide +kernel
theorem dX2_keep_18 : decode cX2_keep 18 = .ok (.bastore, 1) := by decide +kernel
theorem dX2_keep_19 : decode cX2_keep 19 = .ok (.aload_n 0, 1) := by decide +kernel
theorem dX2_keep_20 : decode cX2_keep 20 = .ok (.dup, 1) := by decide +kernel
theorem dX2_keep_21 : decode cX2_keep 21 = .ok (.getfield 45, 3) := by decide +kernel
theorem dX2_keep_24 : decode cX2_keep 24 = .ok (.iconst 1, 1) := by decide +kernel
theorem dX2_keep_25 : decode cX2_keep 25 = .ok (.iadd, 1) := by decide +kernel
theorem dX2_keep_26 : decode cX2_keep 26 = .ok (.putfield 45, 3) := by decide +kernel
theorem dX2_keep_29 : decode cX2_keep 29 = .ok (.aload_n 0, 1) := by decide +kernel
theorem dX2_keep_30 : decode cX2_keep 30 = .ok (.getfield 45, 3) := by decide +kernel
theorem dX2_keep_33 : decode cX2_keep 33 = .ok (.iconst 1, 1) := by decide +kernel
theorem dX2_keep_34 : decode cX2_keep 34 = .ok (.isub, 1) := by decide +kernel
theorem dX2_keep_35 : decode cX2_keep 35 = .ok (.ireturn, 1) := by decide +kernel
set_option maxRecDepth 20000 in
theorem ggX2_require_X2_outside : GoodIn wsX2_require wsX2_outside := goodIn_r _ [6] (by decide +kernel) (by decide +kernel)
set_option maxRecDepth 20000 in
theorem gX2_require_X2_outside : GoodIn wsX2_require (va_wsS RX2 34 yX2_outside wsX2_outside) := goodIn_app (goodIn_of _ (by decide +kernel)) ggX2_require_X2_outside
set_option maxRecDepth 20000 in
theorem ggX2_require_X2_fails : GoodIn wsX2_require wsX2_fails := goodIn_r _ [10, 11, 32, 33, 34, 35, 36, 37, 38, 39, 40, 41, 42, 43, 44] (by decide +kernel) (by decide +kernel)
set_option maxRecDepth 20000 in
theorem gX2_require_X2_fails : GoodIn wsX2_require (wsV RX2 38 RX2 yX2_fails wsX2_fails) := goodIn_app (goodIn_of _ (by decide +kernel)) ggX2_require_X2_fails
set_option maxRecDepth 20000 in
theorem ggX2_require_X2_normalize : GoodIn wsX2_require wsX2_normalize := goodIn_r _ [15, 16, 17, 18, 32, 33, 34, 35, 36, 37, 38, 39, 40, 41, 42, 43, 44] (by decide +kernel) (by decide +kernel)
set_option maxRecDepth 20000 in
theorem gX2_require_X2_normalize : GoodIn wsX2_require (wsV RX2 56 RX2 yX2_normalize wsX2_normalize) := goodIn_app (goodIn_of _ (by decide +kernel)) ggX2_require_X2_normalize
set_option maxRecDepth 20000 in
theorem ggX2_require_X2_empty : GoodIn wsX2_require wsX2_empty := goodIn_r _ [22, 17, 32, 33, 34, 35, 36, 37, 38, 39, 40, 41, 42, 43, 44] (by decide +kernel) (by decide +kernel)
set_option maxRecDepth 20000 in
theorem gX2_require_X2_empty : GoodIn wsX2_require (wsV RX2 42 RX2 yX2_empty wsX2_empty) := goodIn_app (goodIn_of _ (by decide +kernel)) ggX2_require_X2_empty
set_option maxRecDepth 20000 in
theorem ggX2_require_X2_keep : GoodIn wsX2_require wsX2_keep := goodIn_r _ [26, 1, 27, 28, 29, 30, 5, 31, 18, 32, 33, 34, 35, 36, 37, 38, 39, 40, 41, 42, 43, 44] (by decide +kernel) (by decide +kernel)
set_option maxRecDepth 20000 in
theorem gX2_require_X2_keep : GoodIn wsX2_require (wsV RX2 60 RX2 yX2_keep wsX2_keep) := goodIn_app (goodIn_of _ (by decide +kernel)) ggX2_require_X2_keep
theorem dX2_require_0 : decode cX2_require 0 = .ok (.aload_n 0, 1) := by decide +kernel
theorem dX2_require_1 : decode cX2_require 1 = .ok (.iload_n 1, 1) := by decide +kernel
theorem dX2_require_2 : decode cX2_require 2 = .ok (.iconst 0, 1) := by decide +kernel
theorem dX2_require_3 : decode cX2_require 3 = .ok (.iconst 1, 1) := by decide +kernel
theorem dX2_require_4 : decode cX2_require 4 = .ok (.invokestatic 34, 3) := by decide +kernel
theorem dX2_require_7 : decode cX2_require 7 = .ok (.ifCond .ne 16, 3) := by decide +kernel
theorem dX2_require_10 : decode cX2_require 10 = .ok (.iload_n 2, 1) := by decide +kernel
theorem dX2_require_11 : decode cX2_require 11 = .ok (.sipush (-9999), 3) := by decide +kernel
theorem dX2_require_14 : decode cX2_require 14 = .ok (.sipush 9999, 3) := by decide +kernel
theorem dX2_require_17 : decode cX2_require 17 = .ok (.invokestatic 34, 3) := by decide +kernel
theorem dX2_require_20 : decode cX2_require 20 = .ok (.ifCond .eq 7, 3) := by decide +kernel
theorem dX2_require_23 : decode cX2_require 23 = .ok (.iconst 1, 1) := by decide +kernel
theorem dX2_require_24 : decode cX2_require 24 = .ok (.goto 4, 3) := by decide +kernel
theorem dX2_require_27 : decode cX2_require 27 = .ok (.iconst 0, 1) := by decide +kernel
theorem dX2_require_28 : decode cX2_require 28 = .ok (.aload_n 0, 1) := by decide +kernel
theorem dX2_require_29 : decode cX2_require 29 = .ok (.getfield 45, 3) := by decide +kernel
theorem dX2_require_32 : decode cX2_require 32 = .ok (.bipush 30, 2) := by decide +kernel
theorem dX2_require_34 : decode cX2_require 34 = .ok (.if_icmp .eq 10, 3) := by decide +kernel
theorem dX2_require_37 : decode cX2_require 37 = .ok (.aload_n 0, 1) := by decide +kernel
theorem dX2_require_38 : decode cX2_require 38 = .ok (.getfield 52, 3) := by decide +kernel
theorem dX2_require_41 : decode cX2_require 41 = .ok (.ifCond .eq 7, 3) := by decide +kernel
theorem dX2_require_44 : decode cX2_require 44 = .ok (.iconst 1, 1) := by decide +kernel
theorem dX2_require_45 : decode cX2_require 45 = .ok (.goto 4, 3) := by decide +kernel
theorem dX2_require_48 : decode cX2_require 48 = .ok (.iconst 0, 1) := by decide +kernel
theorem dX2_require_49 : decode cX2_require 49 = .ok (.iconst 0, 1) := by decide +kernel
theorem dX2_require_50 : decode cX2_require 50 = .ok (.invokevirtual 38, 3) := by decide +kernel
theorem dX2_require_53 : decode cX2_require 53 = .ok (.ifCond .eq 5, 3) := by decide +kernel
theorem dX2_require_56 : decode cX2_require 56 = .ok (.iconst 0, 1) := by decide +kernel
theorem dX2_require_57 : decode cX2_require 57 = .ok (.ireturn, 1) := by decide +kernel
theorem dX2_require_58 : decode cX2_require 58 = .ok (.aload_n 0, 1) := by decide +kernel
theorem dX2_require_59 : decode cX2_require 59 = .ok (.iconst 0, 1) := by decide +kernel
theorem dX2_require_60 : decode cX2_require 60 = .ok (.iload_n 1, 1) := by decide +kernel
theorem dX2_require_61 : decode cX2_require 61 = .ok (.ifCond .ne 7, 3) := by decide +kernel
theorem dX2_require_64 : decode cX2_require 64 = .ok (.iconst 1, 1) := by decide +kernel
theorem dX2_require_65 : decode cX2_require 65 = .ok (.goto 4, 3) := by decide +kernel
theorem dX2_require_68 : decode cX2_require 68 = .ok (.iconst (-1), 1) := by decide +kernel
theorem dX2_require_69 : decode cX2_require 69 = .ok (.iload_n 1, 1) := by decide +kernel
theorem dX2_require_70 : decode cX2_require 70 = .ok (.ifCond .ne 7, 3) := by decide +kernel
theorem dX2_require_73 : decode cX2_require 73 = .ok (.iload_n 2, 1) := by decide +kernel
theorem dX2_require_74 : decode cX2_require 74 = .ok (.goto 5, 3) := by decide +kernel
theorem dX2_require_77 : decode cX2_require 77 = .ok (.iload_n 2, 1) := by decide +kernel
theorem dX2_require_78 : decode cX2_require 78 = .ok (.ineg, 1) := by decide +kernel
theorem dX2_require_79 : decode cX2_require 79 = .ok (.invokevirtual 56, 3) := by decide +kernel
theorem dX2_require_82 : decode cX2_require 82 = .ok (.aload_n 0, 1) := by decide +kernel
theorem dX2_require_83 : decode cX2_require 83 = .ok (.invokevirtual 42, 3) := by decide +kernel
theorem dX2_require_86 : decode cX2_require 86 = .ok (.aload_n 0, 1) := by decide +kernel
theorem dX2_require_87 : decode cX2_require 87 = .ok (.bipush 36, 2) := by decide +kernel
theorem dX2_require_89 : decode cX2_require 89 = .ok (.iconst 1, 1) := by decide +kernel
theorem dX2_require_90 : decode cX2_require 90 = .ok (.invokevirtual 60, 3) := by decide +kernel
theorem dX2_require_93 : decode cX2_require 93 = .ok (.ireturn, 1) := by decide +kernel
set_option maxRecDepth 20000 in
theorem ggX2_objective_X2_fails : GoodIn wsX2_objective wsX2_fails := goodIn_r _ [8, 9, 14, 15, 16, 17, 18, 19, 20, 21, 22, 23, 24, 25, 26] (by decide +kernel) (by decide +kernel)
set_option maxRecDepth 20000 in
theorem gX2_objective_X2_fails : GoodIn wsX2_objective (wsV RX2 38 RX2 yX2_fails wsX2_fails) := goodIn_app (goodIn_of _ (by decide +kernel)) ggX2_objective_X2_fails
set_option maxRecDepth 20000 in
theorem ggX2_objective_X2_empty : GoodIn wsX2_objective wsX2_empty := goodIn_r _ [13, 3, 14, 15, 16, 17, 18, 19, 20, 21, 22, 23, 24, 25, 26] (by decide +kernel) (by decide +kernel)
set_option maxRecDepth 20000 in
theorem gX2_objective_X2_empty : GoodIn wsX2_objective (wsV RX2 42 RX2 yX2_empty wsX2_empty) := goodIn_app (goodIn_of _ (by decide +kernel)) ggX2_objective_X2_empty
theorem dX2_objective_0 : decode cX2_objective 0 = .ok (.aload_n 0, 1) := by decide +kernel
theorem dX2_objective_1 : decode cX2_objective 1 = .ok (.aload_n 0, 1) := by decide +kernel
theorem dX2_objective_2 : decode cX2_objective 2 = .ok (.getfield 52, 3) := by decide +kernel
theorem dX2_objective_5 : decode cX2_objective 5 = .ok (.iconst 0, 1) := by decide +kernel
theorem dX2_objective_6 : decode cX2_objective 6 = .ok (.iconst 0, 1) := by decide +kernel
theorem dX2_objective_7 : decode cX2_objective 7 = .ok (.invokevirtual 38, 3) := by decide +kernel
theorem dX2_objective_10 : decode cX2_objective 10 = .ok (.ifCond .eq 4, 3) := by decide +kernel
theorem dX2_objective_13 : decode cX2_objective 13 = .ok (.return_, 1) := by decide +kernel
theorem dX2_objective_14 : decode cX2_objective 14 = .ok (.iconst 0, 1) := by decide +kernel
theorem dX2_objective_15 : decode cX2_objective 15 = .ok (.istore_n 1, 1) := by decide +kernel
theorem dX2_objective_16 : decode cX2_objective 16 = .ok (.iload_n 1, 1) := by decide +kernel
theorem dX2_objective_17 : decode cX2_objective 17 = .ok (.bipush 10, 2) := by decide +kernel
theorem dX2_objective_19 : decode cX2_objective 19 = .ok (.if_icmp .ge 21, 3) := by decide +kernel
theorem dX2_objective_22 : decode cX2_objective 22 = .ok (.aload_n 0, 1) := by decide +kernel
theorem dX2_objective_23 : decode cX2_objective 23 = .ok (.getfield 20, 3) := by decide +kernel
theorem dX2_objective_26 : decode cX2_objective 26 = .ok (.iload_n 1, 1) := by decide +kernel
theorem dX2_objective_27 : decode cX2_objective 27 = .ok (.aload_n 0, 1) := by decide +kernel
theorem dX2_objective_28 : decode cX2_objective 28 = .ok (.getfield 17, 3) := by decide +kernel
theorem dX2_objective_31 : decode cX2_objective 31 = .ok (.iload_n 1, 1) := by decide +kernel
theorem dX2_objective_32 : decode cX2_objective 32 = .ok (.iaload, 1) := by decide +kernel
theorem dX2_objective_33 : decode cX2_objective 33 = .ok (.iastore, 1) := by decide +kernel
theorem dX2_objective_34 : decode cX2_objective 34 = .ok (.iinc 1 1, 3) := by decide +kernel
theorem dX2_objective_37 : decode cX2_objective 37 = .ok (.goto (-21), 3) := by decide +kernel
theorem dX2_objective_40 : decode cX2_objective 40 = .ok (.aload_n 0, 1) := by decide +kernel
theorem dX2_objective_41 : decode cX2_objective 41 = .ok (.invokevirtual 42, 3) := by decide +kernel
theorem dX2_objective_44 : decode cX2_objective 44 = .ok (.return_, 1) := by decide +kernel
theorem dX2_constraints_0 : decode cX2_constraints 0 = .ok (.aload_n 0, 1) := by decide +kernel
theorem dX2_constraints_1 : decode cX2_constraints 1 = .ok (.iconst 0, 1) := by decide +kernel
theorem dX2_constraints_2 : decode cX2_constraints 2 = .ok (.putfield 26, 3) := by decide +kernel
theorem dX2_constraints_5 : decode cX2_constraints 5 = .ok (.aload_n 0, 1) := by decide +kernel
theorem dX2_constraints_6 : decode cX2_constraints 6 = .ok (.getfield 45, 3) := by decide +kernel
theorem dX2_constraints_9 : decode cX2_constraints 9 = .ok (.ireturn, 1) := by decide +kernel
set_option maxRecDepth 20000 in
theorem ggX2_constraint_X2_outside : GoodIn wsX2_constraint wsX2_outside := goodIn_r _ [7] (by decide +kernel) (by decide +kernel)
set_option maxRecDepth 20000 in
theorem gX2_constraint_X2_outside : GoodIn wsX2_constraint (va_wsS RX2 34 yX2_outside wsX2_outside) := goodIn_app (goodIn_of _ (by decide +kernel)) ggX2_constraint_X2_outside
set_option maxRecDepth 20000 in
theorem ggX2_constraint_X2_fails : GoodIn wsX2_constraint wsX2_fails := goodIn_r _ [11, 12, 13, 14, 15, 16, 17, 18, 19, 20, 21, 22, 23, 24, 25] (by decide +kernel) (by decide +kernel)
set_option maxRecDepth 20000 in
theorem gX2_constraint_X2_fails : GoodIn wsX2_constraint (wsV RX2 38 RX2 yX2_fails wsX2_fails) := goodIn_app (goodIn_of _ (by decide +kernel)) ggX2_constraint_X2_fails
theorem dX2_constraint_0 : decode cX2_constraint 0 = .ok (.aload_n 0, 1) := by decide +kernel
theorem dX2_constraint_1 : decode cX2_constraint 1 = .ok (.iload_n 1, 1) := by decide +kernel
theorem dX2_constraint_2 : decode cX2_constraint 2 = .ok (.iconst 0, 1) := by decide +kernel
theorem dX2_constraint_3 : decode cX2_constraint 3 = .ok (.aload_n 0, 1) := by decide +kernel
theorem dX2_constraint_4 : decode cX2_constraint 4 = .ok (.getfield 45, 3) := by decide +kernel
theorem dX2_constraint_7 : decode cX2_constraint 7 = .ok (.iconst 1, 1) := by decide +kernel
theorem dX2_constraint_8 : decode cX2_constraint 8 = .ok (.isub, 1) := by decide +kernel
theorem dX2_constraint_9 : decode cX2_constraint 9 = .ok (.invokestatic 34, 3) := by decide +kernel
theorem dX2_constraint_12 : decode cX2_constraint 12 = .ok (.iload_n 2, 1) := by decide +kernel
theorem dX2_constraint_13 : decode cX2_constraint 13 = .ok (.bipush (-2), 2) := by decide +kernel
theorem dX2_constraint_15 : decode cX2_constraint 15 = .ok (.bipush 9, 2) := by decide +kernel
theorem dX2_constraint_17 : decode cX2_constraint 17 = .ok (.invokestatic 34, 3) := by decide +kernel
theorem dX2_constraint_20 : decode cX2_constraint 20 = .ok (.iconst 0, 1) := by decide +kernel
theorem dX2_constraint_21 : decode cX2_constraint 21 = .ok (.invokevirtual 38, 3) := by decide +kernel
theorem dX2_constraint_24 : decode cX2_constraint 24 = .ok (.ifCond .eq 5, 3) := by decide +kernel
theorem dX2_constraint_27 : decode cX2_constraint 27 = .ok (.iconst 0, 1) := by decide +kernel
theorem dX2_constraint_28 : decode cX2_constraint 28 = .ok (.ireturn, 1) := by decide +kernel
theorem dX2_constraint_29 : decode cX2_constraint 29 = .ok (.iload_n 2, 1) := by decide +kernel
theorem dX2_constraint_30 : decode cX2_constraint 30 = .ok (.bipush (-2), 2) := by decide +kernel
theorem dX2_constraint_32 : decode cX2_constraint 32 = .ok (.if_icmp .ne 20, 3) := by decide +kernel
theorem dX2_constraint_35 : decode cX2_constraint 35 = .ok (.aload_n 0, 1) := by decide +kernel
theorem dX2_constraint_36 : decode cX2_constraint 36 = .ok (.getfield 13, 3) := by decide +kernel
theorem dX2_constraint_39 : decode cX2_constraint 39 = .ok (.iload_n 1, 1) := by decide +kernel
theorem dX2_constraint_40 : decode cX2_constraint 40 = .ok (.baload, 1) := by decide +kernel
theorem dX2_constraint_41 : decode cX2_constraint 41 = .ok (.ifCond .eq 7, 3) := by decide +kernel
theorem dX2_constraint_44 : decode cX2_constraint 44 = .ok (.iconst 1, 1) := by decide +kernel
theorem dX2_constraint_45 : decode cX2_constraint 45 = .ok (.goto 28, 3) := by decide +kernel
theorem dX2_constraint_48 : decode cX2_constraint 48 = .ok (.iconst 0, 1) := by decide +kernel
theorem dX2_constraint_49 : decode cX2_constraint 49 = .ok (.goto 24, 3) := by decide +kernel
theorem dX2_constraint_52 : decode cX2_constraint 52 = .ok (.aload_n 0, 1) := by decide +kernel
theorem dX2_constraint_53 : decode cX2_constraint 53 = .ok (.getfield 7, 3) := by decide +kernel
theorem dX2_constraint_56 : decode cX2_constraint 56 = .ok (.bipush 11, 2) := by decide +kernel
theorem dX2_constraint_58 : decode cX2_constraint 58 = .ok (.iload_n 1, 1) := by decide +kernel
theorem dX2_constraint_59 : decode cX2_constraint 59 = .ok (.imul, 1) := by decide +kernel
theorem dX2_constraint_60 : decode cX2_constraint 60 = .ok (.iload_n 2, 1) := by decide +kernel
theorem dX2_constraint_61 : decode cX2_constraint 61 = .ok (.iconst (-1), 1) := by decide +kernel
theorem dX2_constraint_62 : decode cX2_constraint 62 = .ok (.if_icmp .ne 8, 3) := by decide +kernel
theorem dX2_constraint_65 : decode cX2_constraint 65 = .ok (.bipush 10, 2) := by decide +kernel
theorem dX2_constraint_67 : decode cX2_constraint 67 = .ok (.goto 4, 3) := by decide +kernel
theorem dX2_constraint_70 : decode cX2_constraint 70 = .ok (.iload_n 2, 1) := by decide +kernel
theorem dX2_constraint_71 : decode cX2_constraint 71 = .ok (.iadd, 1) := by decide +kernel
theorem dX2_constraint_72 : decode cX2_constraint 72 = .ok (.iaload, 1) := by decide +kernel
theorem dX2_constraint_73 : decode cX2_constraint 73 = .ok (.ireturn, 1) := by decide +kernel
set_option maxRecDepth 20000 in
theorem ggX2_slack_X2_size : GoodIn wsX2_slack wsX2_size := goodIn_r _ [6] (by decide +kernel) (by decide +kernel)
set_option maxRecDepth 20000 in
theorem gX2_slack_X2_size : GoodIn wsX2_slack (va_wsS RX2 30 yX2_size wsX2_size) := goodIn_app (goodIn_of _ (by decide +kernel)) ggX2_slack_X2_size
theorem dX2_slack_0 : decode cX2_slack 0 = .ok (.aload_n 0, 1) := by decide +kernel
theorem dX2_slack_1 : decode cX2_slack 1 = .ok (.getfield 7, 3) := by decide +kernel
theorem dX2_slack_4 : decode cX2_slack 4 = .ok (.bipush 11, 2) := by decide +kernel
theorem dX2_slack_6 : decode cX2_slack 6 = .ok (.iload_n 1, 1) := by decide +kernel
theorem dX2_slack_7 : decode cX2_slack 7 = .ok (.imul, 1) := by decide +kernel
theorem dX2_slack_8 : decode cX2_slack 8 = .ok (.bipush 10, 2) := by decide +kernel
theorem dX2_slack_10 : decode cX2_slack 10 = .ok (.iadd, 1) := by decide +kernel
theorem dX2_slack_11 : decode cX2_slack 11 = .ok (.iaload, 1) := by decide +kernel
theorem dX2_slack_12 : decode cX2_slack 12 = .ok (.ineg, 1) := by decide +kernel
theorem dX2_slack_13 : decode cX2_slack 13 = .ok (.istore_n 2, 1) := by decide +kernel
theorem dX2_slack_14 : decode cX2_slack 14 = .ok (.iconst 0, 1) := by decide +kernel
theorem dX2_slack_15 : decode cX2_slack 15 = .ok (.istore_n 3, 1) := by decide +kernel
theorem dX2_slack_16 : decode cX2_slack 16 = .ok (.iload_n 3, 1) := by decide +kernel
theorem dX2_slack_17 : decode cX2_slack 17 = .ok (.bipush 10, 2) := by decide +kernel
theorem dX2_slack_19 : decode cX2_slack 19 = .ok (.if_icmp .ge 82, 3) := by decide +kernel
theorem dX2_slack_22 : decode cX2_slack 22 = .ok (.aload_n 0, 1) := by decide +kernel
theorem dX2_slack_23 : decode cX2_slack 23 = .ok (.getfield 7, 3) := by decide +kernel
theorem dX2_slack_26 : decode cX2_slack 26 = .ok (.bipush 11, 2) := by decide +kernel
theorem dX2_slack_28 : decode cX2_slack 28 = .ok (.iload_n 1, 1) := by decide +kernel
theorem dX2_slack_29 : decode cX2_slack 29 = .ok (.imul, 1) := by decide +kernel
theorem dX2_slack_30 : decode cX2_slack 30 = .ok (.iload_n 3, 1) := by decide +kernel
theorem dX2_slack_31 : decode cX2_slack 31 = .ok (.iadd, 1) := by decide +kernel
theorem dX2_slack_32 : decode cX2_slack 32 = .ok (.iaload, 1) := by decide +kernel
theorem dX2_slack_33 : decode cX2_slack 33 = .ok (.istore 4, 2) := by decide +kernel
theorem dX2_slack_35 : decode cX2_slack 35 = .ok (.aload_n 0, 1) := by decide +kernel
theorem dX2_slack_36 : decode cX2_slack 36 = .ok (.getfield 23, 3) := by decide +kernel
theorem dX2_slack_39 : decode cX2_slack 39 = .ok (.iload_n 3, 1) := by decide +kernel
theorem dX2_slack_40 : decode cX2_slack 40 = .ok (.iaload, 1) := by decide +kernel
theorem dX2_slack_41 : decode cX2_slack 41 = .ok (.ifCond .lt 30, 3) := by decide +kernel
theorem dX2_slack_44 : decode cX2_slack 44 = .ok (.iload 4, 2) := by decide +kernel
theorem dX2_slack_46 : decode cX2_slack 46 = .ok (.ifCond .le 16, 3) := by decide +kernel
theorem dX2_slack_49 : decode cX2_slack 49 = .ok (.aload_n 0, 1) := by decide +kernel
theorem dX2_slack_50 : decode cX2_slack 50 = .ok (.getfield 23, 3) := by decide +kernel
theorem dX2_slack_53 : decode cX2_slack 53 = .ok (.iload_n 3, 1) := by decide +kernel
theorem dX2_slack_54 : decode cX2_slack 54 = .ok (.iaload, 1) := by decide +kernel
theorem dX2_slack_55 : decode cX2_slack 55 = .ok (.iconst 1, 1) := by decide +kernel
theorem dX2_slack_56 : decode cX2_slack 56 = .ok (.if_icmp .ne 19, 3) := by decide +kernel
theorem dX2_slack_59 : decode cX2_slack 59 = .ok (.goto 12, 3) := by decide +kernel
theorem dX2_slack_62 : decode cX2_slack 62 = .ok (.aload_n 0, 1) := by decide +kernel
theorem dX2_slack_63 : decode cX2_slack 63 = .ok (.getfield 23, 3) := by decide +kernel
theorem dX2_slack_66 : decode cX2_slack 66 = .ok (.iload_n 3, 1) := by decide +kernel
theorem dX2_slack_67 : decode cX2_slack 67 = .ok (.iaload, 1) := by decide +kernel
theorem dX2_slack_68 : decode cX2_slack 68 = .ok (.ifCond .ne 7, 3) := by decide +kernel
theorem dX2_slack_71 : decode cX2_slack 71 = .ok (.iconst 1, 1) := by decide +kernel
theorem dX2_slack_72 : decode cX2_slack 72 = .ok (.goto 4, 3) := by decide +kernel
theorem dX2_slack_75 : decode cX2_slack 75 = .ok (.iconst 0, 1) := by decide +kernel
theorem dX2_slack_76 : decode cX2_slack 76 = .ok (.istore 5, 2) := by decide +kernel
theorem dX2_slack_78 : decode cX2_slack 78 = .ok (.iload_n 2, 1) := by decide +kernel
theorem dX2_slack_79 : decode cX2_slack 79 = .ok (.iload 5, 2) := by decide +kernel
theorem dX2_slack_81 : decode cX2_slack 81 = .ok (.ifCond .eq 11, 3) := by decide +kernel
theorem dX2_slack_84 : decode cX2_slack 84 = .ok (.iload 4, 2) := by decide +kernel
theorem dX2_slack_86 : decode cX2_slack 86 = .ok (.invokestatic 30, 3) := by decide +kernel
theorem dX2_slack_89 : decode cX2_slack 89 = .ok (.goto 4, 3) := by decide +kernel
theorem dX2_slack_92 : decode cX2_slack 92 = .ok (.iconst 0, 1) := by decide +kernel
theorem dX2_slack_93 : decode cX2_slack 93 = .ok (.iadd, 1) := by decide +kernel
theorem dX2_slack_94 : decode cX2_slack 94 = .ok (.istore_n 2, 1) := by decide +kernel
theorem dX2_slack_95 : decode cX2_slack 95 = .ok (.iinc 3 1, 3) := by decide +kernel
theorem dX2_slack_98 : decode cX2_slack 98 = .ok (.goto (-82), 3) := by decide +kernel
theorem dX2_slack_101 : decode cX2_slack 101 = .ok (.iload_n 2, 1) := by decide +kernel
theorem dX2_slack_102 : decode cX2_slack 102 = .ok (.ireturn, 1) := by decide +kernel
set_option maxRecDepth 20000 in
theorem ggX2_tighten_X2_slack : GoodIn wsX2_tighten wsX2_slack := goodIn_r _ [7, 1, 2, 8, 9, 6, 10, 11, 12, 13, 14, 15, 16, 17, 18, 19, 20, 21, 22, 23] (by decide +kernel) (by decide +kernel)
set_option maxRecDepth 20000 in
theorem gX2_tighten_X2_slack : GoodIn wsX2_tighten (wsV RX2 64 RX2 yX2_slack wsX2_slack) := goodIn_app (goodIn_of _ (by decide +kernel)) ggX2_tighten_X2_slack
set_option maxRecDepth 20000 in
theorem ggX2_tighten_X2_size : GoodIn wsX2_tighten wsX2_size := goodIn_r _ [10] (by decide +kernel) (by decide +kernel)
set_option maxRecDepth 20000 in
theorem gX2_tighten_X2_size : GoodIn wsX2_tighten (va_wsS RX2 30 yX2_size wsX2_size) := goodIn_app (goodIn_of _ (by decide +kernel)) ggX2_tighten_X2_size
theorem dX2_tighten_0 : decode cX2_tighten 0 = .ok (.aload_n 0, 1) := by decide +kernel
theorem dX2_tighten_1 : decode cX2_tighten 1 = .ok (.iload_n 1, 1) := by decide +kernel
theorem dX2_tighten_2 : decode cX2_tighten 2 = .ok (.invokevirtual 64, 3) := by decide +kernel
theorem dX2_tighten_5 : decode cX2_tighten 5 = .ok (.istore_n 2, 1) := by decide +kernel
theorem dX2_tighten_6 : decode cX2_tighten 6 = .ok (.iload_n 2, 1) := by decide +kernel
theorem dX2_tighten_7 : decode cX2_tighten 7 = .ok (.ifCond .ge 5, 3) := by decide +kernel
theorem dX2_tighten_10 : decode cX2_tighten 10 = .ok (.iconst (-1), 1) := by decide +kernel
theorem dX2_tighten_11 : decode cX2_tighten 11 = .ok (.ireturn, 1) := by decide +kernel
theorem dX2_tighten_12 : decode cX2_tighten 12 = .ok (.iconst 0, 1) := by decide +kernel
theorem dX2_tighten_13 : decode cX2_tighten 13 = .ok (.istore_n 3, 1) := by decide +kernel
theorem dX2_tighten_14 : decode cX2_tighten 14 = .ok (.iconst 0, 1) := by decide +kernel
theorem dX2_tighten_15 : decode cX2_tighten 15 = .ok (.istore 4, 2) := by decide +kernel
theorem dX2_tighten_17 : decode cX2_tighten 17 = .ok (.iload 4, 2) := by decide +kernel
theorem dX2_tighten_19 : decode cX2_tighten 19 = .ok (.bipush 10, 2) := by decide +kernel
theorem dX2_tighten_21 : decode cX2_tighten 21 = .ok (.if_icmp .ge 61, 3) := by decide +kernel
theorem dX2_tighten_24 : decode cX2_tighten 24 = .ok (.aload_n 0, 1) := by decide +kernel
theorem dX2_tighten_25 : decode cX2_tighten 25 = .ok (.getfield 7, 3) := by decide +kernel
theorem dX2_tighten_28 : decode cX2_tighten 28 = .ok (.bipush 11, 2) := by decide +kernel
theorem dX2_tighten_30 : decode cX2_tighten 30 = .ok (.iload_n 1, 1) := by decide +kernel
theorem dX2_tighten_31 : decode cX2_tighten 31 = .ok (.imul, 1) := by decide +kernel
theorem dX2_tighten_32 : decode cX2_tighten 32 = .ok (.iload 4, 2) := by decide +kernel
theorem dX2_tighten_34 : decode cX2_tighten 34 = .ok (.iadd, 1) := by decide +kernel
theorem dX2_tighten_35 : decode cX2_tighten 35 = .ok (.iaload, 1) := by decide +kernel
theorem dX2_tighten_36 : decode cX2_tighten 36 = .ok (.istore 5, 2) := by decide +kernel
theorem dX2_tighten_38 : decode cX2_tighten 38 = .ok (.aload_n 0, 1) := by decide +kernel
theorem dX2_tighten_39 : decode cX2_tighten 39 = .ok (.getfield 23, 3) := by decide +kernel
theorem dX2_tighten_42 : decode cX2_tighten 42 = .ok (.iload 4, 2) := by decide +kernel
theorem dX2_tighten_44 : decode cX2_tighten 44 = .ok (.iaload, 1) := by decide +kernel
theorem dX2_tighten_45 : decode cX2_tighten 45 = .ok (.ifCond .ge 31, 3) := by decide +kernel
theorem dX2_tighten_48 : decode cX2_tighten 48 = .ok (.iload 5, 2) := by decide +kernel
theorem dX2_tighten_50 : decode cX2_tighten 50 = .ok (.invokestatic 30, 3) := by decide +kernel
theorem dX2_tighten_53 : decode cX2_tighten 53 = .ok (.iload_n 2, 1) := by decide +kernel
theorem dX2_tighten_54 : decode cX2_tighten 54 = .ok (.if_icmp .le 22, 3) := by decide +kernel
theorem dX2_tighten_57 : decode cX2_tighten 57 = .ok (.aload_n 0, 1) := by decide +kernel
theorem dX2_tighten_58 : decode cX2_tighten 58 = .ok (.getfield 23, 3) := by decide +kernel
theorem dX2_tighten_61 : decode cX2_tighten 61 = .ok (.iload 4, 2) := by decide +kernel
theorem dX2_tighten_63 : decode cX2_tighten 63 = .ok (.iload 5, 2) := by decide +kernel
theorem dX2_tighten_65 : decode cX2_tighten 65 = .ok (.ifCond .le 7, 3) := by decide +kernel
theorem dX2_tighten_68 : decode cX2_tighten 68 = .ok (.iconst 1, 1) := by decide +kernel
theorem dX2_tighten_69 : decode cX2_tighten 69 = .ok (.goto 4, 3) := by decide +kernel
theorem dX2_tighten_72 : decode cX2_tighten 72 = .ok (.iconst 0, 1) := by decide +kernel
theorem dX2_tighten_73 : decode cX2_tighten 73 = .ok (.iastore, 1) := by decide +kernel
theorem dX2_tighten_74 : decode cX2_tighten 74 = .ok (.iconst 1, 1) := by decide +kernel
theorem dX2_tighten_75 : decode cX2_tighten 75 = .ok (.istore_n 3, 1) := by decide +kernel
theorem dX2_tighten_76 : decode cX2_tighten 76 = .ok (.iinc 4 1, 3) := by decide +kernel
theorem dX2_tighten_79 : decode cX2_tighten 79 = .ok (.goto (-62), 3) := by decide +kernel
theorem dX2_tighten_82 : decode cX2_tighten 82 = .ok (.iload_n 3, 1) := by decide +kernel
theorem dX2_tighten_83 : decode cX2_tighten 83 = .ok (.ireturn, 1) := by decide +kernel
set_option maxRecDepth 20000 in
theorem ggX2_closes_X2_tighten : GoodIn wsX2_closes wsX2_tighten := goodIn_r _ [6, 7, 8, 9, 10, 11, 5, 12, 13, 14, 15, 16, 17, 18, 19, 20, 21, 22, 23, 24, 25, 26, 27, 28] (by decide +kernel) (by decide +kernel)
set_option maxRecDepth 20000 in
theorem gX2_closes_X2_tighten : GoodIn wsX2_closes (wsV RX2 67 RX2 yX2_tighten wsX2_tighten) := goodIn_app (goodIn_of _ (by decide +kernel)) ggX2_closes_X2_tighten
theorem dX2_closes_0 : decode cX2_closes 0 = .ok (.iconst 1, 1) := by decide +kernel
theorem dX2_closes_1 : decode cX2_closes 1 = .ok (.istore_n 2, 1) := by decide +kernel
theorem dX2_closes_2 : decode cX2_closes 2 = .ok (.iconst 0, 1) := by decide +kernel
theorem dX2_closes_3 : decode cX2_closes 3 = .ok (.istore_n 3, 1) := by decide +kernel
theorem dX2_closes_4 : decode cX2_closes 4 = .ok (.iload_n 3, 1) := by decide +kernel
theorem dX2_closes_5 : decode cX2_closes 5 = .ok (.bipush 12, 2) := by decide +kernel
theorem dX2_closes_7 : decode cX2_closes 7 = .ok (.if_icmp .ge 85, 3) := by decide +kernel
theorem dX2_closes_10 : decode cX2_closes 10 = .ok (.iload_n 2, 1) := by decide +kernel
theorem dX2_closes_11 : decode cX2_closes 11 = .ok (.ifCond .eq 81, 3) := by decide +kernel
theorem dX2_closes_14 : decode cX2_closes 14 = .ok (.iconst 0, 1) := by decide +kernel
theorem dX2_closes_15 : decode cX2_closes 15 = .ok (.istore_n 2, 1) := by decide +kernel
theorem dX2_closes_16 : decode cX2_closes 16 = .ok (.iconst 0, 1) := by decide +kernel
theorem dX2_closes_17 : decode cX2_closes 17 = .ok (.istore 4, 2) := by decide +kernel
theorem dX2_closes_19 : decode cX2_closes 19 = .ok (.iload 4, 2) := by decide +kernel
theorem dX2_closes_21 : decode cX2_closes 21 = .ok (.bipush 38, 2) := by decide +kernel
theorem dX2_closes_23 : decode cX2_closes 23 = .ok (.if_icmp .ge 63, 3) := by decide +kernel
theorem dX2_closes_26 : decode cX2_closes 26 = .ok (.iload 4, 2) := by decide +kernel
theorem dX2_closes_28 : decode cX2_closes 28 = .ok (.aload_n 0, 1) := by decide +kernel
theorem dX2_closes_29 : decode cX2_closes 29 = .ok (.getfield 45, 3) := by decide +kernel
theorem dX2_closes_32 : decode cX2_closes 32 = .ok (.if_icmp .lt 14, 3) := by decide +kernel
theorem dX2_closes_35 : decode cX2_closes 35 = .ok (.iload_n 1, 1) := by decide +kernel
theorem dX2_closes_36 : decode cX2_closes 36 = .ok (.ifCond .eq 19, 3) := by decide +kernel
theorem dX2_closes_39 : decode cX2_closes 39 = .ok (.iload 4, 2) := by decide +kernel
theorem dX2_closes_41 : decode cX2_closes 41 = .ok (.bipush 37, 2) := by decide +kernel
theorem dX2_closes_43 : decode cX2_closes 43 = .ok (.if_icmp .ne 12, 3) := by decide +kernel
theorem dX2_closes_46 : decode cX2_closes 46 = .ok (.aload_n 0, 1) := by decide +kernel
theorem dX2_closes_47 : decode cX2_closes 47 = .ok (.iload 4, 2) := by decide +kernel
theorem dX2_closes_49 : decode cX2_closes 49 = .ok (.invokevirtual 67, 3) := by decide +kernel
theorem dX2_closes_52 : decode cX2_closes 52 = .ok (.goto 4, 3) := by decide +kernel
theorem dX2_closes_55 : decode cX2_closes 55 = .ok (.iconst 0, 1) := by decide +kernel
theorem dX2_closes_56 : decode cX2_closes 56 = .ok (.istore 5, 2) := by decide +kernel
theorem dX2_closes_58 : decode cX2_closes 58 = .ok (.iload 5, 2) := by decide +kernel
theorem dX2_closes_60 : decode cX2_closes 60 = .ok (.ifCond .ge 5, 3) := by decide +kernel
theorem dX2_closes_63 : decode cX2_closes 63 = .ok (.iconst 0, 1) := by decide +kernel
theorem dX2_closes_64 : decode cX2_closes 64 = .ok (.ireturn, 1) := by decide +kernel
theorem dX2_closes_65 : decode cX2_closes 65 = .ok (.iload_n 2, 1) := by decide +kernel
theorem dX2_closes_66 : decode cX2_closes 66 = .ok (.ifCond .ne 8, 3) := by decide +kernel
theorem dX2_closes_69 : decode cX2_closes 69 = .ok (.iload 5, 2) := by decide +kernel
theorem dX2_closes_71 : decode cX2_closes 71 = .ok (.ifCond .le 7, 3) := by decide +kernel
theorem dX2_closes_74 : decode cX2_closes 74 = .ok (.iconst 1, 1) := by decide +kernel
theorem dX2_closes_75 : decode cX2_closes 75 = .ok (.goto 4, 3) := by decide +kernel
theorem dX2_closes_78 : decode cX2_closes 78 = .ok (.iconst 0, 1) := by decide +kernel
theorem dX2_closes_79 : decode cX2_closes 79 = .ok (.istore_n 2, 1) := by decide +kernel
theorem dX2_closes_80 : decode cX2_closes 80 = .ok (.iinc 4 1, 3) := by decide +kernel
theorem dX2_closes_83 : decode cX2_closes 83 = .ok (.goto (-64), 3) := by decide +kernel
theorem dX2_closes_86 : decode cX2_closes 86 = .ok (.iinc 3 1, 3) := by decide +kernel
theorem dX2_closes_89 : decode cX2_closes 89 = .ok (.goto (-85), 3) := by decide +kernel
theorem dX2_closes_92 : decode cX2_closes 92 = .ok (.iconst 1, 1) := by decide +kernel
theorem dX2_closes_93 : decode cX2_closes 93 = .ok (.ireturn, 1) := by decide +kernel
set_option maxRecDepth 20000 in
theorem ggX2_close_X2_outside : GoodIn wsX2_close wsX2_outside := goodIn_r _ [5] (by decide +kernel) (by decide +kernel)
set_option maxRecDepth 20000 in
theorem gX2_close_X2_outside : GoodIn wsX2_close (va_wsS RX2 34 yX2_outside wsX2_outside) := goodIn_app (goodIn_of _ (by decide +kernel)) ggX2_close_X2_outside
set_option maxRecDepth 20000 in
theorem ggX2_close_X2_fails : GoodIn wsX2_close wsX2_fails := goodIn_r _ [9, 10, 28, 29, 30, 31, 32, 33, 34, 35, 36, 37, 38, 39, 40] (by decide +kernel) (by decide +kernel)
set_option maxRecDepth 20000 in
theorem gX2_close_X2_fails : GoodIn wsX2_close (wsV RX2 38 RX2 yX2_fails wsX2_fails) := goodIn_app (goodIn_of _ (by decide +kernel)) ggX2_close_X2_fails
set_option maxRecDepth 20000 in
theorem ggX2_close_X2_closes : GoodIn wsX2_close wsX2_closes := goodIn_r _ [14, 15, 16, 17, 18, 4, 19, 20, 1, 21, 22, 23, 24, 25, 26, 27, 28, 29, 30, 31, 32, 33, 34, 35, 36, 37, 38, 39, 40] (by decide +kernel) (by decide +kernel)
set_option maxRecDepth 20000 in
theorem gX2_close_X2_closes : GoodIn wsX2_close (wsV RX2 70 RX2 yX2_closes wsX2_closes) := goodIn_app (goodIn_of _ (by decide +kernel)) ggX2_close_X2_closes
theorem dX2_close_0 : decode cX2_close 0 = .ok (.aload_n 0, 1) := by decide +kernel
theorem dX2_close_1 : decode cX2_close 1 = .ok (.iload_n 1, 1) := by decide +kernel
theorem dX2_close_2 : decode cX2_close 2 = .ok (.iconst 0, 1) := by decide +kernel
theorem dX2_close_3 : decode cX2_close 3 = .ok (.sipush 1023, 3) := by decide +kernel
theorem dX2_close_6 : decode cX2_close 6 = .ok (.invokestatic 34, 3) := by decide +kernel
theorem dX2_close_9 : decode cX2_close 9 = .ok (.ifCond .ne 14, 3) := by decide +kernel
theorem dX2_close_12 : decode cX2_close 12 = .ok (.iload_n 2, 1) := by decide +kernel
theorem dX2_close_13 : decode cX2_close 13 = .ok (.iconst 0, 1) := by decide +kernel
theorem dX2_close_14 : decode cX2_close 14 = .ok (.sipush 1023, 3) := by decide +kernel
theorem dX2_close_17 : decode cX2_close 17 = .ok (.invokestatic 34, 3) := by decide +kernel
theorem dX2_close_20 : decode cX2_close 20 = .ok (.ifCond .eq 7, 3) := by decide +kernel
theorem dX2_close_23 : decode cX2_close 23 = .ok (.iconst 1, 1) := by decide +kernel
theorem dX2_close_24 : decode cX2_close 24 = .ok (.goto 4, 3) := by decide +kernel
theorem dX2_close_27 : decode cX2_close 27 = .ok (.iconst 0, 1) := by decide +kernel
theorem dX2_close_28 : decode cX2_close 28 = .ok (.iconst 0, 1) := by decide +kernel
theorem dX2_close_29 : decode cX2_close 29 = .ok (.iconst 0, 1) := by decide +kernel
theorem dX2_close_30 : decode cX2_close 30 = .ok (.invokevirtual 38, 3) := by decide +kernel
theorem dX2_close_33 : decode cX2_close 33 = .ok (.ifCond .eq 5, 3) := by decide +kernel
theorem dX2_close_36 : decode cX2_close 36 = .ok (.iconst 0, 1) := by decide +kernel
theorem dX2_close_37 : decode cX2_close 37 = .ok (.ireturn, 1) := by decide +kernel
theorem dX2_close_38 : decode cX2_close 38 = .ok (.iconst 0, 1) := by decide +kernel
theorem dX2_close_39 : decode cX2_close 39 = .ok (.istore_n 3, 1) := by decide +kernel
theorem dX2_close_40 : decode cX2_close 40 = .ok (.iload_n 3, 1) := by decide +kernel
theorem dX2_close_41 : decode cX2_close 41 = .ok (.bipush 10, 2) := by decide +kernel
theorem dX2_close_43 : decode cX2_close 43 = .ok (.if_icmp .ge 33, 3) := by decide +kernel
theorem dX2_close_46 : decode cX2_close 46 = .ok (.aload_n 0, 1) := by decide +kernel
theorem dX2_close_47 : decode cX2_close 47 = .ok (.getfield 23, 3) := by decide +kernel
theorem dX2_close_50 : decode cX2_close 50 = .ok (.iload_n 3, 1) := by decide +kernel
theorem dX2_close_51 : decode cX2_close 51 = .ok (.iload_n 1, 1) := by decide +kernel
theorem dX2_close_52 : decode cX2_close 52 = .ok (.iload_n 3, 1) := by decide +kernel
theorem dX2_close_53 : decode cX2_close 53 = .ok (.ishr, 1) := by decide +kernel
theorem dX2_close_54 : decode cX2_close 54 = .ok (.iconst 1, 1) := by decide +kernel
theorem dX2_close_55 : decode cX2_close 55 = .ok (.iand, 1) := by decide +kernel
theorem dX2_close_56 : decode cX2_close 56 = .ok (.iconst 1, 1) := by decide +kernel
theorem dX2_close_57 : decode cX2_close 57 = .ok (.if_icmp .ne 11, 3) := by decide +kernel
theorem dX2_close_60 : decode cX2_close 60 = .ok (.iload_n 2, 1) := by decide +kernel
theorem dX2_close_61 : decode cX2_close 61 = .ok (.iload_n 3, 1) := by decide +kernel
theorem dX2_close_62 : decode cX2_close 62 = .ok (.ishr, 1) := by decide +kernel
theorem dX2_close_63 : decode cX2_close 63 = .ok (.iconst 1, 1) := by decide +kernel
theorem dX2_close_64 : decode cX2_close 64 = .ok (.iand, 1) := by decide +kernel
theorem dX2_close_65 : decode cX2_close 65 = .ok (.goto 4, 3) := by decide +kernel
theorem dX2_close_68 : decode cX2_close 68 = .ok (.iconst (-1), 1) := by decide +kernel
theorem dX2_close_69 : decode cX2_close 69 = .ok (.iastore, 1) := by decide +kernel
theorem dX2_close_70 : decode cX2_close 70 = .ok (.iinc 3 1, 3) := by decide +kernel
theorem dX2_close_73 : decode cX2_close 73 = .ok (.goto (-33), 3) := by decide +kernel
theorem dX2_close_76 : decode cX2_close 76 = .ok (.aload_n 0, 1) := by decide +kernel
theorem dX2_close_77 : decode cX2_close 77 = .ok (.iconst 0, 1) := by decide +kernel
theorem dX2_close_78 : decode cX2_close 78 = .ok (.invokevirtual 70, 3) := by decide +kernel
theorem dX2_close_81 : decode cX2_close 81 = .ok (.ifCond .ne 5, 3) := by decide +kernel
theorem dX2_close_84 : decode cX2_close 84 = .ok (.iconst (-1), 1) := by decide +kernel
theorem dX2_close_85 : decode cX2_close 85 = .ok (.ireturn, 1) := by decide +kernel
theorem dX2_close_86 : decode cX2_close 86 = .ok (.iconst 0, 1) := by decide +kernel
theorem dX2_close_87 : decode cX2_close 87 = .ok (.istore_n 3, 1) := by decide +kernel
theorem dX2_close_88 : decode cX2_close 88 = .ok (.iconst 0, 1) := by decide +kernel
theorem dX2_close_89 : decode cX2_close 89 = .ok (.istore 4, 2) := by decide +kernel
theorem dX2_close_91 : decode cX2_close 91 = .ok (.iload 4, 2) := by decide +kernel
theorem dX2_close_93 : decode cX2_close 93 = .ok (.bipush 10, 2) := by decide +kernel
theorem dX2_close_95 : decode cX2_close 95 = .ok (.if_icmp .ge 54, 3) := by decide +kernel
theorem dX2_close_98 : decode cX2_close 98 = .ok (.iload_n 3, 1) := by decide +kernel
theorem dX2_close_99 : decode cX2_close 99 = .ok (.aload_n 0, 1) := by decide +kernel
theorem dX2_close_100 : decode cX2_close 100 = .ok (.getfield 23, 3) := by decide +kernel
theorem dX2_close_103 : decode cX2_close 103 = .ok (.iload 4, 2) := by decide +kernel
theorem dX2_close_105 : decode cX2_close 105 = .ok (.iaload, 1) := by decide +kernel
theorem dX2_close_106 : decode cX2_close 106 = .ok (.ifCond .lt 12, 3) := by decide +kernel
theorem dX2_close_109 : decode cX2_close 109 = .ok (.sipush 1024, 3) := by decide +kernel
theorem dX2_close_112 : decode cX2_close 112 = .ok (.iload 4, 2) := by decide +kernel
theorem dX2_close_114 : decode cX2_close 114 = .ok (.ishl, 1) := by decide +kernel
theorem dX2_close_115 : decode cX2_close 115 = .ok (.goto 4, 3) := by decide +kernel
theorem dX2_close_118 : decode cX2_close 118 = .ok (.iconst 0, 1) := by decide +kernel
theorem dX2_close_119 : decode cX2_close 119 = .ok (.iadd, 1) := by decide +kernel
theorem dX2_close_120 : decode cX2_close 120 = .ok (.istore_n 3, 1) := by decide +kernel
theorem dX2_close_121 : decode cX2_close 121 = .ok (.iload_n 3, 1) := by decide +kernel
theorem dX2_close_122 : decode cX2_close 122 = .ok (.aload_n 0, 1) := by decide +kernel
theorem dX2_close_123 : decode cX2_close 123 = .ok (.getfield 23, 3) := by decide +kernel
theorem dX2_close_126 : decode cX2_close 126 = .ok (.iload 4, 2) := by decide +kernel
theorem dX2_close_128 : decode cX2_close 128 = .ok (.iaload, 1) := by decide +kernel
theorem dX2_close_129 : decode cX2_close 129 = .ok (.iconst 1, 1) := by decide +kernel
theorem dX2_close_130 : decode cX2_close 130 = .ok (.if_icmp .ne 10, 3) := by decide +kernel
theorem dX2_close_133 : decode cX2_close 133 = .ok (.iconst 1, 1) := by decide +kernel
theorem dX2_close_134 : decode cX2_close 134 = .ok (.iload 4, 2) := by decide +kernel
theorem dX2_close_136 : decode cX2_close 136 = .ok (.ishl, 1) := by decide +kernel
theorem dX2_close_137 : decode cX2_close 137 = .ok (.goto 4, 3) := by decide +kernel
theorem dX2_close_140 : decode cX2_close 140 = .ok (.iconst 0, 1) := by decide +kernel
theorem dX2_close_141 : decode cX2_close 141 = .ok (.iadd, 1) := by decide +kernel
theorem dX2_close_142 : decode cX2_close 142 = .ok (.istore_n 3, 1) := by decide +kernel
theorem dX2_close_143 : decode cX2_close 143 = .ok (.iinc 4 1, 3) := by decide +kernel
theorem dX2_close_146 : decode cX2_close 146 = .ok (.goto (-55), 3) := by decide +kernel
theorem dX2_close_149 : decode cX2_close 149 = .ok (.iload_n 3, 1) := by decide +kernel
theorem dX2_close_150 : decode cX2_close 150 = .ok (.ireturn, 1) := by decide +kernel
theorem dX2_upper_0 : decode cX2_upper 0 = .ok (.bipush 30, 2) := by decide +kernel
theorem dX2_upper_2 : decode cX2_upper 2 = .ok (.aload_n 0, 1) := by decide +kernel
theorem dX2_upper_3 : decode cX2_upper 3 = .ok (.getfield 74, 3) := by decide +kernel
theorem dX2_upper_6 : decode cX2_upper 6 = .ok (.iadd, 1) := by decide +kernel
theorem dX2_upper_7 : decode cX2_upper 7 = .ok (.iconst 1, 1) := by decide +kernel
theorem dX2_upper_8 : decode cX2_upper 8 = .ok (.isub, 1) := by decide +kernel
theorem dX2_upper_9 : decode cX2_upper 9 = .ok (.ireturn, 1) := by decide +kernel
set_option maxRecDepth 20000 in
theorem ggX2_load_X2_outside : GoodIn wsX2_load wsX2_outside := goodIn_r _ [6] (by decide +kernel) (by decide +kernel)
end
section
set_option maxRecDepth 20000 in
theorem gX2_load_X2_outside : GoodIn wsX2_load (va_wsS RX2 34 yX2_outside wsX2_outside) := goodIn_app (goodIn_of _ (by decide +kernel)) ggX2_load_X2_outside
set_option maxRecDepth 20000 in
theorem ggX2_load_X2_fails : GoodIn wsX2_load wsX2_fails := goodIn_r _ [10, 11, 21, 22, 23, 24, 25, 26, 27, 28, 29, 30, 31, 32, 33] (by decide +kernel) (by decide +kernel)
set_option maxRecDepth 20000 in
theorem gX2_load_X2_fails : GoodIn wsX2_load (wsV RX2 38 RX2 yX2_fails wsX2_fails) := goodIn_app (goodIn_of _ (by decide +kernel)) ggX2_load_X2_fails
set_option maxRecDepth 20000 in
theorem ggX2_load_X2_upper : GoodIn wsX2_load wsX2_upper := goodIn_r _ [15, 2, 21, 22, 23, 24, 25, 26, 27, 28, 29, 30, 31, 32, 33] (by decide +kernel) (by decide +kernel)
set_option maxRecDepth 20000 in
theorem gX2_load_X2_upper : GoodIn wsX2_load (wsV RX2 77 RX2 yX2_upper wsX2_upper) := goodIn_app (goodIn_of _ (by decide +kernel)) ggX2_load_X2_upper
set_option maxRecDepth 20000 in
theorem ggX2_load_X2_copy : GoodIn wsX2_load wsX2_copy := goodIn_r _ [19, 20, 21, 22, 23, 24, 25, 26, 27, 28, 29, 30, 31, 32, 33] (by decide +kernel) (by decide +kernel)
set_option maxRecDepth 20000 in
theorem gX2_load_X2_copy : GoodIn wsX2_load (wsV RX2 48 RX2 yX2_copy wsX2_copy) := goodIn_app (goodIn_of _ (by decide +kernel)) ggX2_load_X2_copy
theorem dX2_load_0 : decode cX2_load 0 = .ok (.aload_n 0, 1) := by decide +kernel
theorem dX2_load_1 : decode cX2_load 1 = .ok (.iload_n 1, 1) := by decide +kernel
theorem dX2_load_2 : decode cX2_load 2 = .ok (.iconst 0, 1) := by decide +kernel
theorem dX2_load_3 : decode cX2_load 3 = .ok (.aload_n 0, 1) := by decide +kernel
theorem dX2_load_4 : decode cX2_load 4 = .ok (.getfield 45, 3) := by decide +kernel
theorem dX2_load_7 : decode cX2_load 7 = .ok (.iconst 1, 1) := by decide +kernel
theorem dX2_load_8 : decode cX2_load 8 = .ok (.isub, 1) := by decide +kernel
theorem dX2_load_9 : decode cX2_load 9 = .ok (.invokestatic 34, 3) := by decide +kernel
theorem dX2_load_12 : decode cX2_load 12 = .ok (.aload_n 0, 1) := by decide +kernel
theorem dX2_load_13 : decode cX2_load 13 = .ok (.getfield 74, 3) := by decide +kernel
theorem dX2_load_16 : decode cX2_load 16 = .ok (.bipush 6, 2) := by decide +kernel
theorem dX2_load_18 : decode cX2_load 18 = .ok (.if_icmp .ne 7, 3) := by decide +kernel
theorem dX2_load_21 : decode cX2_load 21 = .ok (.iconst 1, 1) := by decide +kernel
theorem dX2_load_22 : decode cX2_load 22 = .ok (.goto 4, 3) := by decide +kernel
theorem dX2_load_25 : decode cX2_load 25 = .ok (.iconst 0, 1) := by decide +kernel
theorem dX2_load_26 : decode cX2_load 26 = .ok (.iconst 0, 1) := by decide +kernel
theorem dX2_load_27 : decode cX2_load 27 = .ok (.invokevirtual 38, 3) := by decide +kernel
theorem dX2_load_30 : decode cX2_load 30 = .ok (.ifCond .eq 4, 3) := by decide +kernel
theorem dX2_load_33 : decode cX2_load 33 = .ok (.return_, 1) := by decide +kernel
theorem dX2_load_34 : decode cX2_load 34 = .ok (.aload_n 0, 1) := by decide +kernel
theorem dX2_load_35 : decode cX2_load 35 = .ok (.dup, 1) := by decide +kernel
theorem dX2_load_36 : decode cX2_load 36 = .ok (.getfield 74, 3) := by decide +kernel
theorem dX2_load_39 : decode cX2_load 39 = .ok (.iconst 1, 1) := by decide +kernel
theorem dX2_load_40 : decode cX2_load 40 = .ok (.iadd, 1) := by decide +kernel
theorem dX2_load_41 : decode cX2_load 41 = .ok (.putfield 74, 3) := by decide +kernel
theorem dX2_load_44 : decode cX2_load 44 = .ok (.aload_n 0, 1) := by decide +kernel
theorem dX2_load_45 : decode cX2_load 45 = .ok (.iload_n 1, 1) := by decide +kernel
theorem dX2_load_46 : decode cX2_load 46 = .ok (.aload_n 0, 1) := by decide +kernel
theorem dX2_load_47 : decode cX2_load 47 = .ok (.invokevirtual 77, 3) := by decide +kernel
theorem dX2_load_50 : decode cX2_load 50 = .ok (.invokevirtual 48, 3) := by decide +kernel
theorem dX2_load_53 : decode cX2_load 53 = .ok (.return_, 1) := by decide +kernel
set_option maxRecDepth 20000 in
theorem ggX2_axiom_X2_outside : GoodIn wsX2_axiom wsX2_outside := goodIn_r _ [6] (by decide +kernel) (by decide +kernel)
set_option maxRecDepth 20000 in
theorem gX2_axiom_X2_outside : GoodIn wsX2_axiom (va_wsS RX2 34 yX2_outside wsX2_outside) := goodIn_app (goodIn_of _ (by decide +kernel)) ggX2_axiom_X2_outside
set_option maxRecDepth 20000 in
theorem ggX2_axiom_X2_fails : GoodIn wsX2_axiom wsX2_fails := goodIn_r _ [10, 11, 16, 17, 18, 19, 20, 21, 22, 23, 24, 25, 26, 27, 28] (by decide +kernel) (by decide +kernel)
set_option maxRecDepth 20000 in
theorem gX2_axiom_X2_fails : GoodIn wsX2_axiom (wsV RX2 38 RX2 yX2_fails wsX2_fails) := goodIn_app (goodIn_of _ (by decide +kernel)) ggX2_axiom_X2_fails
set_option maxRecDepth 20000 in
theorem ggX2_axiom_X2_upper : GoodIn wsX2_axiom wsX2_upper := goodIn_r _ [15, 1, 16, 17, 18, 19, 20, 21, 22, 23, 24, 25, 26, 27, 28] (by decide +kernel) (by decide +kernel)
set_option maxRecDepth 20000 in
theorem gX2_axiom_X2_upper : GoodIn wsX2_axiom (wsV RX2 77 RX2 yX2_upper wsX2_upper) := goodIn_app (goodIn_of _ (by decide +kernel)) ggX2_axiom_X2_upper
theorem dX2_axiom_0 : decode cX2_axiom 0 = .ok (.aload_n 0, 1) := by decide +kernel
theorem dX2_axiom_1 : decode cX2_axiom 1 = .ok (.iload_n 1, 1) := by decide +kernel
theorem dX2_axiom_2 : decode cX2_axiom 2 = .ok (.iconst 0, 1) := by decide +kernel
theorem dX2_axiom_3 : decode cX2_axiom 3 = .ok (.bipush 9, 2) := by decide +kernel
theorem dX2_axiom_5 : decode cX2_axiom 5 = .ok (.invokestatic 34, 3) := by decide +kernel
theorem dX2_axiom_8 : decode cX2_axiom 8 = .ok (.aload_n 0, 1) := by decide +kernel
theorem dX2_axiom_9 : decode cX2_axiom 9 = .ok (.getfield 74, 3) := by decide +kernel
theorem dX2_axiom_12 : decode cX2_axiom 12 = .ok (.bipush 6, 2) := by decide +kernel
theorem dX2_axiom_14 : decode cX2_axiom 14 = .ok (.if_icmp .ne 7, 3) := by decide +kernel
theorem dX2_axiom_17 : decode cX2_axiom 17 = .ok (.iconst 1, 1) := by decide +kernel
theorem dX2_axiom_18 : decode cX2_axiom 18 = .ok (.goto 4, 3) := by decide +kernel
theorem dX2_axiom_21 : decode cX2_axiom 21 = .ok (.iconst 0, 1) := by decide +kernel
theorem dX2_axiom_22 : decode cX2_axiom 22 = .ok (.iconst 0, 1) := by decide +kernel
theorem dX2_axiom_23 : decode cX2_axiom 23 = .ok (.invokevirtual 38, 3) := by decide +kernel
theorem dX2_axiom_26 : decode cX2_axiom 26 = .ok (.ifCond .eq 4, 3) := by decide +kernel
theorem dX2_axiom_29 : decode cX2_axiom 29 = .ok (.return_, 1) := by decide +kernel
theorem dX2_axiom_30 : decode cX2_axiom 30 = .ok (.aload_n 0, 1) := by decide +kernel
theorem dX2_axiom_31 : decode cX2_axiom 31 = .ok (.dup, 1) := by decide +kernel
theorem dX2_axiom_32 : decode cX2_axiom 32 = .ok (.getfield 74, 3) := by decide +kernel
theorem dX2_axiom_35 : decode cX2_axiom 35 = .ok (.iconst 1, 1) := by decide +kernel
theorem dX2_axiom_36 : decode cX2_axiom 36 = .ok (.iadd, 1) := by decide +kernel
theorem dX2_axiom_37 : decode cX2_axiom 37 = .ok (.putfield 74, 3) := by decide +kernel
theorem dX2_axiom_40 : decode cX2_axiom 40 = .ok (.iconst 0, 1) := by decide +kernel
theorem dX2_axiom_41 : decode cX2_axiom 41 = .ok (.istore_n 3, 1) := by decide +kernel
theorem dX2_axiom_42 : decode cX2_axiom 42 = .ok (.iload_n 3, 1) := by decide +kernel
theorem dX2_axiom_43 : decode cX2_axiom 43 = .ok (.bipush 11, 2) := by decide +kernel
theorem dX2_axiom_45 : decode cX2_axiom 45 = .ok (.if_icmp .ge 24, 3) := by decide +kernel
theorem dX2_axiom_48 : decode cX2_axiom 48 = .ok (.aload_n 0, 1) := by decide +kernel
theorem dX2_axiom_49 : decode cX2_axiom 49 = .ok (.getfield 7, 3) := by decide +kernel
theorem dX2_axiom_52 : decode cX2_axiom 52 = .ok (.bipush 11, 2) := by decide +kernel
theorem dX2_axiom_54 : decode cX2_axiom 54 = .ok (.aload_n 0, 1) := by decide +kernel
theorem dX2_axiom_55 : decode cX2_axiom 55 = .ok (.invokevirtual 77, 3) := by decide +kernel
theorem dX2_axiom_58 : decode cX2_axiom 58 = .ok (.imul, 1) := by decide +kernel
theorem dX2_axiom_59 : decode cX2_axiom 59 = .ok (.iload_n 3, 1) := by decide +kernel
theorem dX2_axiom_60 : decode cX2_axiom 60 = .ok (.iadd, 1) := by decide +kernel
theorem dX2_axiom_61 : decode cX2_axiom 61 = .ok (.iconst 0, 1) := by decide +kernel
theorem dX2_axiom_62 : decode cX2_axiom 62 = .ok (.iastore, 1) := by decide +kernel
theorem dX2_axiom_63 : decode cX2_axiom 63 = .ok (.iinc 3 1, 3) := by decide +kernel
theorem dX2_axiom_66 : decode cX2_axiom 66 = .ok (.goto (-24), 3) := by decide +kernel
theorem dX2_axiom_69 : decode cX2_axiom 69 = .ok (.aload_n 0, 1) := by decide +kernel
theorem dX2_axiom_70 : decode cX2_axiom 70 = .ok (.getfield 7, 3) := by decide +kernel
theorem dX2_axiom_73 : decode cX2_axiom 73 = .ok (.bipush 11, 2) := by decide +kernel
theorem dX2_axiom_75 : decode cX2_axiom 75 = .ok (.aload_n 0, 1) := by decide +kernel
theorem dX2_axiom_76 : decode cX2_axiom 76 = .ok (.invokevirtual 77, 3) := by decide +kernel
theorem dX2_axiom_79 : decode cX2_axiom 79 = .ok (.imul, 1) := by decide +kernel
theorem dX2_axiom_80 : decode cX2_axiom 80 = .ok (.iload_n 1, 1) := by decide +kernel
theorem dX2_axiom_81 : decode cX2_axiom 81 = .ok (.iadd, 1) := by decide +kernel
theorem dX2_axiom_82 : decode cX2_axiom 82 = .ok (.iload_n 2, 1) := by decide +kernel
theorem dX2_axiom_83 : decode cX2_axiom 83 = .ok (.ifCond .eq 7, 3) := by decide +kernel
theorem dX2_axiom_86 : decode cX2_axiom 86 = .ok (.iconst 1, 1) := by decide +kernel
theorem dX2_axiom_87 : decode cX2_axiom 87 = .ok (.goto 4, 3) := by decide +kernel
theorem dX2_axiom_90 : decode cX2_axiom 90 = .ok (.iconst (-1), 1) := by decide +kernel
theorem dX2_axiom_91 : decode cX2_axiom 91 = .ok (.iastore, 1) := by decide +kernel
theorem dX2_axiom_92 : decode cX2_axiom 92 = .ok (.return_, 1) := by decide +kernel
set_option maxRecDepth 20000 in
theorem ggX2_large_X2_size : GoodIn wsX2_large wsX2_size := goodIn_r _ [6] (by decide +kernel) (by decide +kernel)
set_option maxRecDepth 20000 in
theorem gX2_large_X2_size : GoodIn wsX2_large (va_wsS RX2 30 yX2_size wsX2_size) := goodIn_app (goodIn_of _ (by decide +kernel)) ggX2_large_X2_size
theorem dX2_large_0 : decode cX2_large 0 = .ok (.aload_n 0, 1) := by decide +kernel
theorem dX2_large_1 : decode cX2_large 1 = .ok (.getfield 7, 3) := by decide +kernel
theorem dX2_large_4 : decode cX2_large 4 = .ok (.bipush 11, 2) := by decide +kernel
theorem dX2_large_6 : decode cX2_large 6 = .ok (.iload_n 1, 1) := by decide +kernel
theorem dX2_large_7 : decode cX2_large 7 = .ok (.imul, 1) := by decide +kernel
theorem dX2_large_8 : decode cX2_large 8 = .ok (.bipush 10, 2) := by decide +kernel
theorem dX2_large_10 : decode cX2_large 10 = .ok (.iadd, 1) := by decide +kernel
theorem dX2_large_11 : decode cX2_large 11 = .ok (.iaload, 1) := by decide +kernel
theorem dX2_large_12 : decode cX2_large 12 = .ok (.ldc 81, 2) := by decide +kernel
theorem dX2_large_14 : decode cX2_large 14 = .ok (.if_icmp .le 7, 3) := by decide +kernel
theorem dX2_large_17 : decode cX2_large 17 = .ok (.iconst 1, 1) := by decide +kernel
theorem dX2_large_18 : decode cX2_large 18 = .ok (.goto 4, 3) := by decide +kernel
theorem dX2_large_21 : decode cX2_large 21 = .ok (.iconst 0, 1) := by decide +kernel
theorem dX2_large_22 : decode cX2_large 22 = .ok (.istore_n 2, 1) := by decide +kernel
theorem dX2_large_23 : decode cX2_large 23 = .ok (.iconst 0, 1) := by decide +kernel
theorem dX2_large_24 : decode cX2_large 24 = .ok (.istore_n 3, 1) := by decide +kernel
theorem dX2_large_25 : decode cX2_large 25 = .ok (.iload_n 3, 1) := by decide +kernel
theorem dX2_large_26 : decode cX2_large 26 = .ok (.bipush 10, 2) := by decide +kernel
theorem dX2_large_28 : decode cX2_large 28 = .ok (.if_icmp .ge 38, 3) := by decide +kernel
theorem dX2_large_31 : decode cX2_large 31 = .ok (.iload_n 2, 1) := by decide +kernel
theorem dX2_large_32 : decode cX2_large 32 = .ok (.ifCond .ne 22, 3) := by decide +kernel
theorem dX2_large_35 : decode cX2_large 35 = .ok (.aload_n 0, 1) := by decide +kernel
theorem dX2_large_36 : decode cX2_large 36 = .ok (.getfield 7, 3) := by decide +kernel
theorem dX2_large_39 : decode cX2_large 39 = .ok (.bipush 11, 2) := by decide +kernel
theorem dX2_large_41 : decode cX2_large 41 = .ok (.iload_n 1, 1) := by decide +kernel
theorem dX2_large_42 : decode cX2_large 42 = .ok (.imul, 1) := by decide +kernel
theorem dX2_large_43 : decode cX2_large 43 = .ok (.iload_n 3, 1) := by decide +kernel
theorem dX2_large_44 : decode cX2_large 44 = .ok (.iadd, 1) := by decide +kernel
theorem dX2_large_45 : decode cX2_large 45 = .ok (.iaload, 1) := by decide +kernel
theorem dX2_large_46 : decode cX2_large 46 = .ok (.invokestatic 30, 3) := by decide +kernel
theorem dX2_large_49 : decode cX2_large 49 = .ok (.ldc 81, 2) := by decide +kernel
theorem dX2_large_51 : decode cX2_large 51 = .ok (.if_icmp .le 7, 3) := by decide +kernel
theorem dX2_large_54 : decode cX2_large 54 = .ok (.iconst 1, 1) := by decide +kernel
theorem dX2_large_55 : decode cX2_large 55 = .ok (.goto 4, 3) := by decide +kernel
theorem dX2_large_58 : decode cX2_large 58 = .ok (.iconst 0, 1) := by decide +kernel
theorem dX2_large_59 : decode cX2_large 59 = .ok (.istore_n 2, 1) := by decide +kernel
theorem dX2_large_60 : decode cX2_large 60 = .ok (.iinc 3 1, 3) := by decide +kernel
theorem dX2_large_63 : decode cX2_large 63 = .ok (.goto (-38), 3) := by decide +kernel
theorem dX2_large_66 : decode cX2_large 66 = .ok (.iload_n 2, 1) := by decide +kernel
theorem dX2_large_67 : decode cX2_large 67 = .ok (.ireturn, 1) := by decide +kernel
set_option maxRecDepth 20000 in
theorem ggX2_add_X2_fails : GoodIn wsX2_add wsX2_fails := goodIn_r _ [7, 8, 25, 26, 27, 28, 29, 30, 31, 32, 33, 34, 35, 36, 37] (by decide +kernel) (by decide +kernel)
set_option maxRecDepth 20000 in
theorem gX2_add_X2_fails : GoodIn wsX2_add (wsV RX2 38 RX2 yX2_fails wsX2_fails) := goodIn_app (goodIn_of _ (by decide +kernel)) ggX2_add_X2_fails
set_option maxRecDepth 20000 in
theorem ggX2_add_X2_upper : GoodIn wsX2_add wsX2_upper := goodIn_r _ [12, 1, 25, 26, 27, 28, 29, 30, 31, 32, 33, 34, 35, 36, 37] (by decide +kernel) (by decide +kernel)
set_option maxRecDepth 20000 in
theorem gX2_add_X2_upper : GoodIn wsX2_add (wsV RX2 77 RX2 yX2_upper wsX2_upper) := goodIn_app (goodIn_of _ (by decide +kernel)) ggX2_add_X2_upper
set_option maxRecDepth 20000 in
theorem ggX2_add_X2_size : GoodIn wsX2_add wsX2_size := goodIn_r _ [15] (by decide +kernel) (by decide +kernel)
set_option maxRecDepth 20000 in
theorem gX2_add_X2_size : GoodIn wsX2_add (va_wsS RX2 30 yX2_size wsX2_size) := goodIn_app (goodIn_of _ (by decide +kernel)) ggX2_add_X2_size
set_option maxRecDepth 20000 in
theorem ggX2_add_X2_large : GoodIn wsX2_add wsX2_large := goodIn_r _ [19, 2, 20, 13, 14, 6, 15, 25, 26, 27, 28, 29, 30, 31, 32, 33, 34, 35, 36, 37] (by decide +kernel) (by decide +kernel)
set_option maxRecDepth 20000 in
theorem gX2_add_X2_large : GoodIn wsX2_add (wsV RX2 82 RX2 yX2_large wsX2_large) := goodIn_app (goodIn_of _ (by decide +kernel)) ggX2_add_X2_large
set_option maxRecDepth 20000 in
theorem ggX2_add_X2_copy : GoodIn wsX2_add wsX2_copy := goodIn_r _ [24, 2, 25, 26, 27, 28, 29, 30, 31, 32, 33, 34, 35, 36, 37] (by decide +kernel) (by decide +kernel)
set_option maxRecDepth 20000 in
theorem gX2_add_X2_copy : GoodIn wsX2_add (wsV RX2 48 RX2 yX2_copy wsX2_copy) := goodIn_app (goodIn_of _ (by decide +kernel)) ggX2_add_X2_copy
theorem dX2_add_0 : decode cX2_add 0 = .ok (.aload_n 0, 1) := by decide +kernel
theorem dX2_add_1 : decode cX2_add 1 = .ok (.aload_n 0, 1) := by decide +kernel
theorem dX2_add_2 : decode cX2_add 2 = .ok (.getfield 74, 3) := by decide +kernel
theorem dX2_add_5 : decode cX2_add 5 = .ok (.iconst 2, 1) := by decide +kernel
theorem dX2_add_6 : decode cX2_add 6 = .ok (.if_icmp .ge 7, 3) := by decide +kernel
theorem dX2_add_9 : decode cX2_add 9 = .ok (.iconst 1, 1) := by decide +kernel
theorem dX2_add_10 : decode cX2_add 10 = .ok (.goto 4, 3) := by decide +kernel
theorem dX2_add_13 : decode cX2_add 13 = .ok (.iconst 0, 1) := by decide +kernel
theorem dX2_add_14 : decode cX2_add 14 = .ok (.iconst 0, 1) := by decide +kernel
theorem dX2_add_15 : decode cX2_add 15 = .ok (.iconst 0, 1) := by decide +kernel
theorem dX2_add_16 : decode cX2_add 16 = .ok (.invokevirtual 38, 3) := by decide +kernel
theorem dX2_add_19 : decode cX2_add 19 = .ok (.ifCond .eq 4, 3) := by decide +kernel
theorem dX2_add_22 : decode cX2_add 22 = .ok (.return_, 1) := by decide +kernel
theorem dX2_add_23 : decode cX2_add 23 = .ok (.bipush 11, 2) := by decide +kernel
theorem dX2_add_25 : decode cX2_add 25 = .ok (.aload_n 0, 1) := by decide +kernel
theorem dX2_add_26 : decode cX2_add 26 = .ok (.invokevirtual 77, 3) := by decide +kernel
theorem dX2_add_29 : decode cX2_add 29 = .ok (.imul, 1) := by decide +kernel
theorem dX2_add_30 : decode cX2_add 30 = .ok (.istore_n 1, 1) := by decide +kernel
theorem dX2_add_31 : decode cX2_add 31 = .ok (.iload_n 1, 1) := by decide +kernel
theorem dX2_add_32 : decode cX2_add 32 = .ok (.bipush 11, 2) := by decide +kernel
theorem dX2_add_34 : decode cX2_add 34 = .ok (.isub, 1) := by decide +kernel
theorem dX2_add_35 : decode cX2_add 35 = .ok (.istore_n 2, 1) := by decide +kernel
theorem dX2_add_36 : decode cX2_add 36 = .ok (.aload_n 0, 1) := by decide +kernel
theorem dX2_add_37 : decode cX2_add 37 = .ok (.getfield 7, 3) := by decide +kernel
theorem dX2_add_40 : decode cX2_add 40 = .ok (.iload_n 1, 1) := by decide +kernel
theorem dX2_add_41 : decode cX2_add 41 = .ok (.bipush 10, 2) := by decide +kernel
theorem dX2_add_43 : decode cX2_add 43 = .ok (.iadd, 1) := by decide +kernel
theorem dX2_add_44 : decode cX2_add 44 = .ok (.iaload, 1) := by decide +kernel
theorem dX2_add_45 : decode cX2_add 45 = .ok (.aload_n 0, 1) := by decide +kernel
theorem dX2_add_46 : decode cX2_add 46 = .ok (.getfield 7, 3) := by decide +kernel
theorem dX2_add_49 : decode cX2_add 49 = .ok (.iload_n 2, 1) := by decide +kernel
theorem dX2_add_50 : decode cX2_add 50 = .ok (.bipush 10, 2) := by decide +kernel
theorem dX2_add_52 : decode cX2_add 52 = .ok (.iadd, 1) := by decide +kernel
theorem dX2_add_53 : decode cX2_add 53 = .ok (.iaload, 1) := by decide +kernel
theorem dX2_add_54 : decode cX2_add 54 = .ok (.iadd, 1) := by decide +kernel
theorem dX2_add_55 : decode cX2_add 55 = .ok (.istore_n 3, 1) := by decide +kernel
theorem dX2_add_56 : decode cX2_add 56 = .ok (.iconst 0, 1) := by decide +kernel
theorem dX2_add_57 : decode cX2_add 57 = .ok (.istore 4, 2) := by decide +kernel
theorem dX2_add_59 : decode cX2_add 59 = .ok (.iload 4, 2) := by decide +kernel
theorem dX2_add_61 : decode cX2_add 61 = .ok (.bipush 10, 2) := by decide +kernel
theorem dX2_add_63 : decode cX2_add 63 = .ok (.if_icmp .ge 112, 3) := by decide +kernel
theorem dX2_add_66 : decode cX2_add 66 = .ok (.aload_n 0, 1) := by decide +kernel
theorem dX2_add_67 : decode cX2_add 67 = .ok (.getfield 7, 3) := by decide +kernel
theorem dX2_add_70 : decode cX2_add 70 = .ok (.iload_n 1, 1) := by decide +kernel
theorem dX2_add_71 : decode cX2_add 71 = .ok (.iload 4, 2) := by decide +kernel
theorem dX2_add_73 : decode cX2_add 73 = .ok (.iadd, 1) := by decide +kernel
theorem dX2_add_74 : decode cX2_add 74 = .ok (.iaload, 1) := by decide +kernel
theorem dX2_add_75 : decode cX2_add 75 = .ok (.istore 5, 2) := by decide +kernel
theorem dX2_add_77 : decode cX2_add 77 = .ok (.aload_n 0, 1) := by decide +kernel
theorem dX2_add_78 : decode cX2_add 78 = .ok (.getfield 7, 3) := by decide +kernel
theorem dX2_add_81 : decode cX2_add 81 = .ok (.iload_n 2, 1) := by decide +kernel
theorem dX2_add_82 : decode cX2_add 82 = .ok (.iload 4, 2) := by decide +kernel
theorem dX2_add_84 : decode cX2_add 84 = .ok (.iadd, 1) := by decide +kernel
theorem dX2_add_85 : decode cX2_add 85 = .ok (.iaload, 1) := by decide +kernel
theorem dX2_add_86 : decode cX2_add 86 = .ok (.istore 6, 2) := by decide +kernel
theorem dX2_add_88 : decode cX2_add 88 = .ok (.iload 5, 2) := by decide +kernel
theorem dX2_add_90 : decode cX2_add 90 = .ok (.ifCond .le 8, 3) := by decide +kernel
theorem dX2_add_93 : decode cX2_add 93 = .ok (.iload 6, 2) := by decide +kernel
theorem dX2_add_95 : decode cX2_add 95 = .ok (.ifCond .lt 13, 3) := by decide +kernel
theorem dX2_add_98 : decode cX2_add 98 = .ok (.iload 5, 2) := by decide +kernel
theorem dX2_add_100 : decode cX2_add 100 = .ok (.ifCond .ge 12, 3) := by decide +kernel
theorem dX2_add_103 : decode cX2_add 103 = .ok (.iload 6, 2) := by decide +kernel
theorem dX2_add_105 : decode cX2_add 105 = .ok (.ifCond .le 7, 3) := by decide +kernel
theorem dX2_add_108 : decode cX2_add 108 = .ok (.iconst 1, 1) := by decide +kernel
theorem dX2_add_109 : decode cX2_add 109 = .ok (.goto 4, 3) := by decide +kernel
theorem dX2_add_112 : decode cX2_add 112 = .ok (.iconst 0, 1) := by decide +kernel
theorem dX2_add_113 : decode cX2_add 113 = .ok (.istore 7, 2) := by decide +kernel
theorem dX2_add_115 : decode cX2_add 115 = .ok (.iload_n 3, 1) := by decide +kernel
theorem dX2_add_116 : decode cX2_add 116 = .ok (.iload 7, 2) := by decide +kernel
theorem dX2_add_118 : decode cX2_add 118 = .ok (.ifCond .ne 7, 3) := by decide +kernel
theorem dX2_add_121 : decode cX2_add 121 = .ok (.iconst 0, 1) := by decide +kernel
theorem dX2_add_122 : decode cX2_add 122 = .ok (.goto 29, 3) := by decide +kernel
theorem dX2_add_125 : decode cX2_add 125 = .ok (.iload 5, 2) := by decide +kernel
theorem dX2_add_127 : decode cX2_add 127 = .ok (.invokestatic 30, 3) := by decide +kernel
theorem dX2_add_130 : decode cX2_add 130 = .ok (.iload 6, 2) := by decide +kernel
theorem dX2_add_132 : decode cX2_add 132 = .ok (.invokestatic 30, 3) := by decide +kernel
theorem dX2_add_135 : decode cX2_add 135 = .ok (.if_icmp .ge 11, 3) := by decide +kernel
theorem dX2_add_138 : decode cX2_add 138 = .ok (.iload 5, 2) := by decide +kernel
theorem dX2_add_140 : decode cX2_add 140 = .ok (.invokestatic 30, 3) := by decide +kernel
theorem dX2_add_143 : decode cX2_add 143 = .ok (.goto 8, 3) := by decide +kernel
theorem dX2_add_146 : decode cX2_add 146 = .ok (.iload 6, 2) := by decide +kernel
theorem dX2_add_148 : decode cX2_add 148 = .ok (.invokestatic 30, 3) := by decide +kernel
theorem dX2_add_151 : decode cX2_add 151 = .ok (.isub, 1) := by decide +kernel
theorem dX2_add_152 : decode cX2_add 152 = .ok (.istore_n 3, 1) := by decide +kernel
theorem dX2_add_153 : decode cX2_add 153 = .ok (.aload_n 0, 1) := by decide +kernel
theorem dX2_add_154 : decode cX2_add 154 = .ok (.getfield 7, 3) := by decide +kernel
theorem dX2_add_157 : decode cX2_add 157 = .ok (.sipush 396, 3) := by decide +kernel
theorem dX2_add_160 : decode cX2_add 160 = .ok (.iload 4, 2) := by decide +kernel
theorem dX2_add_162 : decode cX2_add 162 = .ok (.iadd, 1) := by decide +kernel
theorem dX2_add_163 : decode cX2_add 163 = .ok (.iload 5, 2) := by decide +kernel
theorem dX2_add_165 : decode cX2_add 165 = .ok (.iload 6, 2) := by decide +kernel
theorem dX2_add_167 : decode cX2_add 167 = .ok (.iadd, 1) := by decide +kernel
theorem dX2_add_168 : decode cX2_add 168 = .ok (.iastore, 1) := by decide +kernel
theorem dX2_add_169 : decode cX2_add 169 = .ok (.iinc 4 1, 3) := by decide +kernel
theorem dX2_add_172 : decode cX2_add 172 = .ok (.goto (-113), 3) := by decide +kernel
theorem dX2_add_175 : decode cX2_add 175 = .ok (.aload_n 0, 1) := by decide +kernel
theorem dX2_add_176 : decode cX2_add 176 = .ok (.getfield 7, 3) := by decide +kernel
theorem dX2_add_179 : decode cX2_add 179 = .ok (.sipush 406, 3) := by decide +kernel
theorem dX2_add_182 : decode cX2_add 182 = .ok (.iload_n 3, 1) := by decide +kernel
theorem dX2_add_183 : decode cX2_add 183 = .ok (.ifCond .ge 7, 3) := by decide +kernel
theorem dX2_add_186 : decode cX2_add 186 = .ok (.iconst 0, 1) := by decide +kernel
theorem dX2_add_187 : decode cX2_add 187 = .ok (.goto 4, 3) := by decide +kernel
theorem dX2_add_190 : decode cX2_add 190 = .ok (.iload_n 3, 1) := by decide +kernel
theorem dX2_add_191 : decode cX2_add 191 = .ok (.iastore, 1) := by decide +kernel
theorem dX2_add_192 : decode cX2_add 192 = .ok (.aload_n 0, 1) := by decide +kernel
theorem dX2_add_193 : decode cX2_add 193 = .ok (.iconst 0, 1) := by decide +kernel
theorem dX2_add_194 : decode cX2_add 194 = .ok (.aload_n 0, 1) := by decide +kernel
theorem dX2_add_195 : decode cX2_add 195 = .ok (.bipush 36, 2) := by decide +kernel
theorem dX2_add_197 : decode cX2_add 197 = .ok (.invokevirtual 82, 3) := by decide +kernel
theorem dX2_add_200 : decode cX2_add 200 = .ok (.iconst 0, 1) := by decide +kernel
theorem dX2_add_201 : decode cX2_add 201 = .ok (.invokevirtual 38, 3) := by decide +kernel
theorem dX2_add_204 : decode cX2_add 204 = .ok (.ifCond .eq 4, 3) := by decide +kernel
theorem dX2_add_207 : decode cX2_add 207 = .ok (.return_, 1) := by decide +kernel
theorem dX2_add_208 : decode cX2_add 208 = .ok (.aload_n 0, 1) := by decide +kernel
theorem dX2_add_209 : decode cX2_add 209 = .ok (.dup, 1) := by decide +kernel
theorem dX2_add_210 : decode cX2_add 210 = .ok (.getfield 74, 3) := by decide +kernel
theorem dX2_add_213 : decode cX2_add 213 = .ok (.iconst 1, 1) := by decide +kernel
theorem dX2_add_214 : decode cX2_add 214 = .ok (.isub, 1) := by decide +kernel
theorem dX2_add_215 : decode cX2_add 215 = .ok (.putfield 74, 3) := by decide +kernel
theorem dX2_add_218 : decode cX2_add 218 = .ok (.aload_n 0, 1) := by decide +kernel
theorem dX2_add_219 : decode cX2_add 219 = .ok (.bipush 36, 2) := by decide +kernel
theorem dX2_add_221 : decode cX2_add 221 = .ok (.aload_n 0, 1) := by decide +kernel
theorem dX2_add_222 : decode cX2_add 222 = .ok (.invokevirtual 77, 3) := by decide +kernel
theorem dX2_add_225 : decode cX2_add 225 = .ok (.invokevirtual 48, 3) := by decide +kernel
theorem dX2_add_228 : decode cX2_add 228 = .ok (.return_, 1) := by decide +kernel
set_option maxRecDepth 20000 in
theorem ggX2_times_X2_outside : GoodIn wsX2_times wsX2_outside := goodIn_r _ [6] (by decide +kernel) (by decide +kernel)
set_option maxRecDepth 20000 in
theorem gX2_times_X2_outside : GoodIn wsX2_times (va_wsS RX2 34 yX2_outside wsX2_outside) := goodIn_app (goodIn_of _ (by decide +kernel)) ggX2_times_X2_outside
set_option maxRecDepth 20000 in
theorem ggX2_times_X2_fails : GoodIn wsX2_times wsX2_fails := goodIn_r _ [10, 11, 28, 29, 30, 31, 32, 33, 34, 35, 36, 37, 38, 39, 40] (by decide +kernel) (by decide +kernel)
set_option maxRecDepth 20000 in
theorem gX2_times_X2_fails : GoodIn wsX2_times (wsV RX2 38 RX2 yX2_fails wsX2_fails) := goodIn_app (goodIn_of _ (by decide +kernel)) ggX2_times_X2_fails
set_option maxRecDepth 20000 in
theorem ggX2_times_X2_upper : GoodIn wsX2_times wsX2_upper := goodIn_r _ [15, 1, 28, 29, 30, 31, 32, 33, 34, 35, 36, 37, 38, 39, 40] (by decide +kernel) (by decide +kernel)
set_option maxRecDepth 20000 in
theorem gX2_times_X2_upper : GoodIn wsX2_times (wsV RX2 77 RX2 yX2_upper wsX2_upper) := goodIn_app (goodIn_of _ (by decide +kernel)) ggX2_times_X2_upper
set_option maxRecDepth 20000 in
theorem ggX2_times_X2_large : GoodIn wsX2_times wsX2_large := goodIn_r _ [19, 2, 20, 21, 22, 5, 23, 28, 29, 30, 31, 32, 33, 34, 35, 36, 37, 38, 39, 40] (by decide +kernel) (by decide +kernel)
set_option maxRecDepth 20000 in
theorem gX2_times_X2_large : GoodIn wsX2_times (wsV RX2 82 RX2 yX2_large wsX2_large) := goodIn_app (goodIn_of _ (by decide +kernel)) ggX2_times_X2_large
set_option maxRecDepth 20000 in
theorem ggX2_times_X2_copy : GoodIn wsX2_times wsX2_copy := goodIn_r _ [27, 2, 28, 29, 30, 31, 32, 33, 34, 35, 36, 37, 38, 39, 40] (by decide +kernel) (by decide +kernel)
set_option maxRecDepth 20000 in
theorem gX2_times_X2_copy : GoodIn wsX2_times (wsV RX2 48 RX2 yX2_copy wsX2_copy) := goodIn_app (goodIn_of _ (by decide +kernel)) ggX2_times_X2_copy
theorem dX2_times_0 : decode cX2_times 0 = .ok (.aload_n 0, 1) := by decide +kernel
theorem dX2_times_1 : decode cX2_times 1 = .ok (.aload_n 0, 1) := by decide +kernel
theorem dX2_times_2 : decode cX2_times 2 = .ok (.getfield 74, 3) := by decide +kernel
theorem dX2_times_5 : decode cX2_times 5 = .ok (.iconst 1, 1) := by decide +kernel
theorem dX2_times_6 : decode cX2_times 6 = .ok (.if_icmp .ge 7, 3) := by decide +kernel
theorem dX2_times_9 : decode cX2_times 9 = .ok (.iconst 1, 1) := by decide +kernel
theorem dX2_times_10 : decode cX2_times 10 = .ok (.goto 4, 3) := by decide +kernel
theorem dX2_times_13 : decode cX2_times 13 = .ok (.iconst 0, 1) := by decide +kernel
theorem dX2_times_14 : decode cX2_times 14 = .ok (.iload_n 1, 1) := by decide +kernel
theorem dX2_times_15 : decode cX2_times 15 = .ok (.iconst 1, 1) := by decide +kernel
theorem dX2_times_16 : decode cX2_times 16 = .ok (.sipush 1000, 3) := by decide +kernel
theorem dX2_times_19 : decode cX2_times 19 = .ok (.invokestatic 34, 3) := by decide +kernel
theorem dX2_times_22 : decode cX2_times 22 = .ok (.iconst 0, 1) := by decide +kernel
theorem dX2_times_23 : decode cX2_times 23 = .ok (.invokevirtual 38, 3) := by decide +kernel
theorem dX2_times_26 : decode cX2_times 26 = .ok (.ifCond .eq 4, 3) := by decide +kernel
theorem dX2_times_29 : decode cX2_times 29 = .ok (.return_, 1) := by decide +kernel
theorem dX2_times_30 : decode cX2_times 30 = .ok (.iconst 0, 1) := by decide +kernel
theorem dX2_times_31 : decode cX2_times 31 = .ok (.istore_n 2, 1) := by decide +kernel
theorem dX2_times_32 : decode cX2_times 32 = .ok (.iload_n 2, 1) := by decide +kernel
theorem dX2_times_33 : decode cX2_times 33 = .ok (.bipush 11, 2) := by decide +kernel
theorem dX2_times_35 : decode cX2_times 35 = .ok (.if_icmp .ge 35, 3) := by decide +kernel
theorem dX2_times_38 : decode cX2_times 38 = .ok (.aload_n 0, 1) := by decide +kernel
theorem dX2_times_39 : decode cX2_times 39 = .ok (.getfield 7, 3) := by decide +kernel
theorem dX2_times_42 : decode cX2_times 42 = .ok (.sipush 396, 3) := by decide +kernel
theorem dX2_times_45 : decode cX2_times 45 = .ok (.iload_n 2, 1) := by decide +kernel
theorem dX2_times_46 : decode cX2_times 46 = .ok (.iadd, 1) := by decide +kernel
theorem dX2_times_47 : decode cX2_times 47 = .ok (.iload_n 1, 1) := by decide +kernel
theorem dX2_times_48 : decode cX2_times 48 = .ok (.aload_n 0, 1) := by decide +kernel
theorem dX2_times_49 : decode cX2_times 49 = .ok (.getfield 7, 3) := by decide +kernel
theorem dX2_times_52 : decode cX2_times 52 = .ok (.bipush 11, 2) := by decide +kernel
theorem dX2_times_54 : decode cX2_times 54 = .ok (.aload_n 0, 1) := by decide +kernel
theorem dX2_times_55 : decode cX2_times 55 = .ok (.invokevirtual 77, 3) := by decide +kernel
theorem dX2_times_58 : decode cX2_times 58 = .ok (.imul, 1) := by decide +kernel
theorem dX2_times_59 : decode cX2_times 59 = .ok (.iload_n 2, 1) := by decide +kernel
theorem dX2_times_60 : decode cX2_times 60 = .ok (.iadd, 1) := by decide +kernel
theorem dX2_times_61 : decode cX2_times 61 = .ok (.iaload, 1) := by decide +kernel
theorem dX2_times_62 : decode cX2_times 62 = .ok (.imul, 1) := by decide +kernel
theorem dX2_times_63 : decode cX2_times 63 = .ok (.iastore, 1) := by decide +kernel
theorem dX2_times_64 : decode cX2_times 64 = .ok (.iinc 2 1, 3) := by decide +kernel
theorem dX2_times_67 : decode cX2_times 67 = .ok (.goto (-35), 3) := by decide +kernel
theorem dX2_times_70 : decode cX2_times 70 = .ok (.aload_n 0, 1) := by decide +kernel
theorem dX2_times_71 : decode cX2_times 71 = .ok (.iconst 0, 1) := by decide +kernel
theorem dX2_times_72 : decode cX2_times 72 = .ok (.iconst 0, 1) := by decide +kernel
theorem dX2_times_73 : decode cX2_times 73 = .ok (.aload_n 0, 1) := by decide +kernel
theorem dX2_times_74 : decode cX2_times 74 = .ok (.bipush 36, 2) := by decide +kernel
theorem dX2_times_76 : decode cX2_times 76 = .ok (.invokevirtual 82, 3) := by decide +kernel
theorem dX2_times_79 : decode cX2_times 79 = .ok (.invokevirtual 38, 3) := by decide +kernel
theorem dX2_times_82 : decode cX2_times 82 = .ok (.ifCond .eq 4, 3) := by decide +kernel
theorem dX2_times_85 : decode cX2_times 85 = .ok (.return_, 1) := by decide +kernel
theorem dX2_times_86 : decode cX2_times 86 = .ok (.aload_n 0, 1) := by decide +kernel
theorem dX2_times_87 : decode cX2_times 87 = .ok (.bipush 36, 2) := by decide +kernel
theorem dX2_times_89 : decode cX2_times 89 = .ok (.aload_n 0, 1) := by decide +kernel
theorem dX2_times_90 : decode cX2_times 90 = .ok (.invokevirtual 77, 3) := by decide +kernel
theorem dX2_times_93 : decode cX2_times 93 = .ok (.invokevirtual 48, 3) := by decide +kernel
theorem dX2_times_96 : decode cX2_times 96 = .ok (.return_, 1) := by decide +kernel
theorem dX2_part_0 : decode cX2_part 0 = .ok (.iload_n 0, 1) := by decide +kernel
theorem dX2_part_1 : decode cX2_part 1 = .ok (.ifCond .ne 7, 3) := by decide +kernel
theorem dX2_part_4 : decode cX2_part 4 = .ok (.iconst 0, 1) := by decide +kernel
theorem dX2_part_5 : decode cX2_part 5 = .ok (.goto 10, 3) := by decide +kernel
theorem dX2_part_8 : decode cX2_part 8 = .ok (.iload_n 0, 1) := by decide +kernel
theorem dX2_part_9 : decode cX2_part 9 = .ok (.iconst 1, 1) := by decide +kernel
theorem dX2_part_10 : decode cX2_part 10 = .ok (.isub, 1) := by decide +kernel
theorem dX2_part_11 : decode cX2_part 11 = .ok (.iload_n 1, 1) := by decide +kernel
theorem dX2_part_12 : decode cX2_part 12 = .ok (.idiv, 1) := by decide +kernel
theorem dX2_part_13 : decode cX2_part 13 = .ok (.iconst 1, 1) := by decide +kernel
theorem dX2_part_14 : decode cX2_part 14 = .ok (.iadd, 1) := by decide +kernel
theorem dX2_part_15 : decode cX2_part 15 = .ok (.ireturn, 1) := by decide +kernel
set_option maxRecDepth 20000 in
theorem ggX2_divide_X2_outside : GoodIn wsX2_divide wsX2_outside := goodIn_r _ [7] (by decide +kernel) (by decide +kernel)
set_option maxRecDepth 20000 in
theorem gX2_divide_X2_outside : GoodIn wsX2_divide (va_wsS RX2 34 yX2_outside wsX2_outside) := goodIn_app (goodIn_of _ (by decide +kernel)) ggX2_divide_X2_outside
set_option maxRecDepth 20000 in
theorem ggX2_divide_X2_fails : GoodIn wsX2_divide wsX2_fails := goodIn_r _ [11, 12, 20, 21, 22, 23, 24, 25, 26, 27, 28, 29, 30, 31, 32] (by decide +kernel) (by decide +kernel)
set_option maxRecDepth 20000 in
theorem gX2_divide_X2_fails : GoodIn wsX2_divide (wsV RX2 38 RX2 yX2_fails wsX2_fails) := goodIn_app (goodIn_of _ (by decide +kernel)) ggX2_divide_X2_fails
set_option maxRecDepth 20000 in
theorem ggX2_divide_X2_upper : GoodIn wsX2_divide wsX2_upper := goodIn_r _ [16, 1, 20, 21, 22, 23, 24, 25, 26, 27, 28, 29, 30, 31, 32] (by decide +kernel) (by decide +kernel)
set_option maxRecDepth 20000 in
theorem gX2_divide_X2_upper : GoodIn wsX2_divide (wsV RX2 77 RX2 yX2_upper wsX2_upper) := goodIn_app (goodIn_of _ (by decide +kernel)) ggX2_divide_X2_upper
set_option maxRecDepth 20000 in
theorem ggX2_divide_X2_part : GoodIn wsX2_divide wsX2_part := goodIn_r _ [19] (by decide +kernel) (by decide +kernel)
set_option maxRecDepth 20000 in
theorem gX2_divide_X2_part : GoodIn wsX2_divide (va_wsS RX2 86 yX2_part wsX2_part) := goodIn_app (goodIn_of _ (by decide +kernel)) ggX2_divide_X2_part
theorem dX2_divide_0 : decode cX2_divide 0 = .ok (.aload_n 0, 1) := by decide +kernel
theorem dX2_divide_1 : decode cX2_divide 1 = .ok (.aload_n 0, 1) := by decide +kernel
theorem dX2_divide_2 : decode cX2_divide 2 = .ok (.getfield 74, 3) := by decide +kernel
theorem dX2_divide_5 : decode cX2_divide 5 = .ok (.iconst 1, 1) := by decide +kernel
theorem dX2_divide_6 : decode cX2_divide 6 = .ok (.if_icmp .ge 7, 3) := by decide +kernel
theorem dX2_divide_9 : decode cX2_divide 9 = .ok (.iconst 1, 1) := by decide +kernel
theorem dX2_divide_10 : decode cX2_divide 10 = .ok (.goto 4, 3) := by decide +kernel
theorem dX2_divide_13 : decode cX2_divide 13 = .ok (.iconst 0, 1) := by decide +kernel
theorem dX2_divide_14 : decode cX2_divide 14 = .ok (.iload_n 1, 1) := by decide +kernel
theorem dX2_divide_15 : decode cX2_divide 15 = .ok (.iconst 1, 1) := by decide +kernel
theorem dX2_divide_16 : decode cX2_divide 16 = .ok (.ldc 81, 2) := by decide +kernel
theorem dX2_divide_18 : decode cX2_divide 18 = .ok (.invokestatic 34, 3) := by decide +kernel
theorem dX2_divide_21 : decode cX2_divide 21 = .ok (.iconst 0, 1) := by decide +kernel
theorem dX2_divide_22 : decode cX2_divide 22 = .ok (.invokevirtual 38, 3) := by decide +kernel
theorem dX2_divide_25 : decode cX2_divide 25 = .ok (.ifCond .eq 4, 3) := by decide +kernel
theorem dX2_divide_28 : decode cX2_divide 28 = .ok (.return_, 1) := by decide +kernel
theorem dX2_divide_29 : decode cX2_divide 29 = .ok (.iconst 0, 1) := by decide +kernel
theorem dX2_divide_30 : decode cX2_divide 30 = .ok (.istore_n 2, 1) := by decide +kernel
theorem dX2_divide_31 : decode cX2_divide 31 = .ok (.iload_n 2, 1) := by decide +kernel
theorem dX2_divide_32 : decode cX2_divide 32 = .ok (.bipush 11, 2) := by decide +kernel
theorem dX2_divide_34 : decode cX2_divide 34 = .ok (.if_icmp .ge 57, 3) := by decide +kernel
theorem dX2_divide_37 : decode cX2_divide 37 = .ok (.aload_n 0, 1) := by decide +kernel
theorem dX2_divide_38 : decode cX2_divide 38 = .ok (.getfield 7, 3) := by decide +kernel
theorem dX2_divide_41 : decode cX2_divide 41 = .ok (.bipush 11, 2) := by decide +kernel
theorem dX2_divide_43 : decode cX2_divide 43 = .ok (.aload_n 0, 1) := by decide +kernel
theorem dX2_divide_44 : decode cX2_divide 44 = .ok (.invokevirtual 77, 3) := by decide +kernel
theorem dX2_divide_47 : decode cX2_divide 47 = .ok (.imul, 1) := by decide +kernel
theorem dX2_divide_48 : decode cX2_divide 48 = .ok (.iload_n 2, 1) := by decide +kernel
theorem dX2_divide_49 : decode cX2_divide 49 = .ok (.iadd, 1) := by decide +kernel
theorem dX2_divide_50 : decode cX2_divide 50 = .ok (.iaload, 1) := by decide +kernel
theorem dX2_divide_51 : decode cX2_divide 51 = .ok (.istore_n 3, 1) := by decide +kernel
theorem dX2_divide_52 : decode cX2_divide 52 = .ok (.aload_n 0, 1) := by decide +kernel
theorem dX2_divide_53 : decode cX2_divide 53 = .ok (.getfield 7, 3) := by decide +kernel
theorem dX2_divide_56 : decode cX2_divide 56 = .ok (.bipush 11, 2) := by decide +kernel
theorem dX2_divide_58 : decode cX2_divide 58 = .ok (.aload_n 0, 1) := by decide +kernel
theorem dX2_divide_59 : decode cX2_divide 59 = .ok (.invokevirtual 77, 3) := by decide +kernel
theorem dX2_divide_62 : decode cX2_divide 62 = .ok (.imul, 1) := by decide +kernel
theorem dX2_divide_63 : decode cX2_divide 63 = .ok (.iload_n 2, 1) := by decide +kernel
theorem dX2_divide_64 : decode cX2_divide 64 = .ok (.iadd, 1) := by decide +kernel
theorem dX2_divide_65 : decode cX2_divide 65 = .ok (.iload_n 3, 1) := by decide +kernel
theorem dX2_divide_66 : decode cX2_divide 66 = .ok (.ifCond .ge 13, 3) := by decide +kernel
theorem dX2_divide_69 : decode cX2_divide 69 = .ok (.iload_n 3, 1) := by decide +kernel
theorem dX2_divide_70 : decode cX2_divide 70 = .ok (.ineg, 1) := by decide +kernel
theorem dX2_divide_71 : decode cX2_divide 71 = .ok (.iload_n 1, 1) := by decide +kernel
theorem dX2_divide_72 : decode cX2_divide 72 = .ok (.invokestatic 86, 3) := by decide +kernel
theorem dX2_divide_75 : decode cX2_divide 75 = .ok (.ineg, 1) := by decide +kernel
theorem dX2_divide_76 : decode cX2_divide 76 = .ok (.goto 8, 3) := by decide +kernel
theorem dX2_divide_79 : decode cX2_divide 79 = .ok (.iload_n 3, 1) := by decide +kernel
theorem dX2_divide_80 : decode cX2_divide 80 = .ok (.iload_n 1, 1) := by decide +kernel
theorem dX2_divide_81 : decode cX2_divide 81 = .ok (.invokestatic 86, 3) := by decide +kernel
theorem dX2_divide_84 : decode cX2_divide 84 = .ok (.iastore, 1) := by decide +kernel
theorem dX2_divide_85 : decode cX2_divide 85 = .ok (.iinc 2 1, 3) := by decide +kernel
theorem dX2_divide_88 : decode cX2_divide 88 = .ok (.goto (-57), 3) := by decide +kernel
theorem dX2_divide_91 : decode cX2_divide 91 = .ok (.return_, 1) := by decide +kernel
set_option maxRecDepth 20000 in
theorem ggX2_saturate_X2_fails : GoodIn wsX2_saturate wsX2_fails := goodIn_r _ [7, 8, 16, 17, 18, 19, 20, 21, 22, 23, 24, 25, 26, 27, 28] (by decide +kernel) (by decide +kernel)
set_option maxRecDepth 20000 in
theorem gX2_saturate_X2_fails : GoodIn wsX2_saturate (wsV RX2 38 RX2 yX2_fails wsX2_fails) := goodIn_app (goodIn_of _ (by decide +kernel)) ggX2_saturate_X2_fails
set_option maxRecDepth 20000 in
theorem ggX2_saturate_X2_upper : GoodIn wsX2_saturate wsX2_upper := goodIn_r _ [12, 1, 16, 17, 18, 19, 20, 21, 22, 23, 24, 25, 26, 27, 28] (by decide +kernel) (by decide +kernel)
set_option maxRecDepth 20000 in
theorem gX2_saturate_X2_upper : GoodIn wsX2_saturate (wsV RX2 77 RX2 yX2_upper wsX2_upper) := goodIn_app (goodIn_of _ (by decide +kernel)) ggX2_saturate_X2_upper
set_option maxRecDepth 20000 in
theorem ggX2_saturate_X2_size : GoodIn wsX2_saturate wsX2_size := goodIn_r _ [15] (by decide +kernel) (by decide +kernel)
set_option maxRecDepth 20000 in
theorem gX2_saturate_X2_size : GoodIn wsX2_saturate (va_wsS RX2 30 yX2_size wsX2_size) := goodIn_app (goodIn_of _ (by decide +kernel)) ggX2_saturate_X2_size
theorem dX2_saturate_0 : decode cX2_saturate 0 = .ok (.aload_n 0, 1) := by decide +kernel
theorem dX2_saturate_1 : decode cX2_saturate 1 = .ok (.aload_n 0, 1) := by decide +kernel
theorem dX2_saturate_2 : decode cX2_saturate 2 = .ok (.getfield 74, 3) := by decide +kernel
theorem dX2_saturate_5 : decode cX2_saturate 5 = .ok (.iconst 1, 1) := by decide +kernel
theorem dX2_saturate_6 : decode cX2_saturate 6 = .ok (.if_icmp .ge 7, 3) := by decide +kernel
theorem dX2_saturate_9 : decode cX2_saturate 9 = .ok (.iconst 1, 1) := by decide +kernel
theorem dX2_saturate_10 : decode cX2_saturate 10 = .ok (.goto 4, 3) := by decide +kernel
theorem dX2_saturate_13 : decode cX2_saturate 13 = .ok (.iconst 0, 1) := by decide +kernel
theorem dX2_saturate_14 : decode cX2_saturate 14 = .ok (.iconst 0, 1) := by decide +kernel
theorem dX2_saturate_15 : decode cX2_saturate 15 = .ok (.iconst 0, 1) := by decide +kernel
theorem dX2_saturate_16 : decode cX2_saturate 16 = .ok (.invokevirtual 38, 3) := by decide +kernel
theorem dX2_saturate_19 : decode cX2_saturate 19 = .ok (.ifCond .eq 4, 3) := by decide +kernel
theorem dX2_saturate_22 : decode cX2_saturate 22 = .ok (.return_, 1) := by decide +kernel
theorem dX2_saturate_23 : decode cX2_saturate 23 = .ok (.aload_n 0, 1) := by decide +kernel
theorem dX2_saturate_24 : decode cX2_saturate 24 = .ok (.getfield 7, 3) := by decide +kernel
theorem dX2_saturate_27 : decode cX2_saturate 27 = .ok (.bipush 11, 2) := by decide +kernel
theorem dX2_saturate_29 : decode cX2_saturate 29 = .ok (.aload_n 0, 1) := by decide +kernel
theorem dX2_saturate_30 : decode cX2_saturate 30 = .ok (.invokevirtual 77, 3) := by decide +kernel
theorem dX2_saturate_33 : decode cX2_saturate 33 = .ok (.imul, 1) := by decide +kernel
theorem dX2_saturate_34 : decode cX2_saturate 34 = .ok (.bipush 10, 2) := by decide +kernel
theorem dX2_saturate_36 : decode cX2_saturate 36 = .ok (.iadd, 1) := by decide +kernel
theorem dX2_saturate_37 : decode cX2_saturate 37 = .ok (.iaload, 1) := by decide +kernel
theorem dX2_saturate_38 : decode cX2_saturate 38 = .ok (.istore_n 1, 1) := by decide +kernel
theorem dX2_saturate_39 : decode cX2_saturate 39 = .ok (.iconst 0, 1) := by decide +kernel
theorem dX2_saturate_40 : decode cX2_saturate 40 = .ok (.istore_n 2, 1) := by decide +kernel
theorem dX2_saturate_41 : decode cX2_saturate 41 = .ok (.iload_n 2, 1) := by decide +kernel
theorem dX2_saturate_42 : decode cX2_saturate 42 = .ok (.bipush 10, 2) := by decide +kernel
theorem dX2_saturate_44 : decode cX2_saturate 44 = .ok (.if_icmp .ge 56, 3) := by decide +kernel
theorem dX2_saturate_47 : decode cX2_saturate 47 = .ok (.aload_n 0, 1) := by decide +kernel
theorem dX2_saturate_48 : decode cX2_saturate 48 = .ok (.getfield 7, 3) := by decide +kernel
theorem dX2_saturate_51 : decode cX2_saturate 51 = .ok (.bipush 11, 2) := by decide +kernel
theorem dX2_saturate_53 : decode cX2_saturate 53 = .ok (.aload_n 0, 1) := by decide +kernel
theorem dX2_saturate_54 : decode cX2_saturate 54 = .ok (.invokevirtual 77, 3) := by decide +kernel
theorem dX2_saturate_57 : decode cX2_saturate 57 = .ok (.imul, 1) := by decide +kernel
theorem dX2_saturate_58 : decode cX2_saturate 58 = .ok (.iload_n 2, 1) := by decide +kernel
theorem dX2_saturate_59 : decode cX2_saturate 59 = .ok (.iadd, 1) := by decide +kernel
theorem dX2_saturate_60 : decode cX2_saturate 60 = .ok (.iaload, 1) := by decide +kernel
theorem dX2_saturate_61 : decode cX2_saturate 61 = .ok (.istore_n 3, 1) := by decide +kernel
theorem dX2_saturate_62 : decode cX2_saturate 62 = .ok (.iload_n 3, 1) := by decide +kernel
theorem dX2_saturate_63 : decode cX2_saturate 63 = .ok (.invokestatic 30, 3) := by decide +kernel
theorem dX2_saturate_66 : decode cX2_saturate 66 = .ok (.iload_n 1, 1) := by decide +kernel
theorem dX2_saturate_67 : decode cX2_saturate 67 = .ok (.if_icmp .le 27, 3) := by decide +kernel
theorem dX2_saturate_70 : decode cX2_saturate 70 = .ok (.aload_n 0, 1) := by decide +kernel
theorem dX2_saturate_71 : decode cX2_saturate 71 = .ok (.getfield 7, 3) := by decide +kernel
theorem dX2_saturate_74 : decode cX2_saturate 74 = .ok (.bipush 11, 2) := by decide +kernel
theorem dX2_saturate_76 : decode cX2_saturate 76 = .ok (.aload_n 0, 1) := by decide +kernel
theorem dX2_saturate_77 : decode cX2_saturate 77 = .ok (.invokevirtual 77, 3) := by decide +kernel
theorem dX2_saturate_80 : decode cX2_saturate 80 = .ok (.imul, 1) := by decide +kernel
theorem dX2_saturate_81 : decode cX2_saturate 81 = .ok (.iload_n 2, 1) := by decide +kernel
theorem dX2_saturate_82 : decode cX2_saturate 82 = .ok (.iadd, 1) := by decide +kernel
theorem dX2_saturate_83 : decode cX2_saturate 83 = .ok (.iload_n 3, 1) := by decide +kernel
theorem dX2_saturate_84 : decode cX2_saturate 84 = .ok (.ifCond .ge 8, 3) := by decide +kernel
theorem dX2_saturate_87 : decode cX2_saturate 87 = .ok (.iload_n 1, 1) := by decide +kernel
theorem dX2_saturate_88 : decode cX2_saturate 88 = .ok (.ineg, 1) := by decide +kernel
theorem dX2_saturate_89 : decode cX2_saturate 89 = .ok (.goto 4, 3) := by decide +kernel
theorem dX2_saturate_92 : decode cX2_saturate 92 = .ok (.iload_n 1, 1) := by decide +kernel
theorem dX2_saturate_93 : decode cX2_saturate 93 = .ok (.iastore, 1) := by decide +kernel
theorem dX2_saturate_94 : decode cX2_saturate 94 = .ok (.iinc 2 1, 3) := by decide +kernel
theorem dX2_saturate_97 : decode cX2_saturate 97 = .ok (.goto (-56), 3) := by decide +kernel
theorem dX2_saturate_100 : decode cX2_saturate 100 = .ok (.return_, 1) := by decide +kernel
set_option maxRecDepth 20000 in
theorem ggX2_weaken_X2_outside : GoodIn wsX2_weaken wsX2_outside := goodIn_r _ [6] (by decide +kernel) (by decide +kernel)
set_option maxRecDepth 20000 in
theorem gX2_weaken_X2_outside : GoodIn wsX2_weaken (va_wsS RX2 34 yX2_outside wsX2_outside) := goodIn_app (goodIn_of _ (by decide +kernel)) ggX2_weaken_X2_outside
set_option maxRecDepth 20000 in
theorem ggX2_weaken_X2_fails : GoodIn wsX2_weaken wsX2_fails := goodIn_r _ [10, 11, 19, 20, 21, 22, 23, 24, 25, 26, 27, 28, 29, 30, 31] (by decide +kernel) (by decide +kernel)
set_option maxRecDepth 20000 in
theorem gX2_weaken_X2_fails : GoodIn wsX2_weaken (wsV RX2 38 RX2 yX2_fails wsX2_fails) := goodIn_app (goodIn_of _ (by decide +kernel)) ggX2_weaken_X2_fails
set_option maxRecDepth 20000 in
theorem ggX2_weaken_X2_upper : GoodIn wsX2_weaken wsX2_upper := goodIn_r _ [15, 1, 19, 20, 21, 22, 23, 24, 25, 26, 27, 28, 29, 30, 31] (by decide +kernel) (by decide +kernel)
set_option maxRecDepth 20000 in
theorem gX2_weaken_X2_upper : GoodIn wsX2_weaken (wsV RX2 77 RX2 yX2_upper wsX2_upper) := goodIn_app (goodIn_of _ (by decide +kernel)) ggX2_weaken_X2_upper
set_option maxRecDepth 20000 in
theorem ggX2_weaken_X2_size : GoodIn wsX2_weaken wsX2_size := goodIn_r _ [18] (by decide +kernel) (by decide +kernel)
set_option maxRecDepth 20000 in
theorem gX2_weaken_X2_size : GoodIn wsX2_weaken (va_wsS RX2 30 yX2_size wsX2_size) := goodIn_app (goodIn_of _ (by decide +kernel)) ggX2_weaken_X2_size
theorem dX2_weaken_0 : decode cX2_weaken 0 = .ok (.aload_n 0, 1) := by decide +kernel
theorem dX2_weaken_1 : decode cX2_weaken 1 = .ok (.aload_n 0, 1) := by decide +kernel
theorem dX2_weaken_2 : decode cX2_weaken 2 = .ok (.getfield 74, 3) := by decide +kernel
theorem dX2_weaken_5 : decode cX2_weaken 5 = .ok (.iconst 1, 1) := by decide +kernel
theorem dX2_weaken_6 : decode cX2_weaken 6 = .ok (.if_icmp .ge 7, 3) := by decide +kernel
theorem dX2_weaken_9 : decode cX2_weaken 9 = .ok (.iconst 1, 1) := by decide +kernel
theorem dX2_weaken_10 : decode cX2_weaken 10 = .ok (.goto 4, 3) := by decide +kernel
theorem dX2_weaken_13 : decode cX2_weaken 13 = .ok (.iconst 0, 1) := by decide +kernel
theorem dX2_weaken_14 : decode cX2_weaken 14 = .ok (.iload_n 1, 1) := by decide +kernel
theorem dX2_weaken_15 : decode cX2_weaken 15 = .ok (.iconst 0, 1) := by decide +kernel
theorem dX2_weaken_16 : decode cX2_weaken 16 = .ok (.bipush 9, 2) := by decide +kernel
theorem dX2_weaken_18 : decode cX2_weaken 18 = .ok (.invokestatic 34, 3) := by decide +kernel
theorem dX2_weaken_21 : decode cX2_weaken 21 = .ok (.iconst 0, 1) := by decide +kernel
theorem dX2_weaken_22 : decode cX2_weaken 22 = .ok (.invokevirtual 38, 3) := by decide +kernel
theorem dX2_weaken_25 : decode cX2_weaken 25 = .ok (.ifCond .eq 4, 3) := by decide +kernel
theorem dX2_weaken_28 : decode cX2_weaken 28 = .ok (.return_, 1) := by decide +kernel
theorem dX2_weaken_29 : decode cX2_weaken 29 = .ok (.aload_n 0, 1) := by decide +kernel
theorem dX2_weaken_30 : decode cX2_weaken 30 = .ok (.getfield 7, 3) := by decide +kernel
theorem dX2_weaken_33 : decode cX2_weaken 33 = .ok (.bipush 11, 2) := by decide +kernel
theorem dX2_weaken_35 : decode cX2_weaken 35 = .ok (.aload_n 0, 1) := by decide +kernel
theorem dX2_weaken_36 : decode cX2_weaken 36 = .ok (.invokevirtual 77, 3) := by decide +kernel
theorem dX2_weaken_39 : decode cX2_weaken 39 = .ok (.imul, 1) := by decide +kernel
theorem dX2_weaken_40 : decode cX2_weaken 40 = .ok (.bipush 10, 2) := by decide +kernel
theorem dX2_weaken_42 : decode cX2_weaken 42 = .ok (.iadd, 1) := by decide +kernel
theorem dX2_weaken_43 : decode cX2_weaken 43 = .ok (.iaload, 1) := by decide +kernel
theorem dX2_weaken_44 : decode cX2_weaken 44 = .ok (.aload_n 0, 1) := by decide +kernel
theorem dX2_weaken_45 : decode cX2_weaken 45 = .ok (.getfield 7, 3) := by decide +kernel
theorem dX2_weaken_48 : decode cX2_weaken 48 = .ok (.bipush 11, 2) := by decide +kernel
theorem dX2_weaken_50 : decode cX2_weaken 50 = .ok (.aload_n 0, 1) := by decide +kernel
theorem dX2_weaken_51 : decode cX2_weaken 51 = .ok (.invokevirtual 77, 3) := by decide +kernel
theorem dX2_weaken_54 : decode cX2_weaken 54 = .ok (.imul, 1) := by decide +kernel
theorem dX2_weaken_55 : decode cX2_weaken 55 = .ok (.iload_n 1, 1) := by decide +kernel
theorem dX2_weaken_56 : decode cX2_weaken 56 = .ok (.iadd, 1) := by decide +kernel
theorem dX2_weaken_57 : decode cX2_weaken 57 = .ok (.iaload, 1) := by decide +kernel
theorem dX2_weaken_58 : decode cX2_weaken 58 = .ok (.invokestatic 30, 3) := by decide +kernel
theorem dX2_weaken_61 : decode cX2_weaken 61 = .ok (.isub, 1) := by decide +kernel
theorem dX2_weaken_62 : decode cX2_weaken 62 = .ok (.istore_n 2, 1) := by decide +kernel
theorem dX2_weaken_63 : decode cX2_weaken 63 = .ok (.aload_n 0, 1) := by decide +kernel
theorem dX2_weaken_64 : decode cX2_weaken 64 = .ok (.getfield 7, 3) := by decide +kernel
theorem dX2_weaken_67 : decode cX2_weaken 67 = .ok (.bipush 11, 2) := by decide +kernel
theorem dX2_weaken_69 : decode cX2_weaken 69 = .ok (.aload_n 0, 1) := by decide +kernel
theorem dX2_weaken_70 : decode cX2_weaken 70 = .ok (.invokevirtual 77, 3) := by decide +kernel
theorem dX2_weaken_73 : decode cX2_weaken 73 = .ok (.imul, 1) := by decide +kernel
theorem dX2_weaken_74 : decode cX2_weaken 74 = .ok (.bipush 10, 2) := by decide +kernel
theorem dX2_weaken_76 : decode cX2_weaken 76 = .ok (.iadd, 1) := by decide +kernel
theorem dX2_weaken_77 : decode cX2_weaken 77 = .ok (.iload_n 2, 1) := by decide +kernel
theorem dX2_weaken_78 : decode cX2_weaken 78 = .ok (.ifCond .ge 7, 3) := by decide +kernel
theorem dX2_weaken_81 : decode cX2_weaken 81 = .ok (.iconst 0, 1) := by decide +kernel
theorem dX2_weaken_82 : decode cX2_weaken 82 = .ok (.goto 4, 3) := by decide +kernel
theorem dX2_weaken_85 : decode cX2_weaken 85 = .ok (.iload_n 2, 1) := by decide +kernel
theorem dX2_weaken_86 : decode cX2_weaken 86 = .ok (.iastore, 1) := by decide +kernel
theorem dX2_weaken_87 : decode cX2_weaken 87 = .ok (.aload_n 0, 1) := by decide +kernel
theorem dX2_weaken_88 : decode cX2_weaken 88 = .ok (.getfield 7, 3) := by decide +kernel
theorem dX2_weaken_91 : decode cX2_weaken 91 = .ok (.bipush 11, 2) := by decide +kernel
theorem dX2_weaken_93 : decode cX2_weaken 93 = .ok (.aload_n 0, 1) := by decide +kernel
theorem dX2_weaken_94 : decode cX2_weaken 94 = .ok (.invokevirtual 77, 3) := by decide +kernel
theorem dX2_weaken_97 : decode cX2_weaken 97 = .ok (.imul, 1) := by decide +kernel
theorem dX2_weaken_98 : decode cX2_weaken 98 = .ok (.iload_n 1, 1) := by decide +kernel
theorem dX2_weaken_99 : decode cX2_weaken 99 = .ok (.iadd, 1) := by decide +kernel
theorem dX2_weaken_100 : decode cX2_weaken 100 = .ok (.iconst 0, 1) := by decide +kernel
theorem dX2_weaken_101 : decode cX2_weaken 101 = .ok (.iastore, 1) := by decide +kernel
theorem dX2_weaken_102 : decode cX2_weaken 102 = .ok (.return_, 1) := by decide +kernel
set_option maxRecDepth 20000 in
theorem ggX2_drop_X2_fails : GoodIn wsX2_drop wsX2_fails := goodIn_r _ [6, 7, 8, 9, 10, 11, 12, 13, 14, 15, 16, 17, 18, 19, 20] (by decide +kernel) (by decide +kernel)
set_option maxRecDepth 20000 in
theorem gX2_drop_X2_fails : GoodIn wsX2_drop (wsV RX2 38 RX2 yX2_fails wsX2_fails) := goodIn_app (goodIn_of _ (by decide +kernel)) ggX2_drop_X2_fails
theorem dX2_drop_0 : decode cX2_drop 0 = .ok (.aload_n 0, 1) := by decide +kernel
theorem dX2_drop_1 : decode cX2_drop 1 = .ok (.aload_n 0, 1) := by decide +kernel
theorem dX2_drop_2 : decode cX2_drop 2 = .ok (.getfield 74, 3) := by decide +kernel
theorem dX2_drop_5 : decode cX2_drop 5 = .ok (.iconst 1, 1) := by decide +kernel
theorem dX2_drop_6 : decode cX2_drop 6 = .ok (.if_icmp .ge 7, 3) := by decide +kernel
theorem dX2_drop_9 : decode cX2_drop 9 = .ok (.iconst 1, 1) := by decide +kernel
theorem dX2_drop_10 : decode cX2_drop 10 = .ok (.goto 4, 3) := by decide +kernel
theorem dX2_drop_13 : decode cX2_drop 13 = .ok (.iconst 0, 1) := by decide +kernel
theorem dX2_drop_14 : decode cX2_drop 14 = .ok (.iconst 0, 1) := by decide +kernel
theorem dX2_drop_15 : decode cX2_drop 15 = .ok (.iconst 0, 1) := by decide +kernel
theorem dX2_drop_16 : decode cX2_drop 16 = .ok (.invokevirtual 38, 3) := by decide +kernel
theorem dX2_drop_19 : decode cX2_drop 19 = .ok (.ifCond .ne 13, 3) := by decide +kernel
theorem dX2_drop_22 : decode cX2_drop 22 = .ok (.aload_n 0, 1) := by decide +kernel
theorem dX2_drop_23 : decode cX2_drop 23 = .ok (.dup, 1) := by decide +kernel
theorem dX2_drop_24 : decode cX2_drop 24 = .ok (.getfield 74, 3) := by decide +kernel
theorem dX2_drop_27 : decode cX2_drop 27 = .ok (.iconst 1, 1) := by decide +kernel
theorem dX2_drop_28 : decode cX2_drop 28 = .ok (.isub, 1) := by decide +kernel
theorem dX2_drop_29 : decode cX2_drop 29 = .ok (.putfield 74, 3) := by decide +kernel
theorem dX2_drop_32 : decode cX2_drop 32 = .ok (.return_, 1) := by decide +kernel
set_option maxRecDepth 20000 in
theorem ggX2_top_X2_outside : GoodIn wsX2_top wsX2_outside := goodIn_r _ [6] (by decide +kernel) (by decide +kernel)
set_option maxRecDepth 20000 in
theorem gX2_top_X2_outside : GoodIn wsX2_top (va_wsS RX2 34 yX2_outside wsX2_outside) := goodIn_app (goodIn_of _ (by decide +kernel)) ggX2_top_X2_outside
set_option maxRecDepth 20000 in
theorem ggX2_top_X2_fails : GoodIn wsX2_top wsX2_fails := goodIn_r _ [10, 11, 16, 17, 18, 19, 20, 21, 22, 23, 24, 25, 26, 27, 28] (by decide +kernel) (by decide +kernel)
set_option maxRecDepth 20000 in
theorem gX2_top_X2_fails : GoodIn wsX2_top (wsV RX2 38 RX2 yX2_fails wsX2_fails) := goodIn_app (goodIn_of _ (by decide +kernel)) ggX2_top_X2_fails
set_option maxRecDepth 20000 in
theorem ggX2_top_X2_upper : GoodIn wsX2_top wsX2_upper := goodIn_r _ [15, 1, 16, 17, 18, 19, 20, 21, 22, 23, 24, 25, 26, 27, 28] (by decide +kernel) (by decide +kernel)
set_option maxRecDepth 20000 in
theorem gX2_top_X2_upper : GoodIn wsX2_top (wsV RX2 77 RX2 yX2_upper wsX2_upper) := goodIn_app (goodIn_of _ (by decide +kernel)) ggX2_top_X2_upper
theorem dX2_top_0 : decode cX2_top 0 = .ok (.aload_n 0, 1) := by decide +kernel
theorem dX2_top_1 : decode cX2_top 1 = .ok (.iload_n 1, 1) := by decide +kernel
theorem dX2_top_2 : decode cX2_top 2 = .ok (.bipush (-2), 2) := by decide +kernel
theorem dX2_top_4 : decode cX2_top 4 = .ok (.bipush 9, 2) := by decide +kernel
theorem dX2_top_6 : decode cX2_top 6 = .ok (.invokestatic 34, 3) := by decide +kernel
theorem dX2_top_9 : decode cX2_top 9 = .ok (.iload_n 1, 1) := by decide +kernel
theorem dX2_top_10 : decode cX2_top 10 = .ok (.bipush (-2), 2) := by decide +kernel
theorem dX2_top_12 : decode cX2_top 12 = .ok (.if_icmp .eq 15, 3) := by decide +kernel
theorem dX2_top_15 : decode cX2_top 15 = .ok (.aload_n 0, 1) := by decide +kernel
theorem dX2_top_16 : decode cX2_top 16 = .ok (.getfield 74, 3) := by decide +kernel
theorem dX2_top_19 : decode cX2_top 19 = .ok (.iconst 1, 1) := by decide +kernel
theorem dX2_top_20 : decode cX2_top 20 = .ok (.if_icmp .ge 7, 3) := by decide +kernel
theorem dX2_top_23 : decode cX2_top 23 = .ok (.iconst 1, 1) := by decide +kernel
theorem dX2_top_24 : decode cX2_top 24 = .ok (.goto 4, 3) := by decide +kernel
theorem dX2_top_27 : decode cX2_top 27 = .ok (.iconst 0, 1) := by decide +kernel
theorem dX2_top_28 : decode cX2_top 28 = .ok (.iconst 0, 1) := by decide +kernel
theorem dX2_top_29 : decode cX2_top 29 = .ok (.invokevirtual 38, 3) := by decide +kernel
theorem dX2_top_32 : decode cX2_top 32 = .ok (.ifCond .eq 5, 3) := by decide +kernel
theorem dX2_top_35 : decode cX2_top 35 = .ok (.iconst 0, 1) := by decide +kernel
theorem dX2_top_36 : decode cX2_top 36 = .ok (.ireturn, 1) := by decide +kernel
theorem dX2_top_37 : decode cX2_top 37 = .ok (.iload_n 1, 1) := by decide +kernel
theorem dX2_top_38 : decode cX2_top 38 = .ok (.bipush (-2), 2) := by decide +kernel
theorem dX2_top_40 : decode cX2_top 40 = .ok (.if_icmp .ne 10, 3) := by decide +kernel
theorem dX2_top_43 : decode cX2_top 43 = .ok (.aload_n 0, 1) := by decide +kernel
theorem dX2_top_44 : decode cX2_top 44 = .ok (.getfield 74, 3) := by decide +kernel
theorem dX2_top_47 : decode cX2_top 47 = .ok (.goto 27, 3) := by decide +kernel
theorem dX2_top_50 : decode cX2_top 50 = .ok (.aload_n 0, 1) := by decide +kernel
theorem dX2_top_51 : decode cX2_top 51 = .ok (.getfield 7, 3) := by decide +kernel
theorem dX2_top_54 : decode cX2_top 54 = .ok (.bipush 11, 2) := by decide +kernel
theorem dX2_top_56 : decode cX2_top 56 = .ok (.aload_n 0, 1) := by decide +kernel
theorem dX2_top_57 : decode cX2_top 57 = .ok (.invokevirtual 77, 3) := by decide +kernel
theorem dX2_top_60 : decode cX2_top 60 = .ok (.imul, 1) := by decide +kernel
theorem dX2_top_61 : decode cX2_top 61 = .ok (.iload_n 1, 1) := by decide +kernel
theorem dX2_top_62 : decode cX2_top 62 = .ok (.iconst (-1), 1) := by decide +kernel
theorem dX2_top_63 : decode cX2_top 63 = .ok (.if_icmp .ne 8, 3) := by decide +kernel
theorem dX2_top_66 : decode cX2_top 66 = .ok (.bipush 10, 2) := by decide +kernel
theorem dX2_top_68 : decode cX2_top 68 = .ok (.goto 4, 3) := by decide +kernel
theorem dX2_top_71 : decode cX2_top 71 = .ok (.iload_n 1, 1) := by decide +kernel
theorem dX2_top_72 : decode cX2_top 72 = .ok (.iadd, 1) := by decide +kernel
theorem dX2_top_73 : decode cX2_top 73 = .ok (.iaload, 1) := by decide +kernel
theorem dX2_top_74 : decode cX2_top 74 = .ok (.ireturn, 1) := by decide +kernel
set_option maxRecDepth 20000 in
theorem ggX2_learn_X2_fails : GoodIn wsX2_learn wsX2_fails := goodIn_r _ [7, 8, 23, 24, 25, 26, 27, 28, 29, 30, 31, 32, 33, 34, 35] (by decide +kernel) (by decide +kernel)
set_option maxRecDepth 20000 in
theorem gX2_learn_X2_fails : GoodIn wsX2_learn (wsV RX2 38 RX2 yX2_fails wsX2_fails) := goodIn_app (goodIn_of _ (by decide +kernel)) ggX2_learn_X2_fails
set_option maxRecDepth 20000 in
theorem ggX2_learn_X2_upper : GoodIn wsX2_learn wsX2_upper := goodIn_r _ [12, 1, 23, 24, 25, 26, 27, 28, 29, 30, 31, 32, 33, 34, 35] (by decide +kernel) (by decide +kernel)
set_option maxRecDepth 20000 in
theorem gX2_learn_X2_upper : GoodIn wsX2_learn (wsV RX2 77 RX2 yX2_upper wsX2_upper) := goodIn_app (goodIn_of _ (by decide +kernel)) ggX2_learn_X2_upper
set_option maxRecDepth 20000 in
theorem ggX2_learn_X2_keep : GoodIn wsX2_learn wsX2_keep := goodIn_r _ [16, 2, 17, 18, 19, 20, 6, 21, 22, 23, 24, 25, 26, 27, 28, 29, 30, 31, 32, 33, 34, 35] (by decide +kernel) (by decide +kernel)
set_option maxRecDepth 20000 in
theorem gX2_learn_X2_keep : GoodIn wsX2_learn (wsV RX2 60 RX2 yX2_keep wsX2_keep) := goodIn_app (goodIn_of _ (by decide +kernel)) ggX2_learn_X2_keep
theorem dX2_learn_0 : decode cX2_learn 0 = .ok (.aload_n 0, 1) := by decide +kernel
theorem dX2_learn_1 : decode cX2_learn 1 = .ok (.aload_n 0, 1) := by decide +kernel
theorem dX2_learn_2 : decode cX2_learn 2 = .ok (.getfield 74, 3) := by decide +kernel
theorem dX2_learn_5 : decode cX2_learn 5 = .ok (.iconst 1, 1) := by decide +kernel
theorem dX2_learn_6 : decode cX2_learn 6 = .ok (.if_icmp .lt 12, 3) := by decide +kernel
theorem dX2_learn_9 : decode cX2_learn 9 = .ok (.aload_n 0, 1) := by decide +kernel
theorem dX2_learn_10 : decode cX2_learn 10 = .ok (.getfield 45, 3) := by decide +kernel
theorem dX2_learn_13 : decode cX2_learn 13 = .ok (.bipush 30, 2) := by decide +kernel
theorem dX2_learn_15 : decode cX2_learn 15 = .ok (.if_icmp .ne 7, 3) := by decide +kernel
theorem dX2_learn_18 : decode cX2_learn 18 = .ok (.iconst 1, 1) := by decide +kernel
theorem dX2_learn_19 : decode cX2_learn 19 = .ok (.goto 4, 3) := by decide +kernel
theorem dX2_learn_22 : decode cX2_learn 22 = .ok (.iconst 0, 1) := by decide +kernel
theorem dX2_learn_23 : decode cX2_learn 23 = .ok (.iconst 0, 1) := by decide +kernel
theorem dX2_learn_24 : decode cX2_learn 24 = .ok (.iconst 0, 1) := by decide +kernel
theorem dX2_learn_25 : decode cX2_learn 25 = .ok (.invokevirtual 38, 3) := by decide +kernel
theorem dX2_learn_28 : decode cX2_learn 28 = .ok (.ifCond .eq 5, 3) := by decide +kernel
theorem dX2_learn_31 : decode cX2_learn 31 = .ok (.iconst 0, 1) := by decide +kernel
theorem dX2_learn_32 : decode cX2_learn 32 = .ok (.ireturn, 1) := by decide +kernel
theorem dX2_learn_33 : decode cX2_learn 33 = .ok (.aload_n 0, 1) := by decide +kernel
theorem dX2_learn_34 : decode cX2_learn 34 = .ok (.aload_n 0, 1) := by decide +kernel
theorem dX2_learn_35 : decode cX2_learn 35 = .ok (.invokevirtual 77, 3) := by decide +kernel
theorem dX2_learn_38 : decode cX2_learn 38 = .ok (.iconst 0, 1) := by decide +kernel
theorem dX2_learn_39 : decode cX2_learn 39 = .ok (.invokevirtual 60, 3) := by decide +kernel
theorem dX2_learn_42 : decode cX2_learn 42 = .ok (.istore_n 1, 1) := by decide +kernel
theorem dX2_learn_43 : decode cX2_learn 43 = .ok (.aload_n 0, 1) := by decide +kernel
theorem dX2_learn_44 : decode cX2_learn 44 = .ok (.dup, 1) := by decide +kernel
theorem dX2_learn_45 : decode cX2_learn 45 = .ok (.getfield 74, 3) := by decide +kernel
theorem dX2_learn_48 : decode cX2_learn 48 = .ok (.iconst 1, 1) := by decide +kernel
theorem dX2_learn_49 : decode cX2_learn 49 = .ok (.isub, 1) := by decide +kernel
theorem dX2_learn_50 : decode cX2_learn 50 = .ok (.putfield 74, 3) := by decide +kernel
theorem dX2_learn_53 : decode cX2_learn 53 = .ok (.iload_n 1, 1) := by decide +kernel
theorem dX2_learn_54 : decode cX2_learn 54 = .ok (.ireturn, 1) := by decide +kernel
set_option maxRecDepth 20000 in
theorem ggX2_contradict_X2_outside : GoodIn wsX2_contradict wsX2_outside := goodIn_r _ [7] (by decide +kernel) (by decide +kernel)
set_option maxRecDepth 20000 in
theorem gX2_contradict_X2_outside : GoodIn wsX2_contradict (va_wsS RX2 34 yX2_outside wsX2_outside) := goodIn_app (goodIn_of _ (by decide +kernel)) ggX2_contradict_X2_outside
set_option maxRecDepth 20000 in
theorem ggX2_contradict_X2_fails : GoodIn wsX2_contradict wsX2_fails := goodIn_r _ [11, 12, 51, 52, 53, 54, 55, 56, 57, 58, 59, 60, 61, 62, 63] (by decide +kernel) (by decide +kernel)
set_option maxRecDepth 20000 in
theorem gX2_contradict_X2_fails : GoodIn wsX2_contradict (wsV RX2 38 RX2 yX2_fails wsX2_fails) := goodIn_app (goodIn_of _ (by decide +kernel)) ggX2_contradict_X2_fails
set_option maxRecDepth 20000 in
theorem ggX2_contradict_X2_normalize : GoodIn wsX2_contradict wsX2_normalize := goodIn_r _ [16, 17, 18, 2, 51, 52, 53, 54, 55, 56, 57, 58, 59, 60, 61, 62, 63] (by decide +kernel) (by decide +kernel)
set_option maxRecDepth 20000 in
theorem gX2_contradict_X2_normalize : GoodIn wsX2_contradict (wsV RX2 56 RX2 yX2_normalize wsX2_normalize) := goodIn_app (goodIn_of _ (by decide +kernel)) ggX2_contradict_X2_normalize
set_option maxRecDepth 20000 in
theorem ggX2_contradict_X2_sizes : GoodIn wsX2_contradict wsX2_sizes := goodIn_r _ [22, 2, 23, 24, 6, 25, 51, 52, 53, 54, 55, 56, 57, 58, 59, 60, 61, 62, 63] (by decide +kernel) (by decide +kernel)
set_option maxRecDepth 20000 in
theorem gX2_contradict_X2_sizes : GoodIn wsX2_contradict (wsV RX2 90 RX2 yX2_sizes wsX2_sizes) := goodIn_app (goodIn_of _ (by decide +kernel)) ggX2_contradict_X2_sizes
set_option maxRecDepth 20000 in
theorem ggX2_contradict_X2_closes : GoodIn wsX2_contradict wsX2_closes := goodIn_r _ [29, 1, 30, 31, 32, 6, 33, 2, 3, 34, 35, 36, 37, 23, 24, 25, 51, 52, 53, 54, 55, 56, 57, 58, 59, 60, 61, 62, 63] (by decide +kernel) (by decide +kernel)
set_option maxRecDepth 20000 in
theorem gX2_contradict_X2_closes : GoodIn wsX2_contradict (wsV RX2 70 RX2 yX2_closes wsX2_closes) := goodIn_app (goodIn_of _ (by decide +kernel)) ggX2_contradict_X2_closes
set_option maxRecDepth 20000 in
theorem ggX2_contradict_X2_empty : GoodIn wsX2_contradict wsX2_empty := goodIn_r _ [41, 18, 51, 52, 53, 54, 55, 56, 57, 58, 59, 60, 61, 62, 63] (by decide +kernel) (by decide +kernel)
set_option maxRecDepth 20000 in
theorem gX2_contradict_X2_empty : GoodIn wsX2_contradict (wsV RX2 42 RX2 yX2_empty wsX2_empty) := goodIn_app (goodIn_of _ (by decide +kernel)) ggX2_contradict_X2_empty
set_option maxRecDepth 20000 in
theorem ggX2_contradict_X2_keep : GoodIn wsX2_contradict wsX2_keep := goodIn_r _ [45, 1, 46, 47, 48, 49, 6, 50, 2, 51, 52, 53, 54, 55, 56, 57, 58, 59, 60, 61, 62, 63] (by decide +kernel) (by decide +kernel)
set_option maxRecDepth 20000 in
theorem gX2_contradict_X2_keep : GoodIn wsX2_contradict (wsV RX2 60 RX2 yX2_keep wsX2_keep) := goodIn_app (goodIn_of _ (by decide +kernel)) ggX2_contradict_X2_keep
theorem dX2_contradict_0 : decode cX2_contradict 0 = .ok (.aload_n 0, 1) := by decide +kernel
theorem dX2_contradict_1 : decode cX2_contradict 1 = .ok (.iload_n 1, 1) := by decide +kernel
theorem dX2_contradict_2 : decode cX2_contradict 2 = .ok (.sipush (-9999), 3) := by decide +kernel
theorem dX2_contradict_5 : decode cX2_contradict 5 = .ok (.sipush 9999, 3) := by decide +kernel
theorem dX2_contradict_8 : decode cX2_contradict 8 = .ok (.invokestatic 34, 3) := by decide +kernel
theorem dX2_contradict_11 : decode cX2_contradict 11 = .ok (.aload_n 0, 1) := by decide +kernel
theorem dX2_contradict_12 : decode cX2_contradict 12 = .ok (.getfield 45, 3) := by decide +kernel
theorem dX2_contradict_15 : decode cX2_contradict 15 = .ok (.bipush 30, 2) := by decide +kernel
theorem dX2_contradict_17 : decode cX2_contradict 17 = .ok (.if_icmp .ne 7, 3) := by decide +kernel
theorem dX2_contradict_20 : decode cX2_contradict 20 = .ok (.iconst 1, 1) := by decide +kernel
theorem dX2_contradict_21 : decode cX2_contradict 21 = .ok (.goto 4, 3) := by decide +kernel
theorem dX2_contradict_24 : decode cX2_contradict 24 = .ok (.iconst 0, 1) := by decide +kernel
theorem dX2_contradict_25 : decode cX2_contradict 25 = .ok (.iconst 0, 1) := by decide +kernel
theorem dX2_contradict_26 : decode cX2_contradict 26 = .ok (.invokevirtual 38, 3) := by decide +kernel
theorem dX2_contradict_29 : decode cX2_contradict 29 = .ok (.ifCond .eq 5, 3) := by decide +kernel
theorem dX2_contradict_32 : decode cX2_contradict 32 = .ok (.iconst 0, 1) := by decide +kernel
theorem dX2_contradict_33 : decode cX2_contradict 33 = .ok (.ireturn, 1) := by decide +kernel
theorem dX2_contradict_34 : decode cX2_contradict 34 = .ok (.aload_n 0, 1) := by decide +kernel
theorem dX2_contradict_35 : decode cX2_contradict 35 = .ok (.iconst 0, 1) := by decide +kernel
theorem dX2_contradict_36 : decode cX2_contradict 36 = .ok (.iconst 1, 1) := by decide +kernel
theorem dX2_contradict_37 : decode cX2_contradict 37 = .ok (.iload_n 1, 1) := by decide +kernel
theorem dX2_contradict_38 : decode cX2_contradict 38 = .ok (.invokevirtual 56, 3) := by decide +kernel
theorem dX2_contradict_41 : decode cX2_contradict 41 = .ok (.aload_n 0, 1) := by decide +kernel
theorem dX2_contradict_42 : decode cX2_contradict 42 = .ok (.bipush 36, 2) := by decide +kernel
theorem dX2_contradict_44 : decode cX2_contradict 44 = .ok (.invokevirtual 90, 3) := by decide +kernel
theorem dX2_contradict_47 : decode cX2_contradict 47 = .ok (.iconst 1, 1) := by decide +kernel
theorem dX2_contradict_48 : decode cX2_contradict 48 = .ok (.iadd, 1) := by decide +kernel
theorem dX2_contradict_49 : decode cX2_contradict 49 = .ok (.aload_n 0, 1) := by decide +kernel
theorem dX2_contradict_50 : decode cX2_contradict 50 = .ok (.getfield 7, 3) := by decide +kernel
theorem dX2_contradict_53 : decode cX2_contradict 53 = .ok (.sipush 406, 3) := by decide +kernel
theorem dX2_contradict_56 : decode cX2_contradict 56 = .ok (.iaload, 1) := by decide +kernel
theorem dX2_contradict_57 : decode cX2_contradict 57 = .ok (.isub, 1) := by decide +kernel
theorem dX2_contradict_58 : decode cX2_contradict 58 = .ok (.istore_n 2, 1) := by decide +kernel
theorem dX2_contradict_59 : decode cX2_contradict 59 = .ok (.iconst 0, 1) := by decide +kernel
theorem dX2_contradict_60 : decode cX2_contradict 60 = .ok (.istore_n 3, 1) := by decide +kernel
theorem dX2_contradict_61 : decode cX2_contradict 61 = .ok (.iload_n 3, 1) := by decide +kernel
theorem dX2_contradict_62 : decode cX2_contradict 62 = .ok (.bipush 10, 2) := by decide +kernel
theorem dX2_contradict_64 : decode cX2_contradict 64 = .ok (.if_icmp .ge 37, 3) := by decide +kernel
theorem dX2_contradict_67 : decode cX2_contradict 67 = .ok (.aload_n 0, 1) := by decide +kernel
theorem dX2_contradict_68 : decode cX2_contradict 68 = .ok (.getfield 7, 3) := by decide +kernel
theorem dX2_contradict_71 : decode cX2_contradict 71 = .ok (.sipush 407, 3) := by decide +kernel
theorem dX2_contradict_74 : decode cX2_contradict 74 = .ok (.iload_n 3, 1) := by decide +kernel
theorem dX2_contradict_75 : decode cX2_contradict 75 = .ok (.iadd, 1) := by decide +kernel
theorem dX2_contradict_76 : decode cX2_contradict 76 = .ok (.aload_n 0, 1) := by decide +kernel
theorem dX2_contradict_77 : decode cX2_contradict 77 = .ok (.getfield 7, 3) := by decide +kernel
theorem dX2_contradict_80 : decode cX2_contradict 80 = .ok (.sipush 396, 3) := by decide +kernel
theorem dX2_contradict_83 : decode cX2_contradict 83 = .ok (.iload_n 3, 1) := by decide +kernel
theorem dX2_contradict_84 : decode cX2_contradict 84 = .ok (.iadd, 1) := by decide +kernel
theorem dX2_contradict_85 : decode cX2_contradict 85 = .ok (.iaload, 1) := by decide +kernel
theorem dX2_contradict_86 : decode cX2_contradict 86 = .ok (.ineg, 1) := by decide +kernel
theorem dX2_contradict_87 : decode cX2_contradict 87 = .ok (.iastore, 1) := by decide +kernel
theorem dX2_contradict_88 : decode cX2_contradict 88 = .ok (.aload_n 0, 1) := by decide +kernel
theorem dX2_contradict_89 : decode cX2_contradict 89 = .ok (.getfield 23, 3) := by decide +kernel
theorem dX2_contradict_92 : decode cX2_contradict 92 = .ok (.iload_n 3, 1) := by decide +kernel
theorem dX2_contradict_93 : decode cX2_contradict 93 = .ok (.iconst (-1), 1) := by decide +kernel
theorem dX2_contradict_94 : decode cX2_contradict 94 = .ok (.iastore, 1) := by decide +kernel
theorem dX2_contradict_95 : decode cX2_contradict 95 = .ok (.iinc 3 1, 3) := by decide +kernel
theorem dX2_contradict_98 : decode cX2_contradict 98 = .ok (.goto (-37), 3) := by decide +kernel
theorem dX2_contradict_101 : decode cX2_contradict 101 = .ok (.aload_n 0, 1) := by decide +kernel
theorem dX2_contradict_102 : decode cX2_contradict 102 = .ok (.getfield 7, 3) := by decide +kernel
theorem dX2_contradict_105 : decode cX2_contradict 105 = .ok (.sipush 417, 3) := by decide +kernel
theorem dX2_contradict_108 : decode cX2_contradict 108 = .ok (.iload_n 2, 1) := by decide +kernel
theorem dX2_contradict_109 : decode cX2_contradict 109 = .ok (.ifCond .ge 7, 3) := by decide +kernel
theorem dX2_contradict_112 : decode cX2_contradict 112 = .ok (.iconst 0, 1) := by decide +kernel
theorem dX2_contradict_113 : decode cX2_contradict 113 = .ok (.goto 4, 3) := by decide +kernel
theorem dX2_contradict_116 : decode cX2_contradict 116 = .ok (.iload_n 2, 1) := by decide +kernel
theorem dX2_contradict_117 : decode cX2_contradict 117 = .ok (.iastore, 1) := by decide +kernel
theorem dX2_contradict_118 : decode cX2_contradict 118 = .ok (.aload_n 0, 1) := by decide +kernel
theorem dX2_contradict_119 : decode cX2_contradict 119 = .ok (.iconst 1, 1) := by decide +kernel
theorem dX2_contradict_120 : decode cX2_contradict 120 = .ok (.invokevirtual 70, 3) := by decide +kernel
theorem dX2_contradict_123 : decode cX2_contradict 123 = .ok (.ifCond .eq 5, 3) := by decide +kernel
theorem dX2_contradict_126 : decode cX2_contradict 126 = .ok (.iconst (-1), 1) := by decide +kernel
theorem dX2_contradict_127 : decode cX2_contradict 127 = .ok (.ireturn, 1) := by decide +kernel
theorem dX2_contradict_128 : decode cX2_contradict 128 = .ok (.aload_n 0, 1) := by decide +kernel
theorem dX2_contradict_129 : decode cX2_contradict 129 = .ok (.invokevirtual 42, 3) := by decide +kernel
theorem dX2_contradict_132 : decode cX2_contradict 132 = .ok (.aload_n 0, 1) := by decide +kernel
theorem dX2_contradict_133 : decode cX2_contradict 133 = .ok (.bipush 36, 2) := by decide +kernel
theorem dX2_contradict_135 : decode cX2_contradict 135 = .ok (.iconst 0, 1) := by decide +kernel
theorem dX2_contradict_136 : decode cX2_contradict 136 = .ok (.invokevirtual 60, 3) := by decide +kernel
theorem dX2_contradict_139 : decode cX2_contradict 139 = .ok (.ireturn, 1) := by decide +kernel
set_option maxRecDepth 20000 in
theorem ggX2_meets_X2_size : GoodIn wsX2_meets wsX2_size := goodIn_r _ [5] (by decide +kernel) (by decide +kernel)
set_option maxRecDepth 20000 in
theorem gX2_meets_X2_size : GoodIn wsX2_meets (va_wsS RX2 30 yX2_size wsX2_size) := goodIn_app (goodIn_of _ (by decide +kernel)) ggX2_meets_X2_size
theorem dX2_meets_0 : decode cX2_meets 0 = .ok (.iconst 0, 1) := by decide +kernel
theorem dX2_meets_1 : decode cX2_meets 1 = .ok (.istore_n 3, 1) := by decide +kernel
theorem dX2_meets_2 : decode cX2_meets 2 = .ok (.iconst 0, 1) := by decide +kernel
theorem dX2_meets_3 : decode cX2_meets 3 = .ok (.istore 4, 2) := by decide +kernel
theorem dX2_meets_5 : decode cX2_meets 5 = .ok (.iload 4, 2) := by decide +kernel
theorem dX2_meets_7 : decode cX2_meets 7 = .ok (.bipush 10, 2) := by decide +kernel
theorem dX2_meets_9 : decode cX2_meets 9 = .ok (.if_icmp .ge 67, 3) := by decide +kernel
theorem dX2_meets_12 : decode cX2_meets 12 = .ok (.aload_n 0, 1) := by decide +kernel
theorem dX2_meets_13 : decode cX2_meets 13 = .ok (.getfield 7, 3) := by decide +kernel
theorem dX2_meets_16 : decode cX2_meets 16 = .ok (.bipush 11, 2) := by decide +kernel
theorem dX2_meets_18 : decode cX2_meets 18 = .ok (.iload_n 1, 1) := by decide +kernel
theorem dX2_meets_19 : decode cX2_meets 19 = .ok (.imul, 1) := by decide +kernel
theorem dX2_meets_20 : decode cX2_meets 20 = .ok (.iload 4, 2) := by decide +kernel
theorem dX2_meets_22 : decode cX2_meets 22 = .ok (.iadd, 1) := by decide +kernel
theorem dX2_meets_23 : decode cX2_meets 23 = .ok (.iaload, 1) := by decide +kernel
theorem dX2_meets_24 : decode cX2_meets 24 = .ok (.istore 5, 2) := by decide +kernel
theorem dX2_meets_26 : decode cX2_meets 26 = .ok (.iload_n 2, 1) := by decide +kernel
theorem dX2_meets_27 : decode cX2_meets 27 = .ok (.iload 4, 2) := by decide +kernel
theorem dX2_meets_29 : decode cX2_meets 29 = .ok (.ishr, 1) := by decide +kernel
theorem dX2_meets_30 : decode cX2_meets 30 = .ok (.iconst 1, 1) := by decide +kernel
theorem dX2_meets_31 : decode cX2_meets 31 = .ok (.iand, 1) := by decide +kernel
theorem dX2_meets_32 : decode cX2_meets 32 = .ok (.iconst 1, 1) := by decide +kernel
theorem dX2_meets_33 : decode cX2_meets 33 = .ok (.if_icmp .ne 7, 3) := by decide +kernel
theorem dX2_meets_36 : decode cX2_meets 36 = .ok (.iconst 1, 1) := by decide +kernel
theorem dX2_meets_37 : decode cX2_meets 37 = .ok (.goto 4, 3) := by decide +kernel
theorem dX2_meets_40 : decode cX2_meets 40 = .ok (.iconst 0, 1) := by decide +kernel
theorem dX2_meets_41 : decode cX2_meets 41 = .ok (.istore 6, 2) := by decide +kernel
theorem dX2_meets_43 : decode cX2_meets 43 = .ok (.iload_n 3, 1) := by decide +kernel
theorem dX2_meets_44 : decode cX2_meets 44 = .ok (.iload 5, 2) := by decide +kernel
theorem dX2_meets_46 : decode cX2_meets 46 = .ok (.ifCond .le 7, 3) := by decide +kernel
theorem dX2_meets_49 : decode cX2_meets 49 = .ok (.iconst 1, 1) := by decide +kernel
theorem dX2_meets_50 : decode cX2_meets 50 = .ok (.goto 4, 3) := by decide +kernel
theorem dX2_meets_53 : decode cX2_meets 53 = .ok (.iconst 0, 1) := by decide +kernel
theorem dX2_meets_54 : decode cX2_meets 54 = .ok (.iload 6, 2) := by decide +kernel
theorem dX2_meets_56 : decode cX2_meets 56 = .ok (.if_icmp .ne 11, 3) := by decide +kernel
theorem dX2_meets_59 : decode cX2_meets 59 = .ok (.iload 5, 2) := by decide +kernel
theorem dX2_meets_61 : decode cX2_meets 61 = .ok (.invokestatic 30, 3) := by decide +kernel
theorem dX2_meets_64 : decode cX2_meets 64 = .ok (.goto 4, 3) := by decide +kernel
theorem dX2_meets_67 : decode cX2_meets 67 = .ok (.iconst 0, 1) := by decide +kernel
theorem dX2_meets_68 : decode cX2_meets 68 = .ok (.iadd, 1) := by decide +kernel
theorem dX2_meets_69 : decode cX2_meets 69 = .ok (.istore_n 3, 1) := by decide +kernel
theorem dX2_meets_70 : decode cX2_meets 70 = .ok (.iinc 4 1, 3) := by decide +kernel
theorem dX2_meets_73 : decode cX2_meets 73 = .ok (.goto (-68), 3) := by decide +kernel
theorem dX2_meets_76 : decode cX2_meets 76 = .ok (.iload_n 3, 1) := by decide +kernel
theorem dX2_meets_77 : decode cX2_meets 77 = .ok (.aload_n 0, 1) := by decide +kernel
theorem dX2_meets_78 : decode cX2_meets 78 = .ok (.getfield 7, 3) := by decide +kernel
theorem dX2_meets_81 : decode cX2_meets 81 = .ok (.bipush 11, 2) := by decide +kernel
theorem dX2_meets_83 : decode cX2_meets 83 = .ok (.iload_n 1, 1) := by decide +kernel
theorem dX2_meets_84 : decode cX2_meets 84 = .ok (.imul, 1) := by decide +kernel
theorem dX2_meets_85 : decode cX2_meets 85 = .ok (.bipush 10, 2) := by decide +kernel
theorem dX2_meets_87 : decode cX2_meets 87 = .ok (.iadd, 1) := by decide +kernel
theorem dX2_meets_88 : decode cX2_meets 88 = .ok (.iaload, 1) := by decide +kernel
theorem dX2_meets_89 : decode cX2_meets 89 = .ok (.if_icmp .lt 7, 3) := by decide +kernel
theorem dX2_meets_92 : decode cX2_meets 92 = .ok (.iconst 1, 1) := by decide +kernel
theorem dX2_meets_93 : decode cX2_meets 93 = .ok (.goto 4, 3) := by decide +kernel
theorem dX2_meets_96 : decode cX2_meets 96 = .ok (.iconst 0, 1) := by decide +kernel
theorem dX2_meets_97 : decode cX2_meets 97 = .ok (.ireturn, 1) := by decide +kernel
theorem dX2_worth_0 : decode cX2_worth 0 = .ok (.iconst 0, 1) := by decide +kernel
theorem dX2_worth_1 : decode cX2_worth 1 = .ok (.istore_n 2, 1) := by decide +kernel
theorem dX2_worth_2 : decode cX2_worth 2 = .ok (.iconst 0, 1) := by decide +kernel
theorem dX2_worth_3 : decode cX2_worth 3 = .ok (.istore_n 3, 1) := by decide +kernel
theorem dX2_worth_4 : decode cX2_worth 4 = .ok (.iload_n 3, 1) := by decide +kernel
theorem dX2_worth_5 : decode cX2_worth 5 = .ok (.bipush 10, 2) := by decide +kernel
theorem dX2_worth_7 : decode cX2_worth 7 = .ok (.if_icmp .ge 24, 3) := by decide +kernel
theorem dX2_worth_10 : decode cX2_worth 10 = .ok (.iload_n 2, 1) := by decide +kernel
theorem dX2_worth_11 : decode cX2_worth 11 = .ok (.iload_n 1, 1) := by decide +kernel
theorem dX2_worth_12 : decode cX2_worth 12 = .ok (.iload_n 3, 1) := by decide +kernel
theorem dX2_worth_13 : decode cX2_worth 13 = .ok (.ishr, 1) := by decide +kernel
theorem dX2_worth_14 : decode cX2_worth 14 = .ok (.iconst 1, 1) := by decide +kernel
theorem dX2_worth_15 : decode cX2_worth 15 = .ok (.iand, 1) := by decide +kernel
theorem dX2_worth_16 : decode cX2_worth 16 = .ok (.aload_n 0, 1) := by decide +kernel
theorem dX2_worth_17 : decode cX2_worth 17 = .ok (.getfield 20, 3) := by decide +kernel
theorem dX2_worth_20 : decode cX2_worth 20 = .ok (.iload_n 3, 1) := by decide +kernel
theorem dX2_worth_21 : decode cX2_worth 21 = .ok (.iaload, 1) := by decide +kernel
theorem dX2_worth_22 : decode cX2_worth 22 = .ok (.imul, 1) := by decide +kernel
theorem dX2_worth_23 : decode cX2_worth 23 = .ok (.iadd, 1) := by decide +kernel
theorem dX2_worth_24 : decode cX2_worth 24 = .ok (.istore_n 2, 1) := by decide +kernel
theorem dX2_worth_25 : decode cX2_worth 25 = .ok (.iinc 3 1, 3) := by decide +kernel
theorem dX2_worth_28 : decode cX2_worth 28 = .ok (.goto (-24), 3) := by decide +kernel
theorem dX2_worth_31 : decode cX2_worth 31 = .ok (.iload_n 2, 1) := by decide +kernel
theorem dX2_worth_32 : decode cX2_worth 32 = .ok (.ireturn, 1) := by decide +kernel
theorem dX2_noGoal_0 : decode cX2_noGoal 0 = .ok (.iconst 1, 1) := by decide +kernel
theorem dX2_noGoal_1 : decode cX2_noGoal 1 = .ok (.istore_n 1, 1) := by decide +kernel
theorem dX2_noGoal_2 : decode cX2_noGoal 2 = .ok (.iconst 0, 1) := by decide +kernel
theorem dX2_noGoal_3 : decode cX2_noGoal 3 = .ok (.istore_n 2, 1) := by decide +kernel
theorem dX2_noGoal_4 : decode cX2_noGoal 4 = .ok (.iload_n 2, 1) := by decide +kernel
theorem dX2_noGoal_5 : decode cX2_noGoal 5 = .ok (.bipush 10, 2) := by decide +kernel
theorem dX2_noGoal_7 : decode cX2_noGoal 7 = .ok (.if_icmp .ge 28, 3) := by decide +kernel
theorem dX2_noGoal_10 : decode cX2_noGoal 10 = .ok (.iload_n 1, 1) := by decide +kernel
theorem dX2_noGoal_11 : decode cX2_noGoal 11 = .ok (.ifCond .eq 16, 3) := by decide +kernel
theorem dX2_noGoal_14 : decode cX2_noGoal 14 = .ok (.aload_n 0, 1) := by decide +kernel
theorem dX2_noGoal_15 : decode cX2_noGoal 15 = .ok (.getfield 20, 3) := by decide +kernel
theorem dX2_noGoal_18 : decode cX2_noGoal 18 = .ok (.iload_n 2, 1) := by decide +kernel
theorem dX2_noGoal_19 : decode cX2_noGoal 19 = .ok (.iaload, 1) := by decide +kernel
theorem dX2_noGoal_20 : decode cX2_noGoal 20 = .ok (.ifCond .ne 7, 3) := by decide +kernel
theorem dX2_noGoal_23 : decode cX2_noGoal 23 = .ok (.iconst 1, 1) := by decide +kernel
theorem dX2_noGoal_24 : decode cX2_noGoal 24 = .ok (.goto 4, 3) := by decide +kernel
theorem dX2_noGoal_27 : decode cX2_noGoal 27 = .ok (.iconst 0, 1) := by decide +kernel
theorem dX2_noGoal_28 : decode cX2_noGoal 28 = .ok (.istore_n 1, 1) := by decide +kernel
theorem dX2_noGoal_29 : decode cX2_noGoal 29 = .ok (.iinc 2 1, 3) := by decide +kernel
theorem dX2_noGoal_32 : decode cX2_noGoal 32 = .ok (.goto (-28), 3) := by decide +kernel
theorem dX2_noGoal_35 : decode cX2_noGoal 35 = .ok (.iload_n 1, 1) := by decide +kernel
theorem dX2_noGoal_36 : decode cX2_noGoal 36 = .ok (.ireturn, 1) := by decide +kernel
set_option maxRecDepth 20000 in
theorem ggX2_found_X2_outside : GoodIn wsX2_found wsX2_outside := goodIn_r _ [7] (by decide +kernel) (by decide +kernel)
set_option maxRecDepth 20000 in
theorem gX2_found_X2_outside : GoodIn wsX2_found (va_wsS RX2 34 yX2_outside wsX2_outside) := goodIn_app (goodIn_of _ (by decide +kernel)) ggX2_found_X2_outside
set_option maxRecDepth 20000 in
theorem ggX2_found_X2_fails : GoodIn wsX2_found wsX2_fails := goodIn_r _ [11, 12, 44, 45, 46, 47, 48, 49, 50, 51, 52, 53, 54, 55, 56] (by decide +kernel) (by decide +kernel)
set_option maxRecDepth 20000 in
theorem gX2_found_X2_fails : GoodIn wsX2_found (wsV RX2 38 RX2 yX2_fails wsX2_fails) := goodIn_app (goodIn_of _ (by decide +kernel)) ggX2_found_X2_fails
set_option maxRecDepth 20000 in
theorem ggX2_found_X2_meets : GoodIn wsX2_found wsX2_meets := goodIn_r _ [16, 17, 18, 19, 6, 20, 44, 45, 46, 47, 48, 49, 50, 51, 52, 53, 54, 55, 56] (by decide +kernel) (by decide +kernel)
set_option maxRecDepth 20000 in
theorem gX2_found_X2_meets : GoodIn wsX2_found (wsV RX2 93 RX2 yX2_meets wsX2_meets) := goodIn_app (goodIn_of _ (by decide +kernel)) ggX2_found_X2_meets
set_option maxRecDepth 20000 in
theorem ggX2_found_X2_worth : GoodIn wsX2_found wsX2_worth := goodIn_r _ [24, 25, 44, 45, 46, 47, 48, 49, 50, 51, 52, 53, 54, 55, 56] (by decide +kernel) (by decide +kernel)
set_option maxRecDepth 20000 in
theorem gX2_found_X2_worth : GoodIn wsX2_found (wsV RX2 97 RX2 yX2_worth wsX2_worth) := goodIn_app (goodIn_of _ (by decide +kernel)) ggX2_found_X2_worth
set_option maxRecDepth 20000 in
theorem ggX2_found_X2_noGoal : GoodIn wsX2_found wsX2_noGoal := goodIn_r _ [29, 25, 44, 45, 46, 47, 48, 49, 50, 51, 52, 53, 54, 55, 56] (by decide +kernel) (by decide +kernel)
set_option maxRecDepth 20000 in
theorem gX2_found_X2_noGoal : GoodIn wsX2_found (wsV RX2 103 RX2 yX2_noGoal wsX2_noGoal) := goodIn_app (goodIn_of _ (by decide +kernel)) ggX2_found_X2_noGoal
set_option maxRecDepth 20000 in
theorem ggX2_found_X2_normalize : GoodIn wsX2_found wsX2_normalize := goodIn_r _ [33, 25, 34, 17, 44, 45, 46, 47, 48, 49, 50, 51, 52, 53, 54, 55, 56] (by decide +kernel) (by decide +kernel)
set_option maxRecDepth 20000 in
theorem gX2_found_X2_normalize : GoodIn wsX2_found (wsV RX2 56 RX2 yX2_normalize wsX2_normalize) := goodIn_app (goodIn_of _ (by decide +kernel)) ggX2_found_X2_normalize
set_option maxRecDepth 20000 in
theorem ggX2_found_X2_keep : GoodIn wsX2_found wsX2_keep := goodIn_r _ [38, 1, 39, 40, 41, 42, 6, 43, 17, 44, 45, 46, 47, 48, 49, 50, 51, 52, 53, 54, 55, 56] (by decide +kernel) (by decide +kernel)
set_option maxRecDepth 20000 in
theorem gX2_found_X2_keep : GoodIn wsX2_found (wsV RX2 60 RX2 yX2_keep wsX2_keep) := goodIn_app (goodIn_of _ (by decide +kernel)) ggX2_found_X2_keep
theorem dX2_found_0 : decode cX2_found 0 = .ok (.aload_n 0, 1) := by decide +kernel
theorem dX2_found_1 : decode cX2_found 1 = .ok (.iload_n 1, 1) := by decide +kernel
theorem dX2_found_2 : decode cX2_found 2 = .ok (.iconst 0, 1) := by decide +kernel
theorem dX2_found_3 : decode cX2_found 3 = .ok (.sipush 1023, 3) := by decide +kernel
theorem dX2_found_6 : decode cX2_found 6 = .ok (.invokestatic 34, 3) := by decide +kernel
theorem dX2_found_9 : decode cX2_found 9 = .ok (.aload_n 0, 1) := by decide +kernel
theorem dX2_found_10 : decode cX2_found 10 = .ok (.getfield 45, 3) := by decide +kernel
theorem dX2_found_13 : decode cX2_found 13 = .ok (.bipush 30, 2) := by decide +kernel
theorem dX2_found_15 : decode cX2_found 15 = .ok (.if_icmp .ne 7, 3) := by decide +kernel
theorem dX2_found_18 : decode cX2_found 18 = .ok (.iconst 1, 1) := by decide +kernel
theorem dX2_found_19 : decode cX2_found 19 = .ok (.goto 4, 3) := by decide +kernel
theorem dX2_found_22 : decode cX2_found 22 = .ok (.iconst 0, 1) := by decide +kernel
theorem dX2_found_23 : decode cX2_found 23 = .ok (.iconst 0, 1) := by decide +kernel
theorem dX2_found_24 : decode cX2_found 24 = .ok (.invokevirtual 38, 3) := by decide +kernel
theorem dX2_found_27 : decode cX2_found 27 = .ok (.ifCond .eq 5, 3) := by decide +kernel
theorem dX2_found_30 : decode cX2_found 30 = .ok (.iconst 0, 1) := by decide +kernel
theorem dX2_found_31 : decode cX2_found 31 = .ok (.ireturn, 1) := by decide +kernel
theorem dX2_found_32 : decode cX2_found 32 = .ok (.iconst 0, 1) := by decide +kernel
theorem dX2_found_33 : decode cX2_found 33 = .ok (.istore_n 2, 1) := by decide +kernel
theorem dX2_found_34 : decode cX2_found 34 = .ok (.iload_n 2, 1) := by decide +kernel
theorem dX2_found_35 : decode cX2_found 35 = .ok (.aload_n 0, 1) := by decide +kernel
theorem dX2_found_36 : decode cX2_found 36 = .ok (.getfield 45, 3) := by decide +kernel
theorem dX2_found_39 : decode cX2_found 39 = .ok (.if_icmp .ge 20, 3) := by decide +kernel
theorem dX2_found_42 : decode cX2_found 42 = .ok (.aload_n 0, 1) := by decide +kernel
theorem dX2_found_43 : decode cX2_found 43 = .ok (.iload_n 2, 1) := by decide +kernel
theorem dX2_found_44 : decode cX2_found 44 = .ok (.iload_n 1, 1) := by decide +kernel
theorem dX2_found_45 : decode cX2_found 45 = .ok (.invokevirtual 93, 3) := by decide +kernel
theorem dX2_found_48 : decode cX2_found 48 = .ok (.ifCond .ne 5, 3) := by decide +kernel
theorem dX2_found_51 : decode cX2_found 51 = .ok (.iconst 0, 1) := by decide +kernel
theorem dX2_found_52 : decode cX2_found 52 = .ok (.ireturn, 1) := by decide +kernel
theorem dX2_found_53 : decode cX2_found 53 = .ok (.iinc 2 1, 3) := by decide +kernel
theorem dX2_found_56 : decode cX2_found 56 = .ok (.goto (-22), 3) := by decide +kernel
theorem dX2_found_59 : decode cX2_found 59 = .ok (.aload_n 0, 1) := by decide +kernel
theorem dX2_found_60 : decode cX2_found 60 = .ok (.iconst 1, 1) := by decide +kernel
theorem dX2_found_61 : decode cX2_found 61 = .ok (.putfield 52, 3) := by decide +kernel
theorem dX2_found_64 : decode cX2_found 64 = .ok (.aload_n 0, 1) := by decide +kernel
theorem dX2_found_65 : decode cX2_found 65 = .ok (.aload_n 0, 1) := by decide +kernel
theorem dX2_found_66 : decode cX2_found 66 = .ok (.iload_n 1, 1) := by decide +kernel
theorem dX2_found_67 : decode cX2_found 67 = .ok (.invokevirtual 97, 3) := by decide +kernel
theorem dX2_found_70 : decode cX2_found 70 = .ok (.putfield 100, 3) := by decide +kernel
theorem dX2_found_73 : decode cX2_found 73 = .ok (.aload_n 0, 1) := by decide +kernel
theorem dX2_found_74 : decode cX2_found 74 = .ok (.invokevirtual 103, 3) := by decide +kernel
theorem dX2_found_77 : decode cX2_found 77 = .ok (.ifCond .eq 5, 3) := by decide +kernel
theorem dX2_found_80 : decode cX2_found 80 = .ok (.iconst 1, 1) := by decide +kernel
theorem dX2_found_81 : decode cX2_found 81 = .ok (.ireturn, 1) := by decide +kernel
theorem dX2_found_82 : decode cX2_found 82 = .ok (.aload_n 0, 1) := by decide +kernel
theorem dX2_found_83 : decode cX2_found 83 = .ok (.iconst 1, 1) := by decide +kernel
theorem dX2_found_84 : decode cX2_found 84 = .ok (.iconst (-1), 1) := by decide +kernel
theorem dX2_found_85 : decode cX2_found 85 = .ok (.iconst 1, 1) := by decide +kernel
theorem dX2_found_86 : decode cX2_found 86 = .ok (.aload_n 0, 1) := by decide +kernel
theorem dX2_found_87 : decode cX2_found 87 = .ok (.getfield 100, 3) := by decide +kernel
theorem dX2_found_90 : decode cX2_found 90 = .ok (.isub, 1) := by decide +kernel
theorem dX2_found_91 : decode cX2_found 91 = .ok (.invokevirtual 56, 3) := by decide +kernel
theorem dX2_found_94 : decode cX2_found 94 = .ok (.aload_n 0, 1) := by decide +kernel
theorem dX2_found_95 : decode cX2_found 95 = .ok (.bipush 36, 2) := by decide +kernel
theorem dX2_found_97 : decode cX2_found 97 = .ok (.iconst 0, 1) := by decide +kernel
theorem dX2_found_98 : decode cX2_found 98 = .ok (.invokevirtual 60, 3) := by decide +kernel
theorem dX2_found_101 : decode cX2_found 101 = .ok (.pop, 1) := by decide +kernel
theorem dX2_found_102 : decode cX2_found 102 = .ok (.iconst 1, 1) := by decide +kernel
theorem dX2_found_103 : decode cX2_found 103 = .ok (.ireturn, 1) := by decide +kernel
set_option maxRecDepth 20000 in
theorem ggX2_verdict_X2_sizes : GoodIn wsX2_verdict wsX2_sizes := goodIn_r _ [9, 3, 10, 11, 8, 12, 18, 19, 20, 21, 22, 23, 24, 25, 26, 27, 28, 29, 30] (by decide +kernel) (by decide +kernel)
set_option maxRecDepth 20000 in
theorem gX2_verdict_X2_sizes : GoodIn wsX2_verdict (wsV RX2 90 RX2 yX2_sizes wsX2_sizes) := goodIn_app (goodIn_of _ (by decide +kernel)) ggX2_verdict_X2_sizes
set_option maxRecDepth 20000 in
theorem ggX2_verdict_X2_noGoal : GoodIn wsX2_verdict wsX2_noGoal := goodIn_r _ [16, 17, 18, 19, 20, 21, 22, 23, 24, 25, 26, 27, 28, 29, 30] (by decide +kernel) (by decide +kernel)
set_option maxRecDepth 20000 in
theorem gX2_verdict_X2_noGoal : GoodIn wsX2_verdict (wsV RX2 103 RX2 yX2_noGoal wsX2_noGoal) := goodIn_app (goodIn_of _ (by decide +kernel)) ggX2_verdict_X2_noGoal
theorem dX2_verdict_0 : decode cX2_verdict 0 = .ok (.aload_n 0, 1) := by decide +kernel
theorem dX2_verdict_1 : decode cX2_verdict 1 = .ok (.iconst 0, 1) := by decide +kernel
theorem dX2_verdict_2 : decode cX2_verdict 2 = .ok (.putfield 26, 3) := by decide +kernel
theorem dX2_verdict_5 : decode cX2_verdict 5 = .ok (.iconst 0, 1) := by decide +kernel
theorem dX2_verdict_6 : decode cX2_verdict 6 = .ok (.istore_n 1, 1) := by decide +kernel
theorem dX2_verdict_7 : decode cX2_verdict 7 = .ok (.iload_n 1, 1) := by decide +kernel
theorem dX2_verdict_8 : decode cX2_verdict 8 = .ok (.aload_n 0, 1) := by decide +kernel
theorem dX2_verdict_9 : decode cX2_verdict 9 = .ok (.getfield 45, 3) := by decide +kernel
theorem dX2_verdict_12 : decode cX2_verdict 12 = .ok (.if_icmp .ge 42, 3) := by decide +kernel
theorem dX2_verdict_15 : decode cX2_verdict 15 = .ok (.aload_n 0, 1) := by decide +kernel
theorem dX2_verdict_16 : decode cX2_verdict 16 = .ok (.iload_n 1, 1) := by decide +kernel
theorem dX2_verdict_17 : decode cX2_verdict 17 = .ok (.invokevirtual 90, 3) := by decide +kernel
theorem dX2_verdict_20 : decode cX2_verdict 20 = .ok (.aload_n 0, 1) := by decide +kernel
theorem dX2_verdict_21 : decode cX2_verdict 21 = .ok (.getfield 7, 3) := by decide +kernel
theorem dX2_verdict_24 : decode cX2_verdict 24 = .ok (.bipush 11, 2) := by decide +kernel
theorem dX2_verdict_26 : decode cX2_verdict 26 = .ok (.iload_n 1, 1) := by decide +kernel
theorem dX2_verdict_27 : decode cX2_verdict 27 = .ok (.imul, 1) := by decide +kernel
theorem dX2_verdict_28 : decode cX2_verdict 28 = .ok (.bipush 10, 2) := by decide +kernel
theorem dX2_verdict_30 : decode cX2_verdict 30 = .ok (.iadd, 1) := by decide +kernel
theorem dX2_verdict_31 : decode cX2_verdict 31 = .ok (.iaload, 1) := by decide +kernel
theorem dX2_verdict_32 : decode cX2_verdict 32 = .ok (.if_icmp .ge 16, 3) := by decide +kernel
theorem dX2_verdict_35 : decode cX2_verdict 35 = .ok (.aload_n 0, 1) := by decide +kernel
theorem dX2_verdict_36 : decode cX2_verdict 36 = .ok (.getfield 52, 3) := by decide +kernel
theorem dX2_verdict_39 : decode cX2_verdict 39 = .ok (.ifCond .eq 7, 3) := by decide +kernel
theorem dX2_verdict_42 : decode cX2_verdict 42 = .ok (.iconst 2, 1) := by decide +kernel
theorem dX2_verdict_43 : decode cX2_verdict 43 = .ok (.goto 4, 3) := by decide +kernel
theorem dX2_verdict_46 : decode cX2_verdict 46 = .ok (.iconst 1, 1) := by decide +kernel
theorem dX2_verdict_47 : decode cX2_verdict 47 = .ok (.ireturn, 1) := by decide +kernel
theorem dX2_verdict_48 : decode cX2_verdict 48 = .ok (.iinc 1 1, 3) := by decide +kernel
theorem dX2_verdict_51 : decode cX2_verdict 51 = .ok (.goto (-44), 3) := by decide +kernel
theorem dX2_verdict_54 : decode cX2_verdict 54 = .ok (.aload_n 0, 1) := by decide +kernel
theorem dX2_verdict_55 : decode cX2_verdict 55 = .ok (.getfield 52, 3) := by decide +kernel
theorem dX2_verdict_58 : decode cX2_verdict 58 = .ok (.ifCond .eq 14, 3) := by decide +kernel
theorem dX2_verdict_61 : decode cX2_verdict 61 = .ok (.aload_n 0, 1) := by decide +kernel
theorem dX2_verdict_62 : decode cX2_verdict 62 = .ok (.invokevirtual 103, 3) := by decide +kernel
theorem dX2_verdict_65 : decode cX2_verdict 65 = .ok (.ifCond .eq 7, 3) := by decide +kernel
theorem dX2_verdict_68 : decode cX2_verdict 68 = .ok (.iconst 3, 1) := by decide +kernel
theorem dX2_verdict_69 : decode cX2_verdict 69 = .ok (.goto 4, 3) := by decide +kernel
theorem dX2_verdict_72 : decode cX2_verdict 72 = .ok (.iconst 0, 1) := by decide +kernel
theorem dX2_verdict_73 : decode cX2_verdict 73 = .ok (.ireturn, 1) := by decide +kernel
set_option maxRecDepth 20000 in
theorem ggX2_best_X2_fails : GoodIn wsX2_best wsX2_fails := goodIn_r _ [7, 8, 9, 10, 11, 12, 13, 14, 15, 16, 17, 18, 19, 20, 21] (by decide +kernel) (by decide +kernel)
set_option maxRecDepth 20000 in
theorem gX2_best_X2_fails : GoodIn wsX2_best (wsV RX2 38 RX2 yX2_fails wsX2_fails) := goodIn_app (goodIn_of _ (by decide +kernel)) ggX2_best_X2_fails
theorem dX2_best_0 : decode cX2_best 0 = .ok (.aload_n 0, 1) := by decide +kernel
theorem dX2_best_1 : decode cX2_best 1 = .ok (.aload_n 0, 1) := by decide +kernel
theorem dX2_best_2 : decode cX2_best 2 = .ok (.getfield 52, 3) := by decide +kernel
theorem dX2_best_5 : decode cX2_best 5 = .ok (.ifCond .ne 7, 3) := by decide +kernel
theorem dX2_best_8 : decode cX2_best 8 = .ok (.iconst 1, 1) := by decide +kernel
theorem dX2_best_9 : decode cX2_best 9 = .ok (.goto 4, 3) := by decide +kernel
theorem dX2_best_12 : decode cX2_best 12 = .ok (.iconst 0, 1) := by decide +kernel
theorem dX2_best_13 : decode cX2_best 13 = .ok (.iconst 0, 1) := by decide +kernel
theorem dX2_best_14 : decode cX2_best 14 = .ok (.iconst 0, 1) := by decide +kernel
theorem dX2_best_15 : decode cX2_best 15 = .ok (.invokevirtual 38, 3) := by decide +kernel
theorem dX2_best_18 : decode cX2_best 18 = .ok (.ifCond .eq 7, 3) := by decide +kernel
theorem dX2_best_21 : decode cX2_best 21 = .ok (.iconst 0, 1) := by decide +kernel
theorem dX2_best_22 : decode cX2_best 22 = .ok (.goto 7, 3) := by decide +kernel
theorem dX2_best_25 : decode cX2_best 25 = .ok (.aload_n 0, 1) := by decide +kernel
theorem dX2_best_26 : decode cX2_best 26 = .ok (.getfield 100, 3) := by decide +kernel
theorem dX2_best_29 : decode cX2_best 29 = .ok (.ireturn, 1) := by decide +kernel
theorem dX2_turned_0 : decode cX2_turned 0 = .ok (.iconst 0, 1) := by decide +kernel
theorem dX2_turned_1 : decode cX2_turned 1 = .ok (.istore_n 1, 1) := by decide +kernel
theorem dX2_turned_2 : decode cX2_turned 2 = .ok (.iconst 0, 1) := by decide +kernel
theorem dX2_turned_3 : decode cX2_turned 3 = .ok (.istore_n 2, 1) := by decide +kernel
theorem dX2_turned_4 : decode cX2_turned 4 = .ok (.iload_n 2, 1) := by decide +kernel
theorem dX2_turned_5 : decode cX2_turned 5 = .ok (.bipush 10, 2) := by decide +kernel
theorem dX2_turned_7 : decode cX2_turned 7 = .ok (.if_icmp .ge 22, 3) := by decide +kernel
theorem dX2_turned_10 : decode cX2_turned 10 = .ok (.iload_n 1, 1) := by decide +kernel
theorem dX2_turned_11 : decode cX2_turned 11 = .ok (.iload_n 0, 1) := by decide +kernel
theorem dX2_turned_12 : decode cX2_turned 12 = .ok (.bipush 9, 2) := by decide +kernel
theorem dX2_turned_14 : decode cX2_turned 14 = .ok (.iload_n 2, 1) := by decide +kernel
theorem dX2_turned_15 : decode cX2_turned 15 = .ok (.isub, 1) := by decide +kernel
theorem dX2_turned_16 : decode cX2_turned 16 = .ok (.ishr, 1) := by decide +kernel
theorem dX2_turned_17 : decode cX2_turned 17 = .ok (.iconst 1, 1) := by decide +kernel
theorem dX2_turned_18 : decode cX2_turned 18 = .ok (.iand, 1) := by decide +kernel
theorem dX2_turned_19 : decode cX2_turned 19 = .ok (.iload_n 2, 1) := by decide +kernel
theorem dX2_turned_20 : decode cX2_turned 20 = .ok (.ishl, 1) := by decide +kernel
theorem dX2_turned_21 : decode cX2_turned 21 = .ok (.ior, 1) := by decide +kernel
theorem dX2_turned_22 : decode cX2_turned 22 = .ok (.istore_n 1, 1) := by decide +kernel
theorem dX2_turned_23 : decode cX2_turned 23 = .ok (.iinc 2 1, 3) := by decide +kernel
theorem dX2_turned_26 : decode cX2_turned 26 = .ok (.goto (-22), 3) := by decide +kernel
theorem dX2_turned_29 : decode cX2_turned 29 = .ok (.iload_n 1, 1) := by decide +kernel
theorem dX2_turned_30 : decode cX2_turned 30 = .ok (.ireturn, 1) := by decide +kernel
set_option maxRecDepth 20000 in
theorem ggX2_solve_X2_turned : GoodIn wsX2_solve wsX2_turned := goodIn_r _ [10] (by decide +kernel) (by decide +kernel)
set_option maxRecDepth 20000 in
theorem gX2_solve_X2_turned : GoodIn wsX2_solve (va_wsS RX2 110 yX2_turned wsX2_turned) := goodIn_app (goodIn_of _ (by decide +kernel)) ggX2_solve_X2_turned
set_option maxRecDepth 20000 in
theorem ggX2_solve_X2_worth : GoodIn wsX2_solve wsX2_worth := goodIn_r _ [14, 15, 24, 25, 26, 27, 28, 29, 30, 31, 32, 33, 34, 35, 36] (by decide +kernel) (by decide +kernel)
set_option maxRecDepth 20000 in
theorem gX2_solve_X2_worth : GoodIn wsX2_solve (wsV RX2 97 RX2 yX2_worth wsX2_worth) := goodIn_app (goodIn_of _ (by decide +kernel)) ggX2_solve_X2_worth
set_option maxRecDepth 20000 in
theorem ggX2_solve_X2_meets : GoodIn wsX2_solve wsX2_meets := goodIn_r _ [19, 20, 21, 22, 9, 23, 24, 25, 26, 27, 28, 29, 30, 31, 32, 33, 34, 35, 36] (by decide +kernel) (by decide +kernel)
set_option maxRecDepth 20000 in
theorem gX2_solve_X2_meets : GoodIn wsX2_solve (wsV RX2 93 RX2 yX2_meets wsX2_meets) := goodIn_app (goodIn_of _ (by decide +kernel)) ggX2_solve_X2_meets
theorem dX2_solve_0 : decode cX2_solve 0 = .ok (.aload_n 0, 1) := by decide +kernel
theorem dX2_solve_1 : decode cX2_solve 1 = .ok (.iconst 0, 1) := by decide +kernel
theorem dX2_solve_2 : decode cX2_solve 2 = .ok (.putfield 26, 3) := by decide +kernel
theorem dX2_solve_5 : decode cX2_solve 5 = .ok (.aload_n 0, 1) := by decide +kernel
theorem dX2_solve_6 : decode cX2_solve 6 = .ok (.iconst 0, 1) := by decide +kernel
theorem dX2_solve_7 : decode cX2_solve 7 = .ok (.putfield 107, 3) := by decide +kernel
theorem dX2_solve_10 : decode cX2_solve 10 = .ok (.iconst 0, 1) := by decide +kernel
theorem dX2_solve_11 : decode cX2_solve 11 = .ok (.istore_n 1, 1) := by decide +kernel
theorem dX2_solve_12 : decode cX2_solve 12 = .ok (.iload_n 1, 1) := by decide +kernel
theorem dX2_solve_13 : decode cX2_solve 13 = .ok (.sipush 1024, 3) := by decide +kernel
theorem dX2_solve_16 : decode cX2_solve 16 = .ok (.if_icmp .ge 112, 3) := by decide +kernel
theorem dX2_solve_19 : decode cX2_solve 19 = .ok (.iload_n 1, 1) := by decide +kernel
theorem dX2_solve_20 : decode cX2_solve 20 = .ok (.invokestatic 110, 3) := by decide +kernel
theorem dX2_solve_23 : decode cX2_solve 23 = .ok (.istore_n 2, 1) := by decide +kernel
theorem dX2_solve_24 : decode cX2_solve 24 = .ok (.aload_n 0, 1) := by decide +kernel
theorem dX2_solve_25 : decode cX2_solve 25 = .ok (.iload_n 2, 1) := by decide +kernel
theorem dX2_solve_26 : decode cX2_solve 26 = .ok (.invokevirtual 97, 3) := by decide +kernel
theorem dX2_solve_29 : decode cX2_solve 29 = .ok (.istore_n 3, 1) := by decide +kernel
theorem dX2_solve_30 : decode cX2_solve 30 = .ok (.aload_n 0, 1) := by decide +kernel
theorem dX2_solve_31 : decode cX2_solve 31 = .ok (.getfield 107, 3) := by decide +kernel
theorem dX2_solve_34 : decode cX2_solve 34 = .ok (.ifCond .eq 11, 3) := by decide +kernel
theorem dX2_solve_37 : decode cX2_solve 37 = .ok (.iload_n 3, 1) := by decide +kernel
theorem dX2_solve_38 : decode cX2_solve 38 = .ok (.aload_n 0, 1) := by decide +kernel
theorem dX2_solve_39 : decode cX2_solve 39 = .ok (.getfield 113, 3) := by decide +kernel
theorem dX2_solve_42 : decode cX2_solve 42 = .ok (.if_icmp .ge 7, 3) := by decide +kernel
theorem dX2_solve_45 : decode cX2_solve 45 = .ok (.iconst 1, 1) := by decide +kernel
theorem dX2_solve_46 : decode cX2_solve 46 = .ok (.goto 4, 3) := by decide +kernel
theorem dX2_solve_49 : decode cX2_solve 49 = .ok (.iconst 0, 1) := by decide +kernel
theorem dX2_solve_50 : decode cX2_solve 50 = .ok (.istore 4, 2) := by decide +kernel
theorem dX2_solve_52 : decode cX2_solve 52 = .ok (.iconst 0, 1) := by decide +kernel
theorem dX2_solve_53 : decode cX2_solve 53 = .ok (.istore 5, 2) := by decide +kernel
theorem dX2_solve_55 : decode cX2_solve 55 = .ok (.iload 5, 2) := by decide +kernel
theorem dX2_solve_57 : decode cX2_solve 57 = .ok (.aload_n 0, 1) := by decide +kernel
theorem dX2_solve_58 : decode cX2_solve 58 = .ok (.getfield 45, 3) := by decide +kernel
theorem dX2_solve_61 : decode cX2_solve 61 = .ok (.if_icmp .ge 41, 3) := by decide +kernel
theorem dX2_solve_64 : decode cX2_solve 64 = .ok (.iload 4, 2) := by decide +kernel
theorem dX2_solve_66 : decode cX2_solve 66 = .ok (.ifCond .eq 36, 3) := by decide +kernel
theorem dX2_solve_69 : decode cX2_solve 69 = .ok (.aload_n 0, 1) := by decide +kernel
theorem dX2_solve_70 : decode cX2_solve 70 = .ok (.getfield 13, 3) := by decide +kernel
theorem dX2_solve_73 : decode cX2_solve 73 = .ok (.iload 5, 2) := by decide +kernel
theorem dX2_solve_75 : decode cX2_solve 75 = .ok (.baload, 1) := by decide +kernel
theorem dX2_solve_76 : decode cX2_solve 76 = .ok (.ifCond .eq 13, 3) := by decide +kernel
theorem dX2_solve_79 : decode cX2_solve 79 = .ok (.aload_n 0, 1) := by decide +kernel
theorem dX2_solve_80 : decode cX2_solve 80 = .ok (.iload 5, 2) := by decide +kernel
theorem dX2_solve_82 : decode cX2_solve 82 = .ok (.iload_n 2, 1) := by decide +kernel
theorem dX2_solve_83 : decode cX2_solve 83 = .ok (.invokevirtual 93, 3) := by decide +kernel
theorem dX2_solve_86 : decode cX2_solve 86 = .ok (.ifCond .eq 7, 3) := by decide +kernel
theorem dX2_solve_89 : decode cX2_solve 89 = .ok (.iconst 1, 1) := by decide +kernel
theorem dX2_solve_90 : decode cX2_solve 90 = .ok (.goto 4, 3) := by decide +kernel
theorem dX2_solve_93 : decode cX2_solve 93 = .ok (.iconst 0, 1) := by decide +kernel
theorem dX2_solve_94 : decode cX2_solve 94 = .ok (.istore 4, 2) := by decide +kernel
theorem dX2_solve_96 : decode cX2_solve 96 = .ok (.iinc 5 1, 3) := by decide +kernel
theorem dX2_solve_99 : decode cX2_solve 99 = .ok (.goto (-44), 3) := by decide +kernel
theorem dX2_solve_102 : decode cX2_solve 102 = .ok (.iload 4, 2) := by decide +kernel
theorem dX2_solve_104 : decode cX2_solve 104 = .ok (.ifCond .eq 18, 3) := by decide +kernel
theorem dX2_solve_107 : decode cX2_solve 107 = .ok (.aload_n 0, 1) := by decide +kernel
theorem dX2_solve_108 : decode cX2_solve 108 = .ok (.iconst 1, 1) := by decide +kernel
theorem dX2_solve_109 : decode cX2_solve 109 = .ok (.putfield 107, 3) := by decide +kernel
theorem dX2_solve_112 : decode cX2_solve 112 = .ok (.aload_n 0, 1) := by decide +kernel
theorem dX2_solve_113 : decode cX2_solve 113 = .ok (.iload_n 3, 1) := by decide +kernel
theorem dX2_solve_114 : decode cX2_solve 114 = .ok (.putfield 113, 3) := by decide +kernel
theorem dX2_solve_117 : decode cX2_solve 117 = .ok (.aload_n 0, 1) := by decide +kernel
theorem dX2_solve_118 : decode cX2_solve 118 = .ok (.iload_n 2, 1) := by decide +kernel
theorem dX2_solve_119 : decode cX2_solve 119 = .ok (.putfield 116, 3) := by decide +kernel
theorem dX2_solve_122 : decode cX2_solve 122 = .ok (.iinc 1 1, 3) := by decide +kernel
theorem dX2_solve_125 : decode cX2_solve 125 = .ok (.goto (-113), 3) := by decide +kernel
theorem dX2_solve_128 : decode cX2_solve 128 = .ok (.aload_n 0, 1) := by decide +kernel
theorem dX2_solve_129 : decode cX2_solve 129 = .ok (.getfield 107, 3) := by decide +kernel
theorem dX2_solve_132 : decode cX2_solve 132 = .ok (.ifCond .eq 7, 3) := by decide +kernel
theorem dX2_solve_135 : decode cX2_solve 135 = .ok (.iconst 1, 1) := by decide +kernel
theorem dX2_solve_136 : decode cX2_solve 136 = .ok (.goto 4, 3) := by decide +kernel
theorem dX2_solve_139 : decode cX2_solve 139 = .ok (.iconst 0, 1) := by decide +kernel
theorem dX2_solve_140 : decode cX2_solve 140 = .ok (.ireturn, 1) := by decide +kernel
set_option maxRecDepth 20000 in
theorem ggX2_least_X2_fails : GoodIn wsX2_least wsX2_fails := goodIn_r _ [7, 8, 9, 10, 11, 12, 13, 14, 15, 16, 17, 18, 19, 20, 21] (by decide +kernel) (by decide +kernel)
set_option maxRecDepth 20000 in
theorem gX2_least_X2_fails : GoodIn wsX2_least (wsV RX2 38 RX2 yX2_fails wsX2_fails) := goodIn_app (goodIn_of _ (by decide +kernel)) ggX2_least_X2_fails
theorem dX2_least_0 : decode cX2_least 0 = .ok (.aload_n 0, 1) := by decide +kernel
theorem dX2_least_1 : decode cX2_least 1 = .ok (.aload_n 0, 1) := by decide +kernel
theorem dX2_least_2 : decode cX2_least 2 = .ok (.getfield 107, 3) := by decide +kernel
theorem dX2_least_5 : decode cX2_least 5 = .ok (.ifCond .ne 7, 3) := by decide +kernel
theorem dX2_least_8 : decode cX2_least 8 = .ok (.iconst 1, 1) := by decide +kernel
theorem dX2_least_9 : decode cX2_least 9 = .ok (.goto 4, 3) := by decide +kernel
theorem dX2_least_12 : decode cX2_least 12 = .ok (.iconst 0, 1) := by decide +kernel
theorem dX2_least_13 : decode cX2_least 13 = .ok (.iconst 0, 1) := by decide +kernel
theorem dX2_least_14 : decode cX2_least 14 = .ok (.iconst 0, 1) := by decide +kernel
theorem dX2_least_15 : decode cX2_least 15 = .ok (.invokevirtual 38, 3) := by decide +kernel
theorem dX2_least_18 : decode cX2_least 18 = .ok (.ifCond .eq 7, 3) := by decide +kernel
theorem dX2_least_21 : decode cX2_least 21 = .ok (.iconst 0, 1) := by decide +kernel
theorem dX2_least_22 : decode cX2_least 22 = .ok (.goto 7, 3) := by decide +kernel
theorem dX2_least_25 : decode cX2_least 25 = .ok (.aload_n 0, 1) := by decide +kernel
theorem dX2_least_26 : decode cX2_least 26 = .ok (.getfield 113, 3) := by decide +kernel
theorem dX2_least_29 : decode cX2_least 29 = .ok (.ireturn, 1) := by decide +kernel
set_option maxRecDepth 20000 in
theorem ggX2_value_X2_outside : GoodIn wsX2_value wsX2_outside := goodIn_r _ [6] (by decide +kernel) (by decide +kernel)
set_option maxRecDepth 20000 in
theorem gX2_value_X2_outside : GoodIn wsX2_value (va_wsS RX2 34 yX2_outside wsX2_outside) := goodIn_app (goodIn_of _ (by decide +kernel)) ggX2_value_X2_outside
set_option maxRecDepth 20000 in
theorem ggX2_value_X2_fails : GoodIn wsX2_value wsX2_fails := goodIn_r _ [10, 11, 12, 13, 14, 15, 16, 17, 18, 19, 20, 21, 22, 23, 24] (by decide +kernel) (by decide +kernel)
set_option maxRecDepth 20000 in
theorem gX2_value_X2_fails : GoodIn wsX2_value (wsV RX2 38 RX2 yX2_fails wsX2_fails) := goodIn_app (goodIn_of _ (by decide +kernel)) ggX2_value_X2_fails
theorem dX2_value_0 : decode cX2_value 0 = .ok (.aload_n 0, 1) := by decide +kernel
theorem dX2_value_1 : decode cX2_value 1 = .ok (.aload_n 0, 1) := by decide +kernel
theorem dX2_value_2 : decode cX2_value 2 = .ok (.getfield 107, 3) := by decide +kernel
theorem dX2_value_5 : decode cX2_value 5 = .ok (.ifCond .ne 7, 3) := by decide +kernel
theorem dX2_value_8 : decode cX2_value 8 = .ok (.iconst 1, 1) := by decide +kernel
theorem dX2_value_9 : decode cX2_value 9 = .ok (.goto 4, 3) := by decide +kernel
theorem dX2_value_12 : decode cX2_value 12 = .ok (.iconst 0, 1) := by decide +kernel
theorem dX2_value_13 : decode cX2_value 13 = .ok (.iload_n 1, 1) := by decide +kernel
theorem dX2_value_14 : decode cX2_value 14 = .ok (.iconst 0, 1) := by decide +kernel
theorem dX2_value_15 : decode cX2_value 15 = .ok (.bipush 9, 2) := by decide +kernel
theorem dX2_value_17 : decode cX2_value 17 = .ok (.invokestatic 34, 3) := by decide +kernel
theorem dX2_value_20 : decode cX2_value 20 = .ok (.iconst 0, 1) := by decide +kernel
theorem dX2_value_21 : decode cX2_value 21 = .ok (.invokevirtual 38, 3) := by decide +kernel
theorem dX2_value_24 : decode cX2_value 24 = .ok (.ifCond .eq 7, 3) := by decide +kernel
theorem dX2_value_27 : decode cX2_value 27 = .ok (.iconst 0, 1) := by decide +kernel
theorem dX2_value_28 : decode cX2_value 28 = .ok (.goto 11, 3) := by decide +kernel
theorem dX2_value_31 : decode cX2_value 31 = .ok (.aload_n 0, 1) := by decide +kernel
theorem dX2_value_32 : decode cX2_value 32 = .ok (.getfield 116, 3) := by decide +kernel
theorem dX2_value_35 : decode cX2_value 35 = .ok (.iload_n 1, 1) := by decide +kernel
theorem dX2_value_36 : decode cX2_value 36 = .ok (.ishr, 1) := by decide +kernel
theorem dX2_value_37 : decode cX2_value 37 = .ok (.iconst 1, 1) := by decide +kernel
theorem dX2_value_38 : decode cX2_value 38 = .ok (.iand, 1) := by decide +kernel
theorem dX2_value_39 : decode cX2_value 39 = .ok (.ireturn, 1) := by decide +kernel
theorem dJ9_abs_0f7a4_0 : decode cJ9_abs_0f7a4 0 = .ok (.iload_n 0, 1) := by decide +kernel
theorem dJ9_abs_0f7a4_1 : decode cJ9_abs_0f7a4 1 = .ok (.ifCond .ge 8, 3) := by decide +kernel
theorem dJ9_abs_0f7a4_4 : decode cJ9_abs_0f7a4 4 = .ok (.iload_n 0, 1) := by decide +kernel
theorem dJ9_abs_0f7a4_5 : decode cJ9_abs_0f7a4 5 = .ok (.ineg, 1) := by decide +kernel
theorem dJ9_abs_0f7a4_6 : decode cJ9_abs_0f7a4 6 = .ok (.goto 4, 3) := by decide +kernel
theorem dJ9_abs_0f7a4_9 : decode cJ9_abs_0f7a4 9 = .ok (.iload_n 0, 1) := by decide +kernel
theorem dJ9_abs_0f7a4_10 : decode cJ9_abs_0f7a4 10 = .ok (.ireturn, 1) := by decide +kernel
theorem dJ9_max_7cf53_0 : decode cJ9_max_7cf53 0 = .ok (.iload_n 0, 1) := by decide +kernel
theorem dJ9_max_7cf53_1 : decode cJ9_max_7cf53 1 = .ok (.iload_n 1, 1) := by decide +kernel
theorem dJ9_max_7cf53_2 : decode cJ9_max_7cf53 2 = .ok (.if_icmp .lt 7, 3) := by decide +kernel
theorem dJ9_max_7cf53_5 : decode cJ9_max_7cf53 5 = .ok (.iload_n 0, 1) := by decide +kernel
theorem dJ9_max_7cf53_6 : decode cJ9_max_7cf53 6 = .ok (.goto 4, 3) := by decide +kernel
theorem dJ9_max_7cf53_9 : decode cJ9_max_7cf53 9 = .ok (.iload_n 1, 1) := by decide +kernel
theorem dJ9_max_7cf53_10 : decode cJ9_max_7cf53 10 = .ok (.ireturn, 1) := by decide +kernel
theorem dJ9_min_7cf53_0 : decode cJ9_min_7cf53 0 = .ok (.iload_n 0, 1) := by decide +kernel
theorem dJ9_min_7cf53_1 : decode cJ9_min_7cf53 1 = .ok (.iload_n 1, 1) := by decide +kernel
theorem dJ9_min_7cf53_2 : decode cJ9_min_7cf53 2 = .ok (.if_icmp .gt 7, 3) := by decide +kernel
theorem dJ9_min_7cf53_5 : decode cJ9_min_7cf53 5 = .ok (.iload_n 0, 1) := by decide +kernel
theorem dJ9_min_7cf53_6 : decode cJ9_min_7cf53 6 = .ok (.goto 4, 3) := by decide +kernel
theorem dJ9_min_7cf53_9 : decode cJ9_min_7cf53 9 = .ok (.iload_n 1, 1) := by decide +kernel
theorem dJ9_min_7cf53_10 : decode cJ9_min_7cf53 10 = .ok (.ireturn, 1) := by decide +kernel
theorem dJ7_fill_53178_0 : decode cJ7_fill_53178 0 = .ok (.iconst 0, 1) := by decide +kernel
theorem dJ7_fill_53178_1 : decode cJ7_fill_53178 1 = .ok (.istore_n 2, 1) := by decide +kernel
theorem dJ7_fill_53178_2 : decode cJ7_fill_53178 2 = .ok (.aload_n 0, 1) := by decide +kernel
theorem dJ7_fill_53178_3 : decode cJ7_fill_53178 3 = .ok (.arraylength, 1) := by decide +kernel
theorem dJ7_fill_53178_4 : decode cJ7_fill_53178 4 = .ok (.istore_n 3, 1) := by decide +kernel
theorem dJ7_fill_53178_5 : decode cJ7_fill_53178 5 = .ok (.iload_n 2, 1) := by decide +kernel
theorem dJ7_fill_53178_6 : decode cJ7_fill_53178 6 = .ok (.iload_n 3, 1) := by decide +kernel
theorem dJ7_fill_53178_7 : decode cJ7_fill_53178 7 = .ok (.if_icmp .ge 13, 3) := by decide +kernel
theorem dJ7_fill_53178_10 : decode cJ7_fill_53178 10 = .ok (.aload_n 0, 1) := by decide +kernel
theorem dJ7_fill_53178_11 : decode cJ7_fill_53178 11 = .ok (.iload_n 2, 1) := by decide +kernel
theorem dJ7_fill_53178_12 : decode cJ7_fill_53178 12 = .ok (.iload_n 1, 1) := by decide +kernel
theorem dJ7_fill_53178_13 : decode cJ7_fill_53178 13 = .ok (.iastore, 1) := by decide +kernel
theorem dJ7_fill_53178_14 : decode cJ7_fill_53178 14 = .ok (.iinc 2 1, 3) := by decide +kernel
theorem dJ7_fill_53178_17 : decode cJ7_fill_53178 17 = .ok (.goto (-12), 3) := by decide +kernel
theorem dJ7_fill_53178_20 : decode cJ7_fill_53178 20 = .ok (.return_, 1) := by decide +kernel
set_option maxRecDepth 20000 in
theorem ggL_term_X1_term : GoodIn wsL_term wsX1_term := goodIn_ca (goodIn_r _ [6, 7, 8, 9, 10, 11, 5, 12, 13, 14, 15, 16, 17, 18, 19, 20, 21, 22, 23, 24, 25, 26, 27] (by decide +kernel) (by decide +kernel)) (goodIn_sub (fun _ h => List.mem_cons_of_mem _ (List.mem_append_right _ h)) (by decide +kernel))
set_option maxRecDepth 20000 in
theorem gL_term_X1_term : GoodIn wsL_term (wsV RL 7 RX1 yX1_term wsX1_term) := goodIn_app (goodIn_of _ (by decide +kernel)) ggL_term_X1_term
theorem dL_term_0 : decode cL_term 0 = .ok (.aload_n 0, 1) := by decide +kernel
theorem dL_term_1 : decode cL_term 1 = .ok (.iload_n 1, 1) := by decide +kernel
theorem dL_term_2 : decode cL_term 2 = .ok (.iload_n 2, 1) := by decide +kernel
theorem dL_term_3 : decode cL_term 3 = .ok (.invokevirtual 7, 3) := by decide +kernel
theorem dL_term_6 : decode cL_term 6 = .ok (.goto 6, 3) := by decide +kernel
theorem dL_term_9 : decode cL_term 9 = .ok (.astore_n 3, 1) := by decide +kernel
theorem dL_term_10 : decode cL_term 10 = .ok (.iconst 1, 1) := by decide +kernel
theorem dL_term_11 : decode cL_term 11 = .ok (.ireturn, 1) := by decide +kernel
theorem dL_term_12 : decode cL_term 12 = .ok (.iconst 0, 1) := by decide +kernel
theorem dL_term_13 : decode cL_term 13 = .ok (.ireturn, 1) := by decide +kernel
set_option maxRecDepth 20000 in
theorem ggL_require_X1_require : GoodIn wsL_require wsX1_require := goodIn_ca (goodIn_ca (goodIn_r _ [7, 8, 9, 10, 11, 12, 13, 14, 15, 16, 17, 6, 18, 19, 20, 21, 22, 23, 24, 25, 26, 27, 28, 29, 30, 31, 32, 33, 34, 35, 36, 37, 38, 39, 40, 41, 42, 43, 44, 45, 46, 47, 48, 49, 50, 51, 52, 53, 54, 55, 56, 57, 58, 59, 60, 61, 62, 63, 64, 65, 66, 67, 68, 69, 70, 71, 72, 73, 74, 75] (by decide +kernel) (by decide +kernel)) (goodIn_sub (fun _ h => List.mem_cons_of_mem _ (List.mem_append_left _ (List.mem_append_right _ h))) (by decide +kernel))) (goodIn_sub (fun _ h => List.mem_cons_of_mem _ (List.mem_append_right _ h)) (by decide +kernel))
set_option maxRecDepth 20000 in
theorem gL_require_X1_require : GoodIn wsL_require (wsV RL 15 RX1 yX1_require wsX1_require) := goodIn_app (goodIn_of _ (by decide +kernel)) ggL_require_X1_require
theorem dL_require_0 : decode cL_require 0 = .ok (.aload_n 3, 1) := by decide +kernel
theorem dL_require_1 : decode cL_require 1 = .ok (.iconst 0, 1) := by decide +kernel
theorem dL_require_2 : decode cL_require 2 = .ok (.aload_n 0, 1) := by decide +kernel
theorem dL_require_3 : decode cL_require 3 = .ok (.iload_n 1, 1) := by decide +kernel
theorem dL_require_4 : decode cL_require 4 = .ok (.iload_n 2, 1) := by decide +kernel
theorem dL_require_5 : decode cL_require 5 = .ok (.invokevirtual 15, 3) := by decide +kernel
theorem dL_require_8 : decode cL_require 8 = .ok (.i2l, 1) := by decide +kernel
theorem dL_require_9 : decode cL_require 9 = .ok (.lastore, 1) := by decide +kernel
theorem dL_require_10 : decode cL_require 10 = .ok (.goto 11, 3) := by decide +kernel
theorem dL_require_13 : decode cL_require 13 = .ok (.astore 4, 2) := by decide +kernel
theorem dL_require_15 : decode cL_require 15 = .ok (.iconst 1, 1) := by decide +kernel
theorem dL_require_16 : decode cL_require 16 = .ok (.ireturn, 1) := by decide +kernel
theorem dL_require_17 : decode cL_require 17 = .ok (.astore 4, 2) := by decide +kernel
theorem dL_require_19 : decode cL_require 19 = .ok (.iconst 2, 1) := by decide +kernel
theorem dL_require_20 : decode cL_require 20 = .ok (.ireturn, 1) := by decide +kernel
theorem dL_require_21 : decode cL_require 21 = .ok (.iconst 0, 1) := by decide +kernel
theorem dL_require_22 : decode cL_require 22 = .ok (.ireturn, 1) := by decide +kernel
set_option maxRecDepth 20000 in
theorem ggL_objective_X1_objective : GoodIn wsL_objective wsX1_objective := goodIn_ca (goodIn_r _ [6, 7, 8, 9, 10, 11, 12, 13, 14, 15, 16, 17, 18, 5, 19, 20, 21, 22, 23, 24, 25, 26, 27, 28, 29, 30, 31, 32, 33, 34, 35] (by decide +kernel) (by decide +kernel)) (goodIn_sub (fun _ h => List.mem_cons_of_mem _ (List.mem_append_right _ h)) (by decide +kernel))
set_option maxRecDepth 20000 in
theorem gL_objective_X1_objective : GoodIn wsL_objective (wsV RL 21 RX1 yX1_objective wsX1_objective) := goodIn_app (goodIn_of _ (by decide +kernel)) ggL_objective_X1_objective
theorem dL_objective_0 : decode cL_objective 0 = .ok (.aload_n 0, 1) := by decide +kernel
theorem dL_objective_1 : decode cL_objective 1 = .ok (.invokevirtual 21, 3) := by decide +kernel
theorem dL_objective_4 : decode cL_objective 4 = .ok (.goto 6, 3) := by decide +kernel
theorem dL_objective_7 : decode cL_objective 7 = .ok (.astore_n 1, 1) := by decide +kernel
theorem dL_objective_8 : decode cL_objective 8 = .ok (.iconst 1, 1) := by decide +kernel
theorem dL_objective_9 : decode cL_objective 9 = .ok (.ireturn, 1) := by decide +kernel
theorem dL_objective_10 : decode cL_objective 10 = .ok (.iconst 0, 1) := by decide +kernel
theorem dL_objective_11 : decode cL_objective 11 = .ok (.ireturn, 1) := by decide +kernel
set_option maxRecDepth 20000 in
theorem ggL_constraint_X1_constraint : GoodIn wsL_constraint wsX1_constraint := goodIn_ca (goodIn_ca (goodIn_r _ [7, 8, 9, 10, 11, 12, 13, 14, 15, 6, 16, 17, 18, 19, 20, 21, 22, 23, 24, 25, 26, 27, 28, 29, 30, 31, 32, 33, 34, 35, 36, 37, 38, 39, 40, 41, 42, 43, 44, 45] (by decide +kernel) (by decide +kernel)) (goodIn_sub (fun _ h => List.mem_cons_of_mem _ (List.mem_append_left _ (List.mem_append_right _ h))) (by decide +kernel))) (goodIn_sub (fun _ h => List.mem_cons_of_mem _ (List.mem_append_right _ h)) (by decide +kernel))
set_option maxRecDepth 20000 in
theorem gL_constraint_X1_constraint : GoodIn wsL_constraint (wsV RL 24 RX1 yX1_constraint wsX1_constraint) := goodIn_app (goodIn_of _ (by decide +kernel)) ggL_constraint_X1_constraint
theorem dL_constraint_0 : decode cL_constraint 0 = .ok (.aload_n 3, 1) := by decide +kernel
theorem dL_constraint_1 : decode cL_constraint 1 = .ok (.iconst 0, 1) := by decide +kernel
theorem dL_constraint_2 : decode cL_constraint 2 = .ok (.aload_n 0, 1) := by decide +kernel
theorem dL_constraint_3 : decode cL_constraint 3 = .ok (.iload_n 1, 1) := by decide +kernel
theorem dL_constraint_4 : decode cL_constraint 4 = .ok (.iload_n 2, 1) := by decide +kernel
theorem dL_constraint_5 : decode cL_constraint 5 = .ok (.invokevirtual 24, 3) := by decide +kernel
theorem dL_constraint_8 : decode cL_constraint 8 = .ok (.i2l, 1) := by decide +kernel
theorem dL_constraint_9 : decode cL_constraint 9 = .ok (.lastore, 1) := by decide +kernel
theorem dL_constraint_10 : decode cL_constraint 10 = .ok (.goto 11, 3) := by decide +kernel
theorem dL_constraint_13 : decode cL_constraint 13 = .ok (.astore 4, 2) := by decide +kernel
theorem dL_constraint_15 : decode cL_constraint 15 = .ok (.iconst 1, 1) := by decide +kernel
theorem dL_constraint_16 : decode cL_constraint 16 = .ok (.ireturn, 1) := by decide +kernel
theorem dL_constraint_17 : decode cL_constraint 17 = .ok (.astore 4, 2) := by decide +kernel
theorem dL_constraint_19 : decode cL_constraint 19 = .ok (.iconst 2, 1) := by decide +kernel
theorem dL_constraint_20 : decode cL_constraint 20 = .ok (.ireturn, 1) := by decide +kernel
theorem dL_constraint_21 : decode cL_constraint 21 = .ok (.iconst 0, 1) := by decide +kernel
theorem dL_constraint_22 : decode cL_constraint 22 = .ok (.ireturn, 1) := by decide +kernel
set_option maxRecDepth 20000 in
theorem ggL_close_X1_close : GoodIn wsL_close wsX1_close := goodIn_ca (goodIn_r _ [6, 7, 8, 9, 10, 11, 5, 12, 13, 14, 15, 16, 17, 18, 19, 20, 21, 22, 23, 24, 25, 26, 27, 28, 29, 30, 31, 32, 33, 34, 35, 36, 37, 38, 39, 40, 41, 42, 43, 44, 45, 46, 47, 48, 49, 50, 51, 52, 53, 54, 55, 56, 57, 58, 59, 60] (by decide +kernel) (by decide +kernel)) (goodIn_sub (fun _ h => List.mem_cons_of_mem _ (List.mem_append_right _ h)) (by decide +kernel))
set_option maxRecDepth 20000 in
theorem gL_close_X1_close : GoodIn wsL_close (wsV RL 29 RX1 yX1_close wsX1_close) := goodIn_app (goodIn_of _ (by decide +kernel)) ggL_close_X1_close
theorem dL_close_0 : decode cL_close 0 = .ok (.aload_n 3, 1) := by decide +kernel
theorem dL_close_1 : decode cL_close 1 = .ok (.iconst 0, 1) := by decide +kernel
theorem dL_close_2 : decode cL_close 2 = .ok (.aload_n 0, 1) := by decide +kernel
theorem dL_close_3 : decode cL_close 3 = .ok (.iload_n 1, 1) := by decide +kernel
theorem dL_close_4 : decode cL_close 4 = .ok (.iload_n 2, 1) := by decide +kernel
theorem dL_close_5 : decode cL_close 5 = .ok (.invokevirtual 29, 3) := by decide +kernel
theorem dL_close_8 : decode cL_close 8 = .ok (.i2l, 1) := by decide +kernel
theorem dL_close_9 : decode cL_close 9 = .ok (.lastore, 1) := by decide +kernel
theorem dL_close_10 : decode cL_close 10 = .ok (.goto 7, 3) := by decide +kernel
theorem dL_close_13 : decode cL_close 13 = .ok (.astore 4, 2) := by decide +kernel
theorem dL_close_15 : decode cL_close 15 = .ok (.iconst 1, 1) := by decide +kernel
theorem dL_close_16 : decode cL_close 16 = .ok (.ireturn, 1) := by decide +kernel
theorem dL_close_17 : decode cL_close 17 = .ok (.iconst 0, 1) := by decide +kernel
theorem dL_close_18 : decode cL_close 18 = .ok (.ireturn, 1) := by decide +kernel
set_option maxRecDepth 20000 in
theorem ggL_load_X1_load : GoodIn wsL_load wsX1_load := goodIn_ca (goodIn_ca (goodIn_r _ [7, 8, 9, 10, 11, 12, 13, 14, 15, 6, 16, 17, 18, 19, 20, 21, 22, 23, 24, 25, 26, 27, 28, 29, 30, 31, 32, 33, 34, 35, 36, 37, 38, 39, 40, 41, 42, 43, 44, 45, 46, 47, 48, 49, 50, 51, 52] (by decide +kernel) (by decide +kernel)) (goodIn_sub (fun _ h => List.mem_cons_of_mem _ (List.mem_append_left _ (List.mem_append_right _ h))) (by decide +kernel))) (goodIn_sub (fun _ h => List.mem_cons_of_mem _ (List.mem_append_right _ h)) (by decide +kernel))
set_option maxRecDepth 20000 in
theorem gL_load_X1_load : GoodIn wsL_load (wsV RL 32 RX1 yX1_load wsX1_load) := goodIn_app (goodIn_of _ (by decide +kernel)) ggL_load_X1_load
theorem dL_load_0 : decode cL_load 0 = .ok (.aload_n 0, 1) := by decide +kernel
theorem dL_load_1 : decode cL_load 1 = .ok (.iload_n 1, 1) := by decide +kernel
theorem dL_load_2 : decode cL_load 2 = .ok (.invokevirtual 32, 3) := by decide +kernel
theorem dL_load_5 : decode cL_load 5 = .ok (.goto 9, 3) := by decide +kernel
theorem dL_load_8 : decode cL_load 8 = .ok (.astore_n 2, 1) := by decide +kernel
theorem dL_load_9 : decode cL_load 9 = .ok (.iconst 1, 1) := by decide +kernel
theorem dL_load_10 : decode cL_load 10 = .ok (.ireturn, 1) := by decide +kernel
theorem dL_load_11 : decode cL_load 11 = .ok (.astore_n 2, 1) := by decide +kernel
theorem dL_load_12 : decode cL_load 12 = .ok (.iconst 2, 1) := by decide +kernel
theorem dL_load_13 : decode cL_load 13 = .ok (.ireturn, 1) := by decide +kernel
theorem dL_load_14 : decode cL_load 14 = .ok (.iconst 0, 1) := by decide +kernel
theorem dL_load_15 : decode cL_load 15 = .ok (.ireturn, 1) := by decide +kernel
set_option maxRecDepth 20000 in
theorem ggL_axiom_X1_axiom : GoodIn wsL_axiom wsX1_axiom := goodIn_ca (goodIn_ca (goodIn_r _ [7, 8, 9, 10, 11, 12, 13, 6, 14, 15, 16, 17, 18, 19, 20, 21, 22, 23, 24, 25, 26, 27, 28, 29, 30, 31, 32, 33, 34, 35, 36, 37, 38, 39, 40, 41, 42, 43, 44, 45, 46, 47, 48, 49] (by decide +kernel) (by decide +kernel)) (goodIn_sub (fun _ h => List.mem_cons_of_mem _ (List.mem_append_left _ (List.mem_append_right _ h))) (by decide +kernel))) (goodIn_sub (fun _ h => List.mem_cons_of_mem _ (List.mem_append_right _ h)) (by decide +kernel))
set_option maxRecDepth 20000 in
theorem gL_axiom_X1_axiom : GoodIn wsL_axiom (wsV RL 36 RX1 yX1_axiom wsX1_axiom) := goodIn_app (goodIn_of _ (by decide +kernel)) ggL_axiom_X1_axiom
theorem dL_axiom_0 : decode cL_axiom 0 = .ok (.aload_n 0, 1) := by decide +kernel
theorem dL_axiom_1 : decode cL_axiom 1 = .ok (.iload_n 1, 1) := by decide +kernel
theorem dL_axiom_2 : decode cL_axiom 2 = .ok (.iload_n 2, 1) := by decide +kernel
theorem dL_axiom_3 : decode cL_axiom 3 = .ok (.invokevirtual 36, 3) := by decide +kernel
theorem dL_axiom_6 : decode cL_axiom 6 = .ok (.goto 9, 3) := by decide +kernel
theorem dL_axiom_9 : decode cL_axiom 9 = .ok (.astore_n 3, 1) := by decide +kernel
theorem dL_axiom_10 : decode cL_axiom 10 = .ok (.iconst 1, 1) := by decide +kernel
theorem dL_axiom_11 : decode cL_axiom 11 = .ok (.ireturn, 1) := by decide +kernel
theorem dL_axiom_12 : decode cL_axiom 12 = .ok (.astore_n 3, 1) := by decide +kernel
theorem dL_axiom_13 : decode cL_axiom 13 = .ok (.iconst 2, 1) := by decide +kernel
theorem dL_axiom_14 : decode cL_axiom 14 = .ok (.ireturn, 1) := by decide +kernel
theorem dL_axiom_15 : decode cL_axiom 15 = .ok (.iconst 0, 1) := by decide +kernel
theorem dL_axiom_16 : decode cL_axiom 16 = .ok (.ireturn, 1) := by decide +kernel
set_option maxRecDepth 20000 in
theorem ggL_add_X1_add : GoodIn wsL_add wsX1_add := goodIn_ca (goodIn_ca (goodIn_r _ [7, 8, 9, 10, 11, 12, 13, 14, 15, 16, 17, 18, 19, 20, 21, 22, 23, 24, 25, 26, 27, 28, 29, 30, 31, 32, 33, 34, 35, 36, 37, 38, 39, 40, 6, 41, 42, 43, 44, 45, 46, 47, 48, 49, 50, 51, 52, 53, 54, 55, 56, 57, 58, 59, 60, 61, 62, 63, 64, 65, 66, 67, 68, 69, 70, 71] (by decide +kernel) (by decide +kernel)) (goodIn_sub (fun _ h => List.mem_cons_of_mem _ (List.mem_append_left _ (List.mem_append_right _ h))) (by decide +kernel))) (goodIn_sub (fun _ h => List.mem_cons_of_mem _ (List.mem_append_right _ h)) (by decide +kernel))
set_option maxRecDepth 20000 in
theorem gL_add_X1_add : GoodIn wsL_add (wsV RL 40 RX1 yX1_add wsX1_add) := goodIn_app (goodIn_of _ (by decide +kernel)) ggL_add_X1_add
theorem dL_add_0 : decode cL_add 0 = .ok (.aload_n 0, 1) := by decide +kernel
theorem dL_add_1 : decode cL_add 1 = .ok (.invokevirtual 40, 3) := by decide +kernel
theorem dL_add_4 : decode cL_add 4 = .ok (.goto 9, 3) := by decide +kernel
theorem dL_add_7 : decode cL_add 7 = .ok (.astore_n 1, 1) := by decide +kernel
theorem dL_add_8 : decode cL_add 8 = .ok (.iconst 1, 1) := by decide +kernel
theorem dL_add_9 : decode cL_add 9 = .ok (.ireturn, 1) := by decide +kernel
theorem dL_add_10 : decode cL_add 10 = .ok (.astore_n 1, 1) := by decide +kernel
theorem dL_add_11 : decode cL_add 11 = .ok (.iconst 2, 1) := by decide +kernel
theorem dL_add_12 : decode cL_add 12 = .ok (.ireturn, 1) := by decide +kernel
theorem dL_add_13 : decode cL_add 13 = .ok (.iconst 0, 1) := by decide +kernel
theorem dL_add_14 : decode cL_add 14 = .ok (.ireturn, 1) := by decide +kernel
set_option maxRecDepth 20000 in
theorem ggL_times_X1_times : GoodIn wsL_times wsX1_times := goodIn_ca (goodIn_ca (goodIn_ca (goodIn_r _ [8, 9, 10, 11, 12, 13, 14, 15, 16, 7, 17, 18, 19, 20, 21, 22, 23, 24, 25, 26, 27, 28, 29, 30, 31, 32, 33, 34, 35, 36, 37, 38, 39, 40, 41, 42, 43, 44, 45, 46, 47, 48, 49, 50, 51, 52, 53, 54, 55, 56, 57, 58, 59, 60, 61, 62, 63, 64, 65, 66, 67, 68, 69, 70, 71] (by decide +kernel) (by decide +kernel)) (goodIn_sub (fun _ h => List.mem_cons_of_mem _ (List.mem_append_left _ (List.mem_append_left _ (List.mem_append_right _ h)))) (by decide +kernel))) (goodIn_sub (fun _ h => List.mem_cons_of_mem _ (List.mem_append_left _ (List.mem_append_right _ h))) (by decide +kernel))) (goodIn_sub (fun _ h => List.mem_cons_of_mem _ (List.mem_append_right _ h)) (by decide +kernel))
set_option maxRecDepth 20000 in
theorem gL_times_X1_times : GoodIn wsL_times (wsV RL 45 RX1 yX1_times wsX1_times) := goodIn_app (goodIn_of _ (by decide +kernel)) ggL_times_X1_times
theorem dL_times_0 : decode cL_times 0 = .ok (.aload_n 0, 1) := by decide +kernel
theorem dL_times_1 : decode cL_times 1 = .ok (.iload_n 1, 1) := by decide +kernel
theorem dL_times_2 : decode cL_times 2 = .ok (.invokevirtual 45, 3) := by decide +kernel
theorem dL_times_5 : decode cL_times 5 = .ok (.goto 12, 3) := by decide +kernel
theorem dL_times_8 : decode cL_times 8 = .ok (.astore_n 2, 1) := by decide +kernel
theorem dL_times_9 : decode cL_times 9 = .ok (.iconst 1, 1) := by decide +kernel
theorem dL_times_10 : decode cL_times 10 = .ok (.ireturn, 1) := by decide +kernel
theorem dL_times_11 : decode cL_times 11 = .ok (.astore_n 2, 1) := by decide +kernel
theorem dL_times_12 : decode cL_times 12 = .ok (.iconst 2, 1) := by decide +kernel
theorem dL_times_13 : decode cL_times 13 = .ok (.ireturn, 1) := by decide +kernel
theorem dL_times_14 : decode cL_times 14 = .ok (.astore_n 2, 1) := by decide +kernel
theorem dL_times_15 : decode cL_times 15 = .ok (.iconst 3, 1) := by decide +kernel
theorem dL_times_16 : decode cL_times 16 = .ok (.ireturn, 1) := by decide +kernel
theorem dL_times_17 : decode cL_times 17 = .ok (.iconst 0, 1) := by decide +kernel
theorem dL_times_18 : decode cL_times 18 = .ok (.ireturn, 1) := by decide +kernel
set_option maxRecDepth 20000 in
theorem ggL_divide_X1_divide : GoodIn wsL_divide wsX1_divide := goodIn_ca (goodIn_ca (goodIn_r _ [7, 8, 9, 10, 11, 12, 13, 14, 15, 6, 16, 17, 18, 19, 20, 21, 22, 23, 24, 25, 26, 27, 28, 29, 30, 31, 32, 33, 34, 35, 36, 37, 38, 39, 40, 41, 42, 43, 44, 45, 46, 47, 48, 49, 50, 51, 52, 53, 54, 55, 56, 57, 58] (by decide +kernel) (by decide +kernel)) (goodIn_sub (fun _ h => List.mem_cons_of_mem _ (List.mem_append_left _ (List.mem_append_right _ h))) (by decide +kernel))) (goodIn_sub (fun _ h => List.mem_cons_of_mem _ (List.mem_append_right _ h)) (by decide +kernel))
set_option maxRecDepth 20000 in
theorem gL_divide_X1_divide : GoodIn wsL_divide (wsV RL 48 RX1 yX1_divide wsX1_divide) := goodIn_app (goodIn_of _ (by decide +kernel)) ggL_divide_X1_divide
theorem dL_divide_0 : decode cL_divide 0 = .ok (.aload_n 0, 1) := by decide +kernel
theorem dL_divide_1 : decode cL_divide 1 = .ok (.iload_n 1, 1) := by decide +kernel
theorem dL_divide_2 : decode cL_divide 2 = .ok (.invokevirtual 48, 3) := by decide +kernel
theorem dL_divide_5 : decode cL_divide 5 = .ok (.goto 9, 3) := by decide +kernel
theorem dL_divide_8 : decode cL_divide 8 = .ok (.astore_n 2, 1) := by decide +kernel
theorem dL_divide_9 : decode cL_divide 9 = .ok (.iconst 1, 1) := by decide +kernel
theorem dL_divide_10 : decode cL_divide 10 = .ok (.ireturn, 1) := by decide +kernel
theorem dL_divide_11 : decode cL_divide 11 = .ok (.astore_n 2, 1) := by decide +kernel
theorem dL_divide_12 : decode cL_divide 12 = .ok (.iconst 2, 1) := by decide +kernel
theorem dL_divide_13 : decode cL_divide 13 = .ok (.ireturn, 1) := by decide +kernel
theorem dL_divide_14 : decode cL_divide 14 = .ok (.iconst 0, 1) := by decide +kernel
theorem dL_divide_15 : decode cL_divide 15 = .ok (.ireturn, 1) := by decide +kernel
set_option maxRecDepth 20000 in
theorem ggL_saturate_X1_saturate : GoodIn wsL_saturate wsX1_saturate := goodIn_ca (goodIn_r _ [6, 7, 8, 9, 10, 11, 5, 12, 13, 14, 15, 16, 17, 18, 19, 20, 21, 22, 23, 24, 25, 26, 27, 28, 29, 30, 31, 32, 33, 34, 35, 36, 37, 38, 39, 40, 41, 42, 43, 44, 45, 46, 47, 48, 49, 50, 51] (by decide +kernel) (by decide +kernel)) (goodIn_sub (fun _ h => List.mem_cons_of_mem _ (List.mem_append_right _ h)) (by decide +kernel))
set_option maxRecDepth 20000 in
theorem gL_saturate_X1_saturate : GoodIn wsL_saturate (wsV RL 51 RX1 yX1_saturate wsX1_saturate) := goodIn_app (goodIn_of _ (by decide +kernel)) ggL_saturate_X1_saturate
theorem dL_saturate_0 : decode cL_saturate 0 = .ok (.aload_n 0, 1) := by decide +kernel
theorem dL_saturate_1 : decode cL_saturate 1 = .ok (.invokevirtual 51, 3) := by decide +kernel
theorem dL_saturate_4 : decode cL_saturate 4 = .ok (.goto 6, 3) := by decide +kernel
theorem dL_saturate_7 : decode cL_saturate 7 = .ok (.astore_n 1, 1) := by decide +kernel
theorem dL_saturate_8 : decode cL_saturate 8 = .ok (.iconst 1, 1) := by decide +kernel
theorem dL_saturate_9 : decode cL_saturate 9 = .ok (.ireturn, 1) := by decide +kernel
theorem dL_saturate_10 : decode cL_saturate 10 = .ok (.iconst 0, 1) := by decide +kernel
theorem dL_saturate_11 : decode cL_saturate 11 = .ok (.ireturn, 1) := by decide +kernel
set_option maxRecDepth 20000 in
theorem ggL_weaken_X1_weaken : GoodIn wsL_weaken wsX1_weaken := goodIn_ca (goodIn_ca (goodIn_r _ [7, 8, 9, 10, 11, 12, 13, 14, 6, 15, 16, 17, 18, 19, 20, 21, 22, 23, 24, 25, 26, 27, 28, 29, 30, 31, 32, 33, 34, 35, 36, 37, 38, 39, 40, 41, 42, 43, 44, 45, 46, 47, 48, 49, 50, 51, 52, 53, 54, 55, 56] (by decide +kernel) (by decide +kernel)) (goodIn_sub (fun _ h => List.mem_cons_of_mem _ (List.mem_append_left _ (List.mem_append_right _ h))) (by decide +kernel))) (goodIn_sub (fun _ h => List.mem_cons_of_mem _ (List.mem_append_right _ h)) (by decide +kernel))
set_option maxRecDepth 20000 in
theorem gL_weaken_X1_weaken : GoodIn wsL_weaken (wsV RL 54 RX1 yX1_weaken wsX1_weaken) := goodIn_app (goodIn_of _ (by decide +kernel)) ggL_weaken_X1_weaken
theorem dL_weaken_0 : decode cL_weaken 0 = .ok (.aload_n 0, 1) := by decide +kernel
theorem dL_weaken_1 : decode cL_weaken 1 = .ok (.iload_n 1, 1) := by decide +kernel
theorem dL_weaken_2 : decode cL_weaken 2 = .ok (.invokevirtual 54, 3) := by decide +kernel
theorem dL_weaken_5 : decode cL_weaken 5 = .ok (.goto 9, 3) := by decide +kernel
theorem dL_weaken_8 : decode cL_weaken 8 = .ok (.astore_n 2, 1) := by decide +kernel
theorem dL_weaken_9 : decode cL_weaken 9 = .ok (.iconst 1, 1) := by decide +kernel
theorem dL_weaken_10 : decode cL_weaken 10 = .ok (.ireturn, 1) := by decide +kernel
theorem dL_weaken_11 : decode cL_weaken 11 = .ok (.astore_n 2, 1) := by decide +kernel
theorem dL_weaken_12 : decode cL_weaken 12 = .ok (.iconst 2, 1) := by decide +kernel
theorem dL_weaken_13 : decode cL_weaken 13 = .ok (.ireturn, 1) := by decide +kernel
theorem dL_weaken_14 : decode cL_weaken 14 = .ok (.iconst 0, 1) := by decide +kernel
theorem dL_weaken_15 : decode cL_weaken 15 = .ok (.ireturn, 1) := by decide +kernel
set_option maxRecDepth 20000 in
theorem ggL_drop_X1_drop : GoodIn wsL_drop wsX1_drop := goodIn_ca (goodIn_r _ [6, 7, 8, 9, 10, 5, 11, 12, 13, 14, 15, 16, 17, 18, 19, 20, 21, 22, 23, 24, 25] (by decide +kernel) (by decide +kernel)) (goodIn_sub (fun _ h => List.mem_cons_of_mem _ (List.mem_append_right _ h)) (by decide +kernel))
set_option maxRecDepth 20000 in
theorem gL_drop_X1_drop : GoodIn wsL_drop (wsV RL 57 RX1 yX1_drop wsX1_drop) := goodIn_app (goodIn_of _ (by decide +kernel)) ggL_drop_X1_drop
theorem dL_drop_0 : decode cL_drop 0 = .ok (.aload_n 0, 1) := by decide +kernel
theorem dL_drop_1 : decode cL_drop 1 = .ok (.invokevirtual 57, 3) := by decide +kernel
theorem dL_drop_4 : decode cL_drop 4 = .ok (.goto 6, 3) := by decide +kernel
theorem dL_drop_7 : decode cL_drop 7 = .ok (.astore_n 1, 1) := by decide +kernel
theorem dL_drop_8 : decode cL_drop 8 = .ok (.iconst 1, 1) := by decide +kernel
theorem dL_drop_9 : decode cL_drop 9 = .ok (.ireturn, 1) := by decide +kernel
theorem dL_drop_10 : decode cL_drop 10 = .ok (.iconst 0, 1) := by decide +kernel
theorem dL_drop_11 : decode cL_drop 11 = .ok (.ireturn, 1) := by decide +kernel
set_option maxRecDepth 20000 in
theorem ggL_top_X1_top : GoodIn wsL_top wsX1_top := goodIn_ca (goodIn_ca (goodIn_r _ [7, 8, 9, 10, 11, 12, 13, 6, 14, 15, 16, 17, 18, 19, 20, 21, 22, 23, 24, 25, 26, 27, 28, 29, 30, 31, 32, 33, 34, 35, 36, 37, 38, 39, 40, 41, 42, 43, 44, 45] (by decide +kernel) (by decide +kernel)) (goodIn_sub (fun _ h => List.mem_cons_of_mem _ (List.mem_append_left _ (List.mem_append_right _ h))) (by decide +kernel))) (goodIn_sub (fun _ h => List.mem_cons_of_mem _ (List.mem_append_right _ h)) (by decide +kernel))
set_option maxRecDepth 20000 in
theorem gL_top_X1_top : GoodIn wsL_top (wsV RL 60 RX1 yX1_top wsX1_top) := goodIn_app (goodIn_of _ (by decide +kernel)) ggL_top_X1_top
theorem dL_top_0 : decode cL_top 0 = .ok (.aload_n 2, 1) := by decide +kernel
theorem dL_top_1 : decode cL_top 1 = .ok (.iconst 0, 1) := by decide +kernel
theorem dL_top_2 : decode cL_top 2 = .ok (.aload_n 0, 1) := by decide +kernel
theorem dL_top_3 : decode cL_top 3 = .ok (.iload_n 1, 1) := by decide +kernel
theorem dL_top_4 : decode cL_top 4 = .ok (.invokevirtual 60, 3) := by decide +kernel
theorem dL_top_7 : decode cL_top 7 = .ok (.i2l, 1) := by decide +kernel
theorem dL_top_8 : decode cL_top 8 = .ok (.lastore, 1) := by decide +kernel
theorem dL_top_9 : decode cL_top 9 = .ok (.goto 9, 3) := by decide +kernel
theorem dL_top_12 : decode cL_top 12 = .ok (.astore_n 3, 1) := by decide +kernel
theorem dL_top_13 : decode cL_top 13 = .ok (.iconst 1, 1) := by decide +kernel
theorem dL_top_14 : decode cL_top 14 = .ok (.ireturn, 1) := by decide +kernel
theorem dL_top_15 : decode cL_top 15 = .ok (.astore_n 3, 1) := by decide +kernel
theorem dL_top_16 : decode cL_top 16 = .ok (.iconst 2, 1) := by decide +kernel
theorem dL_top_17 : decode cL_top 17 = .ok (.ireturn, 1) := by decide +kernel
theorem dL_top_18 : decode cL_top 18 = .ok (.iconst 0, 1) := by decide +kernel
theorem dL_top_19 : decode cL_top 19 = .ok (.ireturn, 1) := by decide +kernel
set_option maxRecDepth 20000 in
theorem ggL_learn_X1_learn : GoodIn wsL_learn wsX1_learn := goodIn_ca (goodIn_r _ [6, 7, 8, 9, 10, 11, 12, 13, 5, 14, 15, 16, 17, 18, 19, 20, 21, 22, 23, 24, 25, 26, 27, 28, 29, 30, 31, 32, 33, 34, 35, 36, 37, 38, 39, 40, 41, 42, 43, 44, 45, 46, 47, 48, 49, 50, 51, 52, 53, 54] (by decide +kernel) (by decide +kernel)) (goodIn_sub (fun _ h => List.mem_cons_of_mem _ (List.mem_append_right _ h)) (by decide +kernel))
set_option maxRecDepth 20000 in
theorem gL_learn_X1_learn : GoodIn wsL_learn (wsV RL 64 RX1 yX1_learn wsX1_learn) := goodIn_app (goodIn_of _ (by decide +kernel)) ggL_learn_X1_learn
theorem dL_learn_0 : decode cL_learn 0 = .ok (.aload_n 1, 1) := by decide +kernel
theorem dL_learn_1 : decode cL_learn 1 = .ok (.iconst 0, 1) := by decide +kernel
theorem dL_learn_2 : decode cL_learn 2 = .ok (.aload_n 0, 1) := by decide +kernel
theorem dL_learn_3 : decode cL_learn 3 = .ok (.invokevirtual 64, 3) := by decide +kernel
theorem dL_learn_6 : decode cL_learn 6 = .ok (.i2l, 1) := by decide +kernel
theorem dL_learn_7 : decode cL_learn 7 = .ok (.lastore, 1) := by decide +kernel
theorem dL_learn_8 : decode cL_learn 8 = .ok (.goto 6, 3) := by decide +kernel
theorem dL_learn_11 : decode cL_learn 11 = .ok (.astore_n 2, 1) := by decide +kernel
theorem dL_learn_12 : decode cL_learn 12 = .ok (.iconst 1, 1) := by decide +kernel
theorem dL_learn_13 : decode cL_learn 13 = .ok (.ireturn, 1) := by decide +kernel
theorem dL_learn_14 : decode cL_learn 14 = .ok (.iconst 0, 1) := by decide +kernel
theorem dL_learn_15 : decode cL_learn 15 = .ok (.ireturn, 1) := by decide +kernel
set_option maxRecDepth 20000 in
theorem ggL_contradict_X1_contradict : GoodIn wsL_contradict wsX1_contradict := goodIn_ca (goodIn_ca (goodIn_r _ [7, 8, 9, 10, 11, 12, 13, 14, 6, 15, 16, 17, 18, 19, 20, 21, 22, 23, 24, 25, 26, 27, 28, 29, 30, 31, 32, 33, 34, 35, 36, 37, 38, 39, 40, 41, 42, 43, 44, 45, 46, 47, 48, 49, 50, 51, 52, 53, 54, 55, 56, 57, 58, 59, 60, 61, 62, 63, 64, 65, 66, 67, 68, 69, 70, 71, 72, 73, 74, 75, 76, 77, 78, 79, 80, 81, 82, 83, 84, 85, 86, 87, 88, 89, 90, 91, 92, 93, 94, 95, 96, 97, 98, 99, 100] (by decide +kernel) (by decide +kernel)) (goodIn_sub (fun _ h => List.mem_cons_of_mem _ (List.mem_append_left _ (List.mem_append_right _ h))) (by decide +kernel))) (goodIn_sub (fun _ h => List.mem_cons_of_mem _ (List.mem_append_right _ h)) (by decide +kernel))
set_option maxRecDepth 20000 in
theorem gL_contradict_X1_contradict : GoodIn wsL_contradict (wsV RL 68 RX1 yX1_contradict wsX1_contradict) := goodIn_app (goodIn_of _ (by decide +kernel)) ggL_contradict_X1_contradict
theorem dL_contradict_0 : decode cL_contradict 0 = .ok (.aload_n 2, 1) := by decide +kernel
theorem dL_contradict_1 : decode cL_contradict 1 = .ok (.iconst 0, 1) := by decide +kernel
theorem dL_contradict_2 : decode cL_contradict 2 = .ok (.aload_n 0, 1) := by decide +kernel
theorem dL_contradict_3 : decode cL_contradict 3 = .ok (.iload_n 1, 1) := by decide +kernel
theorem dL_contradict_4 : decode cL_contradict 4 = .ok (.invokevirtual 68, 3) := by decide +kernel
theorem dL_contradict_7 : decode cL_contradict 7 = .ok (.i2l, 1) := by decide +kernel
theorem dL_contradict_8 : decode cL_contradict 8 = .ok (.lastore, 1) := by decide +kernel
theorem dL_contradict_9 : decode cL_contradict 9 = .ok (.goto 9, 3) := by decide +kernel
theorem dL_contradict_12 : decode cL_contradict 12 = .ok (.astore_n 3, 1) := by decide +kernel
theorem dL_contradict_13 : decode cL_contradict 13 = .ok (.iconst 1, 1) := by decide +kernel
theorem dL_contradict_14 : decode cL_contradict 14 = .ok (.ireturn, 1) := by decide +kernel
theorem dL_contradict_15 : decode cL_contradict 15 = .ok (.astore_n 3, 1) := by decide +kernel
theorem dL_contradict_16 : decode cL_contradict 16 = .ok (.iconst 2, 1) := by decide +kernel
theorem dL_contradict_17 : decode cL_contradict 17 = .ok (.ireturn, 1) := by decide +kernel
theorem dL_contradict_18 : decode cL_contradict 18 = .ok (.iconst 0, 1) := by decide +kernel
theorem dL_contradict_19 : decode cL_contradict 19 = .ok (.ireturn, 1) := by decide +kernel
set_option maxRecDepth 20000 in
theorem ggL_found_X1_found : GoodIn wsL_found wsX1_found := goodIn_ca (goodIn_ca (goodIn_r _ [7, 8, 9, 10, 11, 12, 13, 14, 15, 16, 6, 17, 18, 19, 20, 21, 22, 23, 24, 25, 26, 27, 28, 29, 30, 31, 32, 33, 34, 35, 36, 37, 38, 39, 40, 41, 42, 43, 44, 45, 46, 47, 48, 49, 50, 51, 52, 53, 54, 55, 56, 57, 58, 59, 60, 61, 62, 63, 64, 65, 66, 67, 68, 69, 70, 71, 72, 73, 74, 75, 76, 77, 78, 79, 80, 81, 82, 83, 84, 85, 86, 87, 88, 89, 90, 91, 92, 93, 94, 95, 96, 97, 98] (by decide +kernel) (by decide +kernel)) (goodIn_sub (fun _ h => List.mem_cons_of_mem _ (List.mem_append_left _ (List.mem_append_right _ h))) (by decide +kernel))) (goodIn_sub (fun _ h => List.mem_cons_of_mem _ (List.mem_append_right _ h)) (by decide +kernel))
set_option maxRecDepth 20000 in
theorem gL_found_X1_found : GoodIn wsL_found (wsV RL 71 RX1 yX1_found wsX1_found) := goodIn_app (goodIn_of _ (by decide +kernel)) ggL_found_X1_found
theorem dL_found_0 : decode cL_found 0 = .ok (.aload_n 2, 1) := by decide +kernel
theorem dL_found_1 : decode cL_found 1 = .ok (.iconst 0, 1) := by decide +kernel
theorem dL_found_2 : decode cL_found 2 = .ok (.aload_n 0, 1) := by decide +kernel
theorem dL_found_3 : decode cL_found 3 = .ok (.iload_n 1, 1) := by decide +kernel
theorem dL_found_4 : decode cL_found 4 = .ok (.invokevirtual 71, 3) := by decide +kernel
theorem dL_found_7 : decode cL_found 7 = .ok (.ifCond .eq 7, 3) := by decide +kernel
theorem dL_found_10 : decode cL_found 10 = .ok (.lconst 1, 1) := by decide +kernel
theorem dL_found_11 : decode cL_found 11 = .ok (.goto 4, 3) := by decide +kernel
theorem dL_found_14 : decode cL_found 14 = .ok (.lconst 0, 1) := by decide +kernel
theorem dL_found_15 : decode cL_found 15 = .ok (.lastore, 1) := by decide +kernel
theorem dL_found_16 : decode cL_found 16 = .ok (.goto 9, 3) := by decide +kernel
theorem dL_found_19 : decode cL_found 19 = .ok (.astore_n 3, 1) := by decide +kernel
theorem dL_found_20 : decode cL_found 20 = .ok (.iconst 1, 1) := by decide +kernel
theorem dL_found_21 : decode cL_found 21 = .ok (.ireturn, 1) := by decide +kernel
theorem dL_found_22 : decode cL_found 22 = .ok (.astore_n 3, 1) := by decide +kernel
theorem dL_found_23 : decode cL_found 23 = .ok (.iconst 2, 1) := by decide +kernel
theorem dL_found_24 : decode cL_found 24 = .ok (.ireturn, 1) := by decide +kernel
theorem dL_found_25 : decode cL_found 25 = .ok (.iconst 0, 1) := by decide +kernel
theorem dL_found_26 : decode cL_found 26 = .ok (.ireturn, 1) := by decide +kernel
set_option maxRecDepth 20000 in
theorem ggL_best_X1_best : GoodIn wsL_best wsX1_best := goodIn_ca (goodIn_r _ [6, 7, 8, 9, 10, 11, 12, 13, 14, 15, 16, 17, 18, 19, 20, 21, 22] (by decide +kernel) (by decide +kernel)) (goodIn_sub (fun _ h => List.mem_cons_of_mem _ (List.mem_append_right _ h)) (by decide +kernel))
set_option maxRecDepth 20000 in
theorem gL_best_X1_best : GoodIn wsL_best (wsV RL 75 RX1 yX1_best wsX1_best) := goodIn_app (goodIn_of _ (by decide +kernel)) ggL_best_X1_best
theorem dL_best_0 : decode cL_best 0 = .ok (.aload_n 1, 1) := by decide +kernel
theorem dL_best_1 : decode cL_best 1 = .ok (.iconst 0, 1) := by decide +kernel
theorem dL_best_2 : decode cL_best 2 = .ok (.aload_n 0, 1) := by decide +kernel
theorem dL_best_3 : decode cL_best 3 = .ok (.invokevirtual 75, 3) := by decide +kernel
theorem dL_best_6 : decode cL_best 6 = .ok (.i2l, 1) := by decide +kernel
theorem dL_best_7 : decode cL_best 7 = .ok (.lastore, 1) := by decide +kernel
theorem dL_best_8 : decode cL_best 8 = .ok (.goto 6, 3) := by decide +kernel
theorem dL_best_11 : decode cL_best 11 = .ok (.astore_n 2, 1) := by decide +kernel
theorem dL_best_12 : decode cL_best 12 = .ok (.iconst 1, 1) := by decide +kernel
theorem dL_best_13 : decode cL_best 13 = .ok (.ireturn, 1) := by decide +kernel
theorem dL_best_14 : decode cL_best 14 = .ok (.iconst 0, 1) := by decide +kernel
theorem dL_best_15 : decode cL_best 15 = .ok (.ireturn, 1) := by decide +kernel
set_option maxRecDepth 20000 in
theorem ggL_least_X1_least : GoodIn wsL_least wsX1_least := goodIn_ca (goodIn_r _ [6, 7, 8, 9, 10, 5, 11, 12, 13, 14, 15, 16, 17, 18, 19, 20, 21, 22, 23, 24, 25, 26] (by decide +kernel) (by decide +kernel)) (goodIn_sub (fun _ h => List.mem_cons_of_mem _ (List.mem_append_right _ h)) (by decide +kernel))
set_option maxRecDepth 20000 in
theorem gL_least_X1_least : GoodIn wsL_least (wsV RL 78 RX1 yX1_least wsX1_least) := goodIn_app (goodIn_of _ (by decide +kernel)) ggL_least_X1_least
theorem dL_least_0 : decode cL_least 0 = .ok (.aload_n 1, 1) := by decide +kernel
theorem dL_least_1 : decode cL_least 1 = .ok (.iconst 0, 1) := by decide +kernel
theorem dL_least_2 : decode cL_least 2 = .ok (.aload_n 0, 1) := by decide +kernel
theorem dL_least_3 : decode cL_least 3 = .ok (.invokevirtual 78, 3) := by decide +kernel
theorem dL_least_6 : decode cL_least 6 = .ok (.i2l, 1) := by decide +kernel
theorem dL_least_7 : decode cL_least 7 = .ok (.lastore, 1) := by decide +kernel
theorem dL_least_8 : decode cL_least 8 = .ok (.goto 6, 3) := by decide +kernel
theorem dL_least_11 : decode cL_least 11 = .ok (.astore_n 2, 1) := by decide +kernel
theorem dL_least_12 : decode cL_least 12 = .ok (.iconst 1, 1) := by decide +kernel
theorem dL_least_13 : decode cL_least 13 = .ok (.ireturn, 1) := by decide +kernel
theorem dL_least_14 : decode cL_least 14 = .ok (.iconst 0, 1) := by decide +kernel
theorem dL_least_15 : decode cL_least 15 = .ok (.ireturn, 1) := by decide +kernel
set_option maxRecDepth 20000 in
theorem ggL_value_X1_value : GoodIn wsL_value wsX1_value := goodIn_ca (goodIn_ca (goodIn_r _ [7, 8, 9, 10, 11, 12, 13, 6, 14, 15, 16, 17, 18, 19, 20, 21, 22, 23, 24, 25, 26, 27, 28, 29, 30, 31, 32, 33, 34, 35, 36, 37, 38] (by decide +kernel) (by decide +kernel)) (goodIn_sub (fun _ h => List.mem_cons_of_mem _ (List.mem_append_left _ (List.mem_append_right _ h))) (by decide +kernel))) (goodIn_sub (fun _ h => List.mem_cons_of_mem _ (List.mem_append_right _ h)) (by decide +kernel))
set_option maxRecDepth 20000 in
theorem gL_value_X1_value : GoodIn wsL_value (wsV RL 81 RX1 yX1_value wsX1_value) := goodIn_app (goodIn_of _ (by decide +kernel)) ggL_value_X1_value
theorem dL_value_0 : decode cL_value 0 = .ok (.aload_n 2, 1) := by decide +kernel
theorem dL_value_1 : decode cL_value 1 = .ok (.iconst 0, 1) := by decide +kernel
theorem dL_value_2 : decode cL_value 2 = .ok (.aload_n 0, 1) := by decide +kernel
theorem dL_value_3 : decode cL_value 3 = .ok (.iload_n 1, 1) := by decide +kernel
theorem dL_value_4 : decode cL_value 4 = .ok (.invokevirtual 81, 3) := by decide +kernel
theorem dL_value_7 : decode cL_value 7 = .ok (.i2l, 1) := by decide +kernel
theorem dL_value_8 : decode cL_value 8 = .ok (.lastore, 1) := by decide +kernel
theorem dL_value_9 : decode cL_value 9 = .ok (.goto 9, 3) := by decide +kernel
theorem dL_value_12 : decode cL_value 12 = .ok (.astore_n 3, 1) := by decide +kernel
theorem dL_value_13 : decode cL_value 13 = .ok (.iconst 1, 1) := by decide +kernel
theorem dL_value_14 : decode cL_value 14 = .ok (.ireturn, 1) := by decide +kernel
theorem dL_value_15 : decode cL_value 15 = .ok (.astore_n 3, 1) := by decide +kernel
theorem dL_value_16 : decode cL_value 16 = .ok (.iconst 2, 1) := by decide +kernel
theorem dL_value_17 : decode cL_value 17 = .ok (.ireturn, 1) := by decide +kernel
theorem dL_value_18 : decode cL_value 18 = .ok (.iconst 0, 1) := by decide +kernel
theorem dL_value_19 : decode cL_value 19 = .ok (.ireturn, 1) := by decide +kernel
set_option maxRecDepth 20000 in
theorem ggL_law_X1_init : GoodIn wsL_law wsX1_init := goodIn_r _ [9, 10, 11, 12, 13, 14, 15, 16, 17, 18, 19, 20, 21, 22, 23, 24, 25, 26, 27, 28, 29, 30, 31, 32, 33, 34, 579, 580, 581, 582, 583, 584, 585, 586, 587, 588, 589, 590, 604, 605, 606] (by decide +kernel) (by decide +kernel)
set_option maxRecDepth 20000 in
theorem gL_law_X1_init : GoodIn wsL_law (wsX1_init) := ggL_law_X1_init
set_option maxRecDepth 20000 in
theorem ggL_law_X2_init : GoodIn wsL_law wsX2_init := goodIn_r _ [37, 38, 11, 12, 13, 39, 40, 41, 42, 43, 44, 591, 592, 593, 594, 595, 596, 597, 598, 599, 600, 601, 602, 603] (by decide +kernel) (by decide +kernel)
set_option maxRecDepth 20000 in
theorem gL_law_X2_init : GoodIn wsL_law (wsX2_init) := ggL_law_X2_init
set_option maxRecDepth 20000 in
theorem ggL_law_L_term : GoodIn wsL_law wsL_term := goodIn_ca (goodIn_r _ [48, 49, 50, 51, 52, 2, 53, 54, 55, 14, 56, 57, 58, 59, 60, 61, 579, 580, 581, 582, 583, 584, 585, 586, 587, 588, 589, 590] (by decide +kernel) (by decide +kernel)) (goodIn_sub (fun _ h => List.mem_append_left _ (List.mem_append_left _ (List.mem_append_left _ (List.mem_append_right _ h)))) (by decide +kernel))
set_option maxRecDepth 20000 in
theorem gL_law_L_term : GoodIn wsL_law (va_wsS RL 88 yL_term wsL_term) := goodIn_app (goodIn_of _ (by decide +kernel)) ggL_law_L_term
set_option maxRecDepth 20000 in
theorem ggL_law_X2_term : GoodIn wsL_law wsX2_term := goodIn_r _ [65, 42, 66, 67, 5, 68, 69, 70, 71, 72, 73, 591, 592, 593, 594, 595, 596, 597, 598, 599, 600, 601, 602, 603] (by decide +kernel) (by decide +kernel)
set_option maxRecDepth 20000 in
theorem gL_law_X2_term : GoodIn wsL_law (wsV RL 93 RX2 yX2_term wsX2_term) := goodIn_app (goodIn_of _ (by decide +kernel)) ggL_law_X2_term
set_option maxRecDepth 20000 in
theorem ggL_law_X2_thrown : GoodIn wsL_law wsX2_thrown := goodIn_r _ [77, 73, 591, 592, 593, 594, 595, 596, 597, 598, 599, 600, 601, 602, 603] (by decide +kernel) (by decide +kernel)
set_option maxRecDepth 20000 in
theorem gL_law_X2_thrown : GoodIn wsL_law (wsV RL 94 RX2 yX2_thrown wsX2_thrown) := goodIn_app (goodIn_of _ (by decide +kernel)) ggL_law_X2_thrown
set_option maxRecDepth 20000 in
theorem ggL_law_X1_clear : GoodIn wsL_law wsX1_clear := goodIn_r _ [81, 14, 82, 83, 84, 85, 579, 580, 581, 582, 583, 584, 585, 586, 587, 588, 589, 590] (by decide +kernel) (by decide +kernel)
set_option maxRecDepth 20000 in
theorem gL_law_X1_clear : GoodIn wsL_law (wsV RL 97 RX1 yX1_clear wsX1_clear) := goodIn_app (goodIn_of _ (by decide +kernel)) ggL_law_X1_clear
set_option maxRecDepth 20000 in
theorem ggL_law_X2_clear : GoodIn wsL_law wsX2_clear := goodIn_r _ [89, 73, 90, 91, 92, 5, 93, 42, 591, 592, 593, 594, 595, 596, 597, 598, 599, 600, 601, 602, 603] (by decide +kernel) (by decide +kernel)
set_option maxRecDepth 20000 in
theorem gL_law_X2_clear : GoodIn wsL_law (wsV RL 100 RX2 yX2_clear wsX2_clear) := goodIn_app (goodIn_of _ (by decide +kernel)) ggL_law_X2_clear
set_option maxRecDepth 20000 in
theorem ggL_law_L_require : GoodIn wsL_law wsL_require := goodIn_ca (goodIn_ca (goodIn_r _ [96, 49, 97, 98, 99, 100, 2, 101, 54, 55, 102, 103, 24, 17, 18, 14, 59, 60, 61, 104, 105, 106, 107, 108, 109, 110, 22, 111, 112, 113, 114, 115, 32, 116, 117, 118, 119, 33, 120, 121, 122, 123, 124, 125, 126, 127, 128, 129, 130, 131, 79, 80, 81, 82, 83, 84, 85, 132, 133, 134, 135, 579, 580, 581, 582, 583, 584, 585, 586, 587, 588, 589, 590, 604, 605, 606] (by decide +kernel) (by decide +kernel)) (goodIn_sub (fun _ h => List.mem_append_left _ (List.mem_append_left _ (List.mem_append_left _ (List.mem_append_right _ h)))) (by decide +kernel))) (goodIn_sub (fun _ h => List.mem_append_left _ (List.mem_append_left _ (List.mem_append_right _ h))) (by decide +kernel))
set_option maxRecDepth 20000 in
theorem gL_law_L_require : GoodIn wsL_law (va_wsS RL 101 yL_require wsL_require) := goodIn_app (goodIn_of _ (by decide +kernel)) ggL_law_L_require
set_option maxRecDepth 20000 in
theorem ggL_law_X2_require : GoodIn wsL_law wsX2_require := goodIn_r _ [139, 140, 141, 66, 67, 5, 68, 69, 70, 71, 72, 73, 142, 143, 144, 145, 43, 42, 39, 90, 91, 92, 93, 146, 147, 148, 149, 41, 150, 151, 152, 153, 591, 592, 593, 594, 595, 596, 597, 598, 599, 600, 601, 602, 603] (by decide +kernel) (by decide +kernel)
set_option maxRecDepth 20000 in
theorem gL_law_X2_require : GoodIn wsL_law (wsV RL 104 RX2 yX2_require wsX2_require) := goodIn_app (goodIn_of _ (by decide +kernel)) ggL_law_X2_require
set_option maxRecDepth 20000 in
theorem ggL_law_L_objective : GoodIn wsL_law wsL_objective := goodIn_ca (goodIn_r _ [156, 97, 157, 158, 159, 2, 160, 102, 103, 24, 14, 15, 161, 162, 163, 164, 131, 79, 80, 81, 82, 83, 84, 85, 579, 580, 581, 582, 583, 584, 585, 586, 587, 588, 589, 590] (by decide +kernel) (by decide +kernel)) (goodIn_sub (fun _ h => List.mem_append_left _ (List.mem_append_left _ (List.mem_append_right _ h))) (by decide +kernel))
set_option maxRecDepth 20000 in
theorem gL_law_L_objective : GoodIn wsL_law (va_wsS RL 105 yL_objective wsL_objective) := goodIn_app (goodIn_of _ (by decide +kernel)) ggL_law_L_objective
set_option maxRecDepth 20000 in
theorem ggL_law_X2_objective : GoodIn wsL_law wsX2_objective := goodIn_r _ [168, 141, 43, 42, 69, 70, 71, 5, 72, 73, 90, 91, 92, 93, 591, 592, 593, 594, 595, 596, 597, 598, 599, 600, 601, 602, 603] (by decide +kernel) (by decide +kernel)
set_option maxRecDepth 20000 in
theorem gL_law_X2_objective : GoodIn wsL_law (wsV RL 108 RX2 yX2_objective wsX2_objective) := goodIn_app (goodIn_of _ (by decide +kernel)) ggL_law_X2_objective
set_option maxRecDepth 20000 in
theorem ggL_law_X1_constraints : GoodIn wsL_law wsX1_constraints := goodIn_r _ [172, 18, 579, 580, 581, 582, 583, 584, 585, 586, 587, 588, 589, 590] (by decide +kernel) (by decide +kernel)
set_option maxRecDepth 20000 in
theorem gL_law_X1_constraints : GoodIn wsL_law (wsV RL 109 RX1 yX1_constraints wsX1_constraints) := goodIn_app (goodIn_of _ (by decide +kernel)) ggL_law_X1_constraints
set_option maxRecDepth 20000 in
theorem ggL_law_X2_constraints : GoodIn wsL_law wsX2_constraints := goodIn_r _ [176, 73, 140, 591, 592, 593, 594, 595, 596, 597, 598, 599, 600, 601, 602, 603] (by decide +kernel) (by decide +kernel)
set_option maxRecDepth 20000 in
theorem gL_law_X2_constraints : GoodIn wsL_law (wsV RL 112 RX2 yX2_constraints wsX2_constraints) := goodIn_app (goodIn_of _ (by decide +kernel)) ggL_law_X2_constraints
set_option maxRecDepth 20000 in
theorem ggL_law_L_constraint : GoodIn wsL_law wsL_constraint := goodIn_ca (goodIn_ca (goodIn_r _ [179, 180, 49, 181, 182, 183, 2, 184, 185, 186, 54, 55, 17, 187, 188, 189, 190, 18, 59, 60, 61, 191, 192, 193, 194, 195, 196, 22, 197, 33, 32, 579, 580, 581, 582, 583, 584, 585, 586, 587, 588, 589, 590, 604, 605, 606] (by decide +kernel) (by decide +kernel)) (goodIn_sub (fun _ h => List.mem_append_left _ (List.mem_append_right _ h)) (by decide +kernel))) (goodIn_sub (fun _ h => List.mem_append_left _ (List.mem_append_left _ (List.mem_append_left _ (List.mem_append_right _ h)))) (by decide +kernel))
set_option maxRecDepth 20000 in
theorem gL_law_L_constraint : GoodIn wsL_law (va_wsS RL 113 yL_constraint wsL_constraint) := goodIn_app (goodIn_of _ (by decide +kernel)) ggL_law_L_constraint
set_option maxRecDepth 20000 in
theorem ggL_law_X2_constraint : GoodIn wsL_law wsX2_constraint := goodIn_r _ [201, 140, 41, 39, 66, 67, 5, 68, 69, 70, 71, 72, 73, 591, 592, 593, 594, 595, 596, 597, 598, 599, 600, 601, 602, 603] (by decide +kernel) (by decide +kernel)
set_option maxRecDepth 20000 in
theorem gL_law_X2_constraint : GoodIn wsL_law (wsV RL 115 RX2 yX2_constraint wsX2_constraint) := goodIn_app (goodIn_of _ (by decide +kernel)) ggL_law_X2_constraint
set_option maxRecDepth 20000 in
theorem ggL_law_L_close : GoodIn wsL_law wsL_close := goodIn_ca (goodIn_r _ [204, 49, 205, 206, 207, 2, 208, 54, 55, 18, 209, 210, 211, 59, 60, 61, 212, 213, 214, 215, 17, 216, 217, 218, 22, 219, 220, 221, 222, 223, 33, 224, 225, 226, 227, 228, 229, 32, 120, 121, 122, 123, 124, 125, 118, 126, 579, 580, 581, 582, 583, 584, 585, 586, 587, 588, 589, 590, 604, 605, 606] (by decide +kernel) (by decide +kernel)) (goodIn_sub (fun _ h => List.mem_append_left _ (List.mem_append_left _ (List.mem_append_left _ (List.mem_append_right _ h)))) (by decide +kernel))
set_option maxRecDepth 20000 in
theorem gL_law_L_close : GoodIn wsL_law (va_wsS RL 116 yL_close wsL_close) := goodIn_app (goodIn_of _ (by decide +kernel)) ggL_law_L_close
set_option maxRecDepth 20000 in
theorem ggL_law_X2_close : GoodIn wsL_law wsX2_close := goodIn_r _ [233, 44, 66, 67, 5, 68, 69, 70, 71, 72, 73, 234, 235, 236, 237, 140, 238, 239, 240, 241, 39, 242, 243, 244, 245, 246, 247, 248, 591, 592, 593, 594, 595, 596, 597, 598, 599, 600, 601, 602, 603] (by decide +kernel) (by decide +kernel)
set_option maxRecDepth 20000 in
theorem gL_law_X2_close : GoodIn wsL_law (wsV RL 118 RX2 yX2_close wsX2_close) := goodIn_app (goodIn_of _ (by decide +kernel)) ggL_law_X2_close
set_option maxRecDepth 20000 in
theorem ggL_law_L_load : GoodIn wsL_law wsL_load := goodIn_ca (goodIn_ca (goodIn_r _ [251, 180, 97, 252, 253, 254, 2, 255, 185, 186, 19, 20, 17, 187, 188, 189, 190, 18, 59, 60, 61, 256, 257, 258, 259, 102, 103, 260, 261, 262, 22, 263, 32, 264, 162, 163, 164, 33, 579, 580, 581, 582, 583, 584, 585, 586, 587, 588, 589, 590, 604, 605, 606] (by decide +kernel) (by decide +kernel)) (goodIn_sub (fun _ h => List.mem_append_left _ (List.mem_append_right _ h)) (by decide +kernel))) (goodIn_sub (fun _ h => List.mem_append_left _ (List.mem_append_left _ (List.mem_append_right _ h))) (by decide +kernel))
set_option maxRecDepth 20000 in
theorem gL_law_L_load : GoodIn wsL_law (va_wsS RL 119 yL_load wsL_load) := goodIn_app (goodIn_of _ (by decide +kernel)) ggL_law_L_load
set_option maxRecDepth 20000 in
theorem ggL_law_X2_load : GoodIn wsL_law wsX2_load := goodIn_r _ [268, 140, 269, 66, 67, 5, 68, 69, 70, 71, 72, 73, 270, 271, 272, 273, 150, 151, 152, 153, 39, 591, 592, 593, 594, 595, 596, 597, 598, 599, 600, 601, 602, 603] (by decide +kernel) (by decide +kernel)
set_option maxRecDepth 20000 in
theorem gL_law_X2_load : GoodIn wsL_law (wsV RL 122 RX2 yX2_load wsX2_load) := goodIn_app (goodIn_of _ (by decide +kernel)) ggL_law_X2_load
set_option maxRecDepth 20000 in
theorem ggL_law_L_axiom : GoodIn wsL_law wsL_axiom := goodIn_ca (goodIn_ca (goodIn_r _ [276, 180, 97, 277, 278, 279, 2, 280, 185, 186, 19, 20, 56, 57, 58, 59, 60, 61, 256, 257, 258, 259, 102, 103, 281, 282, 283, 22, 284, 32, 33, 285, 83, 84, 85, 579, 580, 581, 582, 583, 584, 585, 586, 587, 588, 589, 590, 604, 605, 606] (by decide +kernel) (by decide +kernel)) (goodIn_sub (fun _ h => List.mem_append_left _ (List.mem_append_right _ h)) (by decide +kernel))) (goodIn_sub (fun _ h => List.mem_append_left _ (List.mem_append_left _ (List.mem_append_right _ h))) (by decide +kernel))
set_option maxRecDepth 20000 in
theorem gL_law_L_axiom : GoodIn wsL_law (va_wsS RL 123 yL_axiom wsL_axiom) := goodIn_app (goodIn_of _ (by decide +kernel)) ggL_law_L_axiom
set_option maxRecDepth 20000 in
theorem ggL_law_X2_axiom : GoodIn wsL_law wsX2_axiom := goodIn_r _ [289, 269, 39, 66, 67, 5, 68, 69, 70, 71, 72, 73, 270, 271, 272, 273, 591, 592, 593, 594, 595, 596, 597, 598, 599, 600, 601, 602, 603] (by decide +kernel) (by decide +kernel)
set_option maxRecDepth 20000 in
theorem gL_law_X2_axiom : GoodIn wsL_law (wsV RL 126 RX2 yX2_axiom wsX2_axiom) := goodIn_app (goodIn_of _ (by decide +kernel)) ggL_law_X2_axiom
set_option maxRecDepth 20000 in
theorem ggL_law_L_add : GoodIn wsL_law wsL_add := goodIn_ca (goodIn_ca (goodIn_r _ [292, 97, 293, 294, 295, 296, 2, 297, 102, 103, 20, 23, 19, 298, 299, 300, 22, 301, 33, 32, 302, 303, 118, 304, 116, 117, 119, 305, 306, 307, 308, 120, 121, 122, 123, 124, 125, 126, 309, 310, 311, 312, 313, 314, 315, 316, 317, 318, 319, 260, 261, 262, 263, 264, 162, 163, 164, 579, 580, 581, 582, 583, 584, 585, 586, 587, 588, 589, 590, 604, 605, 606] (by decide +kernel) (by decide +kernel)) (goodIn_sub (fun _ h => List.mem_append_left _ (List.mem_append_left _ (List.mem_append_right _ h))) (by decide +kernel))) (goodIn_sub (fun _ h => List.mem_append_right _ h) (by decide +kernel))
set_option maxRecDepth 20000 in
theorem gL_law_L_add : GoodIn wsL_law (va_wsS RL 127 yL_add wsL_add) := goodIn_app (goodIn_of _ (by decide +kernel)) ggL_law_L_add
set_option maxRecDepth 20000 in
theorem ggL_law_X2_add : GoodIn wsL_law wsX2_add := goodIn_r _ [323, 269, 39, 69, 70, 71, 5, 72, 73, 270, 271, 272, 273, 246, 247, 248, 324, 325, 326, 327, 328, 150, 151, 152, 153, 591, 592, 593, 594, 595, 596, 597, 598, 599, 600, 601, 602, 603] (by decide +kernel) (by decide +kernel)
set_option maxRecDepth 20000 in
theorem gL_law_X2_add : GoodIn wsL_law (wsV RL 129 RX2 yX2_add wsX2_add) := goodIn_app (goodIn_of _ (by decide +kernel)) ggL_law_X2_add
set_option maxRecDepth 20000 in
theorem ggL_law_L_times : GoodIn wsL_law wsL_times := goodIn_ca (goodIn_ca (goodIn_ca (goodIn_r _ [331, 97, 49, 293, 332, 333, 334, 2, 335, 54, 55, 23, 19, 20, 336, 337, 338, 339, 102, 103, 59, 60, 61, 340, 341, 342, 22, 343, 32, 33, 309, 310, 311, 312, 313, 314, 315, 316, 317, 318, 319, 120, 121, 122, 123, 124, 125, 118, 126, 260, 261, 262, 263, 264, 162, 163, 164, 579, 580, 581, 582, 583, 584, 585, 586, 587, 588, 589, 590, 604, 605, 606] (by decide +kernel) (by decide +kernel)) (goodIn_sub (fun _ h => List.mem_append_left _ (List.mem_append_left _ (List.mem_append_left _ (List.mem_append_right _ h)))) (by decide +kernel))) (goodIn_sub (fun _ h => List.mem_append_left _ (List.mem_append_left _ (List.mem_append_right _ h))) (by decide +kernel))) (goodIn_sub (fun _ h => List.mem_append_right _ h) (by decide +kernel))
set_option maxRecDepth 20000 in
theorem gL_law_L_times : GoodIn wsL_law (va_wsS RL 130 yL_times wsL_times) := goodIn_app (goodIn_of _ (by decide +kernel)) ggL_law_L_times
set_option maxRecDepth 20000 in
theorem ggL_law_X2_times : GoodIn wsL_law wsX2_times := goodIn_r _ [347, 269, 39, 66, 67, 5, 68, 69, 70, 71, 72, 73, 270, 271, 272, 273, 324, 325, 326, 327, 328, 246, 247, 248, 150, 151, 152, 153, 591, 592, 593, 594, 595, 596, 597, 598, 599, 600, 601, 602, 603] (by decide +kernel) (by decide +kernel)
set_option maxRecDepth 20000 in
theorem gL_law_X2_times : GoodIn wsL_law (wsV RL 132 RX2 yX2_times wsX2_times) := goodIn_app (goodIn_of _ (by decide +kernel)) ggL_law_X2_times
set_option maxRecDepth 20000 in
theorem ggL_law_L_divide : GoodIn wsL_law wsL_divide := goodIn_ca (goodIn_ca (goodIn_r _ [350, 97, 49, 351, 352, 353, 2, 354, 54, 55, 355, 19, 20, 336, 337, 338, 339, 102, 103, 59, 60, 61, 356, 357, 358, 22, 359, 33, 120, 121, 122, 123, 32, 124, 125, 118, 126, 360, 361, 362, 363, 364, 365, 366, 579, 580, 581, 582, 583, 584, 585, 586, 587, 588, 589, 590, 604, 605, 606] (by decide +kernel) (by decide +kernel)) (goodIn_sub (fun _ h => List.mem_append_left _ (List.mem_append_left _ (List.mem_append_left _ (List.mem_append_right _ h)))) (by decide +kernel))) (goodIn_sub (fun _ h => List.mem_append_left _ (List.mem_append_left _ (List.mem_append_right _ h))) (by decide +kernel))
set_option maxRecDepth 20000 in
theorem gL_law_L_divide : GoodIn wsL_law (va_wsS RL 133 yL_divide wsL_divide) := goodIn_app (goodIn_of _ (by decide +kernel)) ggL_law_L_divide
set_option maxRecDepth 20000 in
theorem ggL_law_X2_divide : GoodIn wsL_law wsX2_divide := goodIn_r _ [370, 269, 328, 39, 66, 67, 5, 68, 69, 70, 71, 72, 73, 270, 271, 272, 273, 371, 372, 373, 591, 592, 593, 594, 595, 596, 597, 598, 599, 600, 601, 602, 603] (by decide +kernel) (by decide +kernel)
set_option maxRecDepth 20000 in
theorem gL_law_X2_divide : GoodIn wsL_law (wsV RL 135 RX2 yX2_divide wsX2_divide) := goodIn_app (goodIn_of _ (by decide +kernel)) ggL_law_X2_divide
set_option maxRecDepth 20000 in
theorem ggL_law_L_saturate : GoodIn wsL_law wsL_saturate := goodIn_ca (goodIn_r _ [376, 97, 377, 378, 379, 2, 380, 19, 20, 336, 337, 338, 339, 102, 103, 381, 382, 383, 22, 384, 33, 302, 303, 118, 304, 120, 121, 122, 123, 32, 124, 125, 126, 363, 364, 365, 366, 579, 580, 581, 582, 583, 584, 585, 586, 587, 588, 589, 590, 604, 605, 606] (by decide +kernel) (by decide +kernel)) (goodIn_sub (fun _ h => List.mem_append_left _ (List.mem_append_left _ (List.mem_append_right _ h))) (by decide +kernel))
set_option maxRecDepth 20000 in
theorem gL_law_L_saturate : GoodIn wsL_law (va_wsS RL 136 yL_saturate wsL_saturate) := goodIn_app (goodIn_of _ (by decide +kernel)) ggL_law_L_saturate
set_option maxRecDepth 20000 in
theorem ggL_law_X2_saturate : GoodIn wsL_law wsX2_saturate := goodIn_r _ [388, 269, 39, 69, 70, 71, 5, 72, 73, 270, 271, 272, 273, 246, 247, 248, 591, 592, 593, 594, 595, 596, 597, 598, 599, 600, 601, 602, 603] (by decide +kernel) (by decide +kernel)
set_option maxRecDepth 20000 in
theorem gL_law_X2_saturate : GoodIn wsL_law (wsV RL 138 RX2 yX2_saturate wsX2_saturate) := goodIn_app (goodIn_of _ (by decide +kernel)) ggL_law_X2_saturate
set_option maxRecDepth 20000 in
theorem ggL_law_L_weaken : GoodIn wsL_law wsL_weaken := goodIn_ca (goodIn_ca (goodIn_r _ [391, 97, 180, 392, 393, 394, 2, 395, 185, 186, 19, 20, 336, 337, 338, 339, 102, 103, 56, 57, 58, 59, 60, 61, 396, 397, 398, 22, 399, 33, 116, 117, 118, 119, 32, 120, 121, 122, 123, 124, 125, 126, 579, 580, 581, 582, 583, 584, 585, 586, 587, 588, 589, 590, 604, 605, 606] (by decide +kernel) (by decide +kernel)) (goodIn_sub (fun _ h => List.mem_append_left _ (List.mem_append_right _ h)) (by decide +kernel))) (goodIn_sub (fun _ h => List.mem_append_left _ (List.mem_append_left _ (List.mem_append_right _ h))) (by decide +kernel))
set_option maxRecDepth 20000 in
theorem gL_law_L_weaken : GoodIn wsL_law (va_wsS RL 139 yL_weaken wsL_weaken) := goodIn_app (goodIn_of _ (by decide +kernel)) ggL_law_L_weaken
set_option maxRecDepth 20000 in
theorem ggL_law_X2_weaken : GoodIn wsL_law wsX2_weaken := goodIn_r _ [403, 269, 39, 66, 67, 5, 68, 69, 70, 71, 72, 73, 270, 271, 272, 273, 246, 247, 248, 591, 592, 593, 594, 595, 596, 597, 598, 599, 600, 601, 602, 603] (by decide +kernel) (by decide +kernel)
set_option maxRecDepth 20000 in
theorem gL_law_X2_weaken : GoodIn wsL_law (wsV RL 141 RX2 yX2_weaken wsX2_weaken) := goodIn_app (goodIn_of _ (by decide +kernel)) ggL_law_X2_weaken
set_option maxRecDepth 20000 in
theorem ggL_law_L_drop : GoodIn wsL_law wsL_drop := goodIn_ca (goodIn_r _ [406, 97, 407, 408, 409, 2, 410, 20, 336, 337, 338, 339, 102, 103, 579, 580, 581, 582, 583, 584, 585, 586, 587, 588, 589, 590] (by decide +kernel) (by decide +kernel)) (goodIn_sub (fun _ h => List.mem_append_left _ (List.mem_append_left _ (List.mem_append_right _ h))) (by decide +kernel))
set_option maxRecDepth 20000 in
theorem gL_law_L_drop : GoodIn wsL_law (va_wsS RL 142 yL_drop wsL_drop) := goodIn_app (goodIn_of _ (by decide +kernel)) ggL_law_L_drop
set_option maxRecDepth 20000 in
theorem ggL_law_X2_drop : GoodIn wsL_law wsX2_drop := goodIn_r _ [414, 269, 69, 70, 71, 5, 72, 73, 591, 592, 593, 594, 595, 596, 597, 598, 599, 600, 601, 602, 603] (by decide +kernel) (by decide +kernel)
set_option maxRecDepth 20000 in
theorem gL_law_X2_drop : GoodIn wsL_law (wsV RL 144 RX2 yX2_drop wsX2_drop) := goodIn_app (goodIn_of _ (by decide +kernel)) ggL_law_X2_drop
set_option maxRecDepth 20000 in
theorem ggL_law_L_top : GoodIn wsL_law wsL_top := goodIn_ca (goodIn_ca (goodIn_r _ [417, 49, 97, 418, 419, 420, 2, 421, 54, 55, 20, 19, 191, 192, 193, 59, 60, 61, 336, 337, 338, 339, 102, 103, 194, 195, 196, 22, 197, 33, 32, 579, 580, 581, 582, 583, 584, 585, 586, 587, 588, 589, 590, 604, 605, 606] (by decide +kernel) (by decide +kernel)) (goodIn_sub (fun _ h => List.mem_append_left _ (List.mem_append_left _ (List.mem_append_left _ (List.mem_append_right _ h)))) (by decide +kernel))) (goodIn_sub (fun _ h => List.mem_append_left _ (List.mem_append_left _ (List.mem_append_right _ h))) (by decide +kernel))
set_option maxRecDepth 20000 in
theorem gL_law_L_top : GoodIn wsL_law (va_wsS RL 145 yL_top wsL_top) := goodIn_app (goodIn_of _ (by decide +kernel)) ggL_law_L_top
set_option maxRecDepth 20000 in
theorem ggL_law_X2_top : GoodIn wsL_law wsX2_top := goodIn_r _ [425, 269, 39, 66, 67, 5, 68, 69, 70, 71, 72, 73, 270, 271, 272, 273, 591, 592, 593, 594, 595, 596, 597, 598, 599, 600, 601, 602, 603] (by decide +kernel) (by decide +kernel)
set_option maxRecDepth 20000 in
theorem gL_law_X2_top : GoodIn wsL_law (wsV RL 148 RX2 yX2_top wsX2_top) := goodIn_app (goodIn_of _ (by decide +kernel)) ggL_law_X2_top
set_option maxRecDepth 20000 in
theorem ggL_law_L_learn : GoodIn wsL_law wsL_learn := goodIn_ca (goodIn_r _ [428, 97, 429, 430, 431, 2, 432, 20, 17, 18, 19, 336, 337, 338, 339, 102, 103, 433, 434, 435, 436, 104, 105, 106, 107, 260, 261, 262, 22, 263, 32, 264, 162, 163, 164, 33, 132, 133, 134, 135, 579, 580, 581, 582, 583, 584, 585, 586, 587, 588, 589, 590, 604, 605, 606] (by decide +kernel) (by decide +kernel)) (goodIn_sub (fun _ h => List.mem_append_left _ (List.mem_append_left _ (List.mem_append_right _ h))) (by decide +kernel))
set_option maxRecDepth 20000 in
theorem gL_law_L_learn : GoodIn wsL_law (va_wsS RL 149 yL_learn wsL_learn) := goodIn_app (goodIn_of _ (by decide +kernel)) ggL_law_L_learn
set_option maxRecDepth 20000 in
theorem ggL_law_X2_learn : GoodIn wsL_law wsX2_learn := goodIn_r _ [440, 269, 140, 69, 70, 71, 5, 72, 73, 270, 271, 272, 273, 146, 147, 148, 149, 41, 150, 151, 152, 153, 39, 591, 592, 593, 594, 595, 596, 597, 598, 599, 600, 601, 602, 603] (by decide +kernel) (by decide +kernel)
set_option maxRecDepth 20000 in
theorem gL_law_X2_learn : GoodIn wsL_law (wsV RL 152 RX2 yX2_learn wsX2_learn) := goodIn_app (goodIn_of _ (by decide +kernel)) ggL_law_X2_learn
set_option maxRecDepth 20000 in
theorem ggL_law_L_contradict : GoodIn wsL_law wsL_contradict := goodIn_ca (goodIn_ca (goodIn_r _ [443, 49, 97, 444, 445, 446, 2, 447, 54, 55, 17, 18, 14, 59, 60, 61, 433, 434, 435, 436, 102, 103, 104, 105, 106, 107, 108, 109, 110, 22, 111, 112, 113, 114, 115, 32, 116, 117, 118, 119, 33, 120, 121, 122, 123, 124, 125, 126, 448, 449, 450, 451, 452, 453, 454, 455, 212, 213, 214, 215, 216, 217, 218, 219, 220, 221, 222, 223, 224, 225, 226, 227, 228, 229, 131, 79, 80, 81, 82, 83, 84, 85, 132, 133, 134, 135, 579, 580, 581, 582, 583, 584, 585, 586, 587, 588, 589, 590, 604, 605, 606] (by decide +kernel) (by decide +kernel)) (goodIn_sub (fun _ h => List.mem_append_left _ (List.mem_append_left _ (List.mem_append_left _ (List.mem_append_right _ h)))) (by decide +kernel))) (goodIn_sub (fun _ h => List.mem_append_left _ (List.mem_append_left _ (List.mem_append_right _ h))) (by decide +kernel))
set_option maxRecDepth 20000 in
theorem gL_law_L_contradict : GoodIn wsL_law (va_wsS RL 153 yL_contradict wsL_contradict) := goodIn_app (goodIn_of _ (by decide +kernel)) ggL_law_L_contradict
set_option maxRecDepth 20000 in
theorem ggL_law_X2_contradict : GoodIn wsL_law wsX2_contradict := goodIn_r _ [459, 140, 39, 44, 66, 67, 5, 68, 69, 70, 71, 72, 73, 142, 143, 144, 145, 43, 42, 460, 461, 462, 463, 246, 247, 248, 234, 235, 236, 237, 238, 239, 240, 241, 242, 243, 244, 245, 90, 91, 92, 93, 146, 147, 148, 149, 41, 150, 151, 152, 153, 591, 592, 593, 594, 595, 596, 597, 598, 599, 600, 601, 602, 603] (by decide +kernel) (by decide +kernel)
set_option maxRecDepth 20000 in
theorem gL_law_X2_contradict : GoodIn wsL_law (wsV RL 155 RX2 yX2_contradict wsX2_contradict) := goodIn_app (goodIn_of _ (by decide +kernel)) ggL_law_X2_contradict
set_option maxRecDepth 20000 in
theorem ggL_law_L_found : GoodIn wsL_law wsL_found := goodIn_ca (goodIn_ca (goodIn_r _ [466, 49, 97, 467, 468, 469, 2, 470, 54, 55, 24, 25, 17, 18, 15, 209, 210, 211, 59, 60, 61, 433, 434, 435, 436, 102, 103, 104, 105, 106, 107, 471, 472, 473, 474, 475, 476, 477, 22, 478, 220, 221, 222, 223, 33, 224, 225, 226, 227, 228, 229, 32, 120, 121, 122, 123, 124, 125, 118, 126, 479, 480, 481, 482, 483, 484, 485, 486, 487, 127, 128, 129, 130, 112, 113, 114, 115, 116, 117, 119, 132, 133, 134, 135, 579, 580, 581, 582, 583, 584, 585, 586, 587, 588, 589, 590, 604, 605, 606] (by decide +kernel) (by decide +kernel)) (goodIn_sub (fun _ h => List.mem_append_left _ (List.mem_append_left _ (List.mem_append_left _ (List.mem_append_right _ h)))) (by decide +kernel))) (goodIn_sub (fun _ h => List.mem_append_left _ (List.mem_append_left _ (List.mem_append_right _ h))) (by decide +kernel))
set_option maxRecDepth 20000 in
theorem gL_law_L_found : GoodIn wsL_law (va_wsS RL 156 yL_found wsL_found) := goodIn_app (goodIn_of _ (by decide +kernel)) ggL_law_L_found
set_option maxRecDepth 20000 in
theorem ggL_law_X2_found : GoodIn wsL_law wsX2_found := goodIn_r _ [491, 140, 141, 492, 66, 67, 5, 68, 69, 70, 71, 72, 73, 493, 494, 495, 496, 39, 246, 247, 248, 497, 498, 499, 500, 43, 501, 502, 503, 504, 142, 143, 144, 145, 42, 146, 147, 148, 149, 41, 150, 151, 152, 153, 591, 592, 593, 594, 595, 596, 597, 598, 599, 600, 601, 602, 603] (by decide +kernel) (by decide +kernel)
set_option maxRecDepth 20000 in
theorem gL_law_X2_found : GoodIn wsL_law (wsV RL 158 RX2 yX2_found wsX2_found) := goodIn_app (goodIn_of _ (by decide +kernel)) ggL_law_X2_found
set_option maxRecDepth 20000 in
theorem ggL_law_X1_verdict : GoodIn wsL_law wsX1_verdict := goodIn_r _ [508, 24, 509, 510, 511, 2, 512, 18, 17, 513, 514, 515, 22, 516, 33, 452, 453, 454, 455, 120, 121, 122, 123, 32, 124, 125, 118, 126, 484, 485, 486, 487, 15, 579, 580, 581, 582, 583, 584, 585, 586, 587, 588, 589, 590, 604, 605, 606] (by decide +kernel) (by decide +kernel)
set_option maxRecDepth 20000 in
theorem gL_law_X1_verdict : GoodIn wsL_law (wsV RL 159 RX1 yX1_verdict wsX1_verdict) := goodIn_app (goodIn_of _ (by decide +kernel)) ggL_law_X1_verdict
set_option maxRecDepth 20000 in
theorem ggL_law_X2_verdict : GoodIn wsL_law wsX2_verdict := goodIn_r _ [520, 73, 140, 39, 141, 460, 461, 462, 5, 463, 246, 247, 248, 501, 502, 503, 504, 43, 591, 592, 593, 594, 595, 596, 597, 598, 599, 600, 601, 602, 603] (by decide +kernel) (by decide +kernel)
set_option maxRecDepth 20000 in
theorem gL_law_X2_verdict : GoodIn wsL_law (wsV RL 162 RX2 yX2_verdict wsX2_verdict) := goodIn_app (goodIn_of _ (by decide +kernel)) ggL_law_X2_verdict
set_option maxRecDepth 20000 in
theorem ggL_law_L_best : GoodIn wsL_law wsL_best := goodIn_ca (goodIn_r _ [523, 180, 524, 525, 526, 2, 527, 185, 186, 24, 25, 579, 580, 581, 582, 583, 584, 585, 586, 587, 588, 589, 590] (by decide +kernel) (by decide +kernel)) (goodIn_sub (fun _ h => List.mem_append_left _ (List.mem_append_right _ h)) (by decide +kernel))
set_option maxRecDepth 20000 in
theorem gL_law_L_best : GoodIn wsL_law (va_wsS RL 163 yL_best wsL_best) := goodIn_app (goodIn_of _ (by decide +kernel)) ggL_law_L_best
set_option maxRecDepth 20000 in
theorem ggL_law_X2_best : GoodIn wsL_law wsX2_best := goodIn_r _ [531, 141, 492, 69, 70, 71, 5, 72, 73, 591, 592, 593, 594, 595, 596, 597, 598, 599, 600, 601, 602, 603] (by decide +kernel) (by decide +kernel)
set_option maxRecDepth 20000 in
theorem gL_law_X2_best : GoodIn wsL_law (wsV RL 165 RX2 yX2_best wsX2_best) := goodIn_app (goodIn_of _ (by decide +kernel)) ggL_law_X2_best
set_option maxRecDepth 20000 in
theorem ggL_law_X1_solve : GoodIn wsL_law wsX1_solve := goodIn_r _ [535, 26, 27, 28, 479, 480, 481, 2, 482, 15, 483, 224, 225, 536, 537, 538, 539, 540, 541, 542, 471, 472, 473, 474, 18, 17, 475, 476, 477, 22, 478, 220, 221, 222, 223, 33, 226, 227, 228, 229, 32, 120, 121, 122, 123, 124, 125, 118, 126, 579, 580, 581, 582, 583, 584, 585, 586, 587, 588, 589, 590, 604, 605, 606] (by decide +kernel) (by decide +kernel)
set_option maxRecDepth 20000 in
theorem gL_law_X1_solve : GoodIn wsL_law (wsV RL 166 RX1 yX1_solve wsX1_solve) := goodIn_app (goodIn_of _ (by decide +kernel)) ggL_law_X1_solve
set_option maxRecDepth 20000 in
theorem ggL_law_X2_solve : GoodIn wsL_law wsX2_solve := goodIn_r _ [546, 73, 547, 548, 140, 41, 549, 550, 551, 5, 552, 497, 498, 499, 500, 43, 493, 494, 495, 496, 39, 246, 247, 248, 591, 592, 593, 594, 595, 596, 597, 598, 599, 600, 601, 602, 603] (by decide +kernel) (by decide +kernel)
set_option maxRecDepth 20000 in
theorem gL_law_X2_solve : GoodIn wsL_law (wsV RL 169 RX2 yX2_solve wsX2_solve) := goodIn_app (goodIn_of _ (by decide +kernel)) ggL_law_X2_solve
set_option maxRecDepth 20000 in
theorem ggL_law_L_least : GoodIn wsL_law wsL_least := goodIn_ca (goodIn_r _ [555, 180, 556, 557, 558, 2, 559, 27, 560, 561, 562, 563, 185, 186, 26, 579, 580, 581, 582, 583, 584, 585, 586, 587, 588, 589, 590] (by decide +kernel) (by decide +kernel)) (goodIn_sub (fun _ h => List.mem_append_left _ (List.mem_append_right _ h)) (by decide +kernel))
set_option maxRecDepth 20000 in
theorem gL_law_L_least : GoodIn wsL_law (va_wsS RL 170 yL_least wsL_least) := goodIn_app (goodIn_of _ (by decide +kernel)) ggL_law_L_least
set_option maxRecDepth 20000 in
theorem ggL_law_X2_least : GoodIn wsL_law wsX2_least := goodIn_r _ [567, 547, 548, 69, 70, 71, 5, 72, 73, 591, 592, 593, 594, 595, 596, 597, 598, 599, 600, 601, 602, 603] (by decide +kernel) (by decide +kernel)
set_option maxRecDepth 20000 in
theorem gL_law_X2_least : GoodIn wsL_law (wsV RL 172 RX2 yX2_least wsX2_least) := goodIn_app (goodIn_of _ (by decide +kernel)) ggL_law_X2_least
set_option maxRecDepth 20000 in
theorem ggL_law_L_value : GoodIn wsL_law wsL_value := goodIn_ca (goodIn_ca (goodIn_r _ [570, 180, 49, 571, 572, 573, 2, 574, 54, 55, 28, 560, 561, 562, 563, 185, 186, 26, 56, 57, 58, 59, 60, 61, 483, 224, 225, 579, 580, 581, 582, 583, 584, 585, 586, 587, 588, 589, 590] (by decide +kernel) (by decide +kernel)) (goodIn_sub (fun _ h => List.mem_append_left _ (List.mem_append_left _ (List.mem_append_left _ (List.mem_append_right _ h)))) (by decide +kernel))) (goodIn_sub (fun _ h => List.mem_append_left _ (List.mem_append_right _ h)) (by decide +kernel))
set_option maxRecDepth 20000 in
theorem gL_law_L_value : GoodIn wsL_law (va_wsS RL 173 yL_value wsL_value) := goodIn_app (goodIn_of _ (by decide +kernel)) ggL_law_L_value
set_option maxRecDepth 20000 in
theorem ggL_law_X2_value : GoodIn wsL_law wsX2_value := goodIn_r _ [578, 547, 549, 66, 67, 5, 68, 69, 70, 71, 72, 73, 591, 592, 593, 594, 595, 596, 597, 598, 599, 600, 601, 602, 603] (by decide +kernel) (by decide +kernel)
set_option maxRecDepth 20000 in
theorem gL_law_X2_value : GoodIn wsL_law (wsV RL 175 RX2 yX2_value wsX2_value) := goodIn_app (goodIn_of _ (by decide +kernel)) ggL_law_X2_value
theorem dL_law_0 : decode cL_law 0 = .ok (.new 8, 3) := by decide +kernel
theorem dL_law_3 : decode cL_law 3 = .ok (.dup, 1) := by decide +kernel
theorem dL_law_4 : decode cL_law 4 = .ok (.invokespecial 84, 3) := by decide +kernel
theorem dL_law_7 : decode cL_law 7 = .ok (.astore_n 1, 1) := by decide +kernel
theorem dL_law_8 : decode cL_law 8 = .ok (.new 85, 3) := by decide +kernel
theorem dL_law_11 : decode cL_law 11 = .ok (.dup, 1) := by decide +kernel
theorem dL_law_12 : decode cL_law 12 = .ok (.invokespecial 87, 3) := by decide +kernel
theorem dL_law_15 : decode cL_law 15 = .ok (.astore_n 2, 1) := by decide +kernel
theorem dL_law_16 : decode cL_law 16 = .ok (.iconst 1, 1) := by decide +kernel
theorem dL_law_17 : decode cL_law 17 = .ok (.newarray .long, 2) := by decide +kernel
theorem dL_law_19 : decode cL_law 19 = .ok (.astore_n 3, 1) := by decide +kernel
theorem dL_law_20 : decode cL_law 20 = .ok (.iconst 0, 1) := by decide +kernel
theorem dL_law_21 : decode cL_law 21 = .ok (.istore 4, 2) := by decide +kernel
theorem dL_law_23 : decode cL_law 23 = .ok (.iload 4, 2) := by decide +kernel
theorem dL_law_25 : decode cL_law 25 = .ok (.aload_n 0, 1) := by decide +kernel
theorem dL_law_26 : decode cL_law 26 = .ok (.arraylength, 1) := by decide +kernel
theorem dL_law_27 : decode cL_law 27 = .ok (.iconst 3, 1) := by decide +kernel
theorem dL_law_28 : decode cL_law 28 = .ok (.isub, 1) := by decide +kernel
theorem dL_law_29 : decode cL_law 29 = .ok (.if_icmp .gt 1094, 3) := by decide +kernel
theorem dL_law_32 : decode cL_law 32 = .ok (.aload_n 0, 1) := by decide +kernel
theorem dL_law_33 : decode cL_law 33 = .ok (.iload 4, 2) := by decide +kernel
theorem dL_law_35 : decode cL_law 35 = .ok (.iaload, 1) := by decide +kernel
theorem dL_law_36 : decode cL_law 36 = .ok (.bipush 31, 2) := by decide +kernel
theorem dL_law_38 : decode cL_law 38 = .ok (.iand, 1) := by decide +kernel
theorem dL_law_39 : decode cL_law 39 = .ok (.tableswitch 1078 0 23 #[109, 157, 168, 236, 260, 273, 341, 409, 445, 509, 533, 569, 605, 629, 665, 689, 745, 789, 845, 908, 921, 965, 978, 1022], 109) := by decide +kernel
theorem dL_law_148 : decode cL_law 148 = .ok (.aload_n 1, 1) := by decide +kernel
theorem dL_law_149 : decode cL_law 149 = .ok (.aload_n 0, 1) := by decide +kernel
theorem dL_law_150 : decode cL_law 150 = .ok (.iload 4, 2) := by decide +kernel
theorem dL_law_152 : decode cL_law 152 = .ok (.iconst 1, 1) := by decide +kernel
theorem dL_law_153 : decode cL_law 153 = .ok (.iadd, 1) := by decide +kernel
theorem dL_law_154 : decode cL_law 154 = .ok (.iaload, 1) := by decide +kernel
theorem dL_law_155 : decode cL_law 155 = .ok (.aload_n 0, 1) := by decide +kernel
theorem dL_law_156 : decode cL_law 156 = .ok (.iload 4, 2) := by decide +kernel
theorem dL_law_158 : decode cL_law 158 = .ok (.iconst 2, 1) := by decide +kernel
theorem dL_law_159 : decode cL_law 159 = .ok (.iadd, 1) := by decide +kernel
theorem dL_law_160 : decode cL_law 160 = .ok (.iaload, 1) := by decide +kernel
theorem dL_law_161 : decode cL_law 161 = .ok (.invokestatic 88, 3) := by decide +kernel
theorem dL_law_164 : decode cL_law 164 = .ok (.istore 5, 2) := by decide +kernel
theorem dL_law_166 : decode cL_law 166 = .ok (.aload_n 2, 1) := by decide +kernel
theorem dL_law_167 : decode cL_law 167 = .ok (.aload_n 0, 1) := by decide +kernel
theorem dL_law_168 : decode cL_law 168 = .ok (.iload 4, 2) := by decide +kernel
theorem dL_law_170 : decode cL_law 170 = .ok (.iconst 1, 1) := by decide +kernel
theorem dL_law_171 : decode cL_law 171 = .ok (.iadd, 1) := by decide +kernel
theorem dL_law_172 : decode cL_law 172 = .ok (.iaload, 1) := by decide +kernel
theorem dL_law_173 : decode cL_law 173 = .ok (.aload_n 0, 1) := by decide +kernel
theorem dL_law_174 : decode cL_law 174 = .ok (.iload 4, 2) := by decide +kernel
theorem dL_law_176 : decode cL_law 176 = .ok (.iconst 2, 1) := by decide +kernel
theorem dL_law_177 : decode cL_law 177 = .ok (.iadd, 1) := by decide +kernel
theorem dL_law_178 : decode cL_law 178 = .ok (.iaload, 1) := by decide +kernel
theorem dL_law_179 : decode cL_law 179 = .ok (.invokevirtual 93, 3) := by decide +kernel
theorem dL_law_182 : decode cL_law 182 = .ok (.aload_n 2, 1) := by decide +kernel
theorem dL_law_183 : decode cL_law 183 = .ok (.invokevirtual 94, 3) := by decide +kernel
theorem dL_law_186 : decode cL_law 186 = .ok (.iload 5, 2) := by decide +kernel
theorem dL_law_188 : decode cL_law 188 = .ok (.if_icmp .eq 5, 3) := by decide +kernel
theorem dL_law_191 : decode cL_law 191 = .ok (.iconst 0, 1) := by decide +kernel
theorem dL_law_192 : decode cL_law 192 = .ok (.ireturn, 1) := by decide +kernel
theorem dL_law_193 : decode cL_law 193 = .ok (.goto 924, 3) := by decide +kernel
theorem dL_law_196 : decode cL_law 196 = .ok (.aload_n 1, 1) := by decide +kernel
theorem dL_law_197 : decode cL_law 197 = .ok (.invokevirtual 97, 3) := by decide +kernel
theorem dL_law_200 : decode cL_law 200 = .ok (.aload_n 2, 1) := by decide +kernel
theorem dL_law_201 : decode cL_law 201 = .ok (.invokevirtual 100, 3) := by decide +kernel
theorem dL_law_204 : decode cL_law 204 = .ok (.goto 913, 3) := by decide +kernel
theorem dL_law_207 : decode cL_law 207 = .ok (.aload_n 1, 1) := by decide +kernel
theorem dL_law_208 : decode cL_law 208 = .ok (.aload_n 0, 1) := by decide +kernel
end
section
theorem dL_law_209 : decode cL_law 209 = .ok (.iload 4, 2) := by decide +kernel
theorem dL_law_211 : decode cL_law 211 = .ok (.iconst 1, 1) := by decide +kernel
theorem dL_law_212 : decode cL_law 212 = .ok (.iadd, 1) := by decide +kernel
theorem dL_law_213 : decode cL_law 213 = .ok (.iaload, 1) := by decide +kernel
theorem dL_law_214 : decode cL_law 214 = .ok (.aload_n 0, 1) := by decide +kernel
theorem dL_law_215 : decode cL_law 215 = .ok (.iload 4, 2) := by decide +kernel
theorem dL_law_217 : decode cL_law 217 = .ok (.iconst 2, 1) := by decide +kernel
theorem dL_law_218 : decode cL_law 218 = .ok (.iadd, 1) := by decide +kernel
theorem dL_law_219 : decode cL_law 219 = .ok (.iaload, 1) := by decide +kernel
theorem dL_law_220 : decode cL_law 220 = .ok (.aload_n 3, 1) := by decide +kernel
theorem dL_law_221 : decode cL_law 221 = .ok (.invokestatic 101, 3) := by decide +kernel
theorem dL_law_224 : decode cL_law 224 = .ok (.istore 5, 2) := by decide +kernel
theorem dL_law_226 : decode cL_law 226 = .ok (.aload_n 2, 1) := by decide +kernel
theorem dL_law_227 : decode cL_law 227 = .ok (.aload_n 0, 1) := by decide +kernel
theorem dL_law_228 : decode cL_law 228 = .ok (.iload 4, 2) := by decide +kernel
theorem dL_law_230 : decode cL_law 230 = .ok (.iconst 1, 1) := by decide +kernel
theorem dL_law_231 : decode cL_law 231 = .ok (.iadd, 1) := by decide +kernel
theorem dL_law_232 : decode cL_law 232 = .ok (.iaload, 1) := by decide +kernel
theorem dL_law_233 : decode cL_law 233 = .ok (.aload_n 0, 1) := by decide +kernel
theorem dL_law_234 : decode cL_law 234 = .ok (.iload 4, 2) := by decide +kernel
theorem dL_law_236 : decode cL_law 236 = .ok (.iconst 2, 1) := by decide +kernel
theorem dL_law_237 : decode cL_law 237 = .ok (.iadd, 1) := by decide +kernel
theorem dL_law_238 : decode cL_law 238 = .ok (.iaload, 1) := by decide +kernel
theorem dL_law_239 : decode cL_law 239 = .ok (.invokevirtual 104, 3) := by decide +kernel
theorem dL_law_242 : decode cL_law 242 = .ok (.istore 6, 2) := by decide +kernel
theorem dL_law_244 : decode cL_law 244 = .ok (.aload_n 2, 1) := by decide +kernel
theorem dL_law_245 : decode cL_law 245 = .ok (.invokevirtual 94, 3) := by decide +kernel
theorem dL_law_248 : decode cL_law 248 = .ok (.iload 5, 2) := by decide +kernel
theorem dL_law_250 : decode cL_law 250 = .ok (.if_icmp .eq 5, 3) := by decide +kernel
theorem dL_law_253 : decode cL_law 253 = .ok (.iconst 0, 1) := by decide +kernel
theorem dL_law_254 : decode cL_law 254 = .ok (.ireturn, 1) := by decide +kernel
theorem dL_law_255 : decode cL_law 255 = .ok (.iload 5, 2) := by decide +kernel
theorem dL_law_257 : decode cL_law 257 = .ok (.ifCond .ne 15, 3) := by decide +kernel
theorem dL_law_260 : decode cL_law 260 = .ok (.aload_n 3, 1) := by decide +kernel
theorem dL_law_261 : decode cL_law 261 = .ok (.iconst 0, 1) := by decide +kernel
theorem dL_law_262 : decode cL_law 262 = .ok (.laload, 1) := by decide +kernel
theorem dL_law_263 : decode cL_law 263 = .ok (.iload 6, 2) := by decide +kernel
theorem dL_law_265 : decode cL_law 265 = .ok (.i2l, 1) := by decide +kernel
theorem dL_law_266 : decode cL_law 266 = .ok (.lcmp, 1) := by decide +kernel
theorem dL_law_267 : decode cL_law 267 = .ok (.ifCond .eq 5, 3) := by decide +kernel
theorem dL_law_270 : decode cL_law 270 = .ok (.iconst 0, 1) := by decide +kernel
theorem dL_law_271 : decode cL_law 271 = .ok (.ireturn, 1) := by decide +kernel
theorem dL_law_272 : decode cL_law 272 = .ok (.goto 845, 3) := by decide +kernel
theorem dL_law_275 : decode cL_law 275 = .ok (.aload_n 1, 1) := by decide +kernel
theorem dL_law_276 : decode cL_law 276 = .ok (.invokestatic 105, 3) := by decide +kernel
theorem dL_law_279 : decode cL_law 279 = .ok (.istore 5, 2) := by decide +kernel
theorem dL_law_281 : decode cL_law 281 = .ok (.aload_n 2, 1) := by decide +kernel
theorem dL_law_282 : decode cL_law 282 = .ok (.invokevirtual 108, 3) := by decide +kernel
theorem dL_law_285 : decode cL_law 285 = .ok (.aload_n 2, 1) := by decide +kernel
theorem dL_law_286 : decode cL_law 286 = .ok (.invokevirtual 94, 3) := by decide +kernel
theorem dL_law_289 : decode cL_law 289 = .ok (.iload 5, 2) := by decide +kernel
theorem dL_law_291 : decode cL_law 291 = .ok (.if_icmp .eq 5, 3) := by decide +kernel
theorem dL_law_294 : decode cL_law 294 = .ok (.iconst 0, 1) := by decide +kernel
theorem dL_law_295 : decode cL_law 295 = .ok (.ireturn, 1) := by decide +kernel
theorem dL_law_296 : decode cL_law 296 = .ok (.goto 821, 3) := by decide +kernel
theorem dL_law_299 : decode cL_law 299 = .ok (.aload_n 1, 1) := by decide +kernel
theorem dL_law_300 : decode cL_law 300 = .ok (.invokevirtual 109, 3) := by decide +kernel
theorem dL_law_303 : decode cL_law 303 = .ok (.aload_n 2, 1) := by decide +kernel
theorem dL_law_304 : decode cL_law 304 = .ok (.invokevirtual 112, 3) := by decide +kernel
theorem dL_law_307 : decode cL_law 307 = .ok (.if_icmp .eq 810, 3) := by decide +kernel
theorem dL_law_310 : decode cL_law 310 = .ok (.iconst 0, 1) := by decide +kernel
theorem dL_law_311 : decode cL_law 311 = .ok (.ireturn, 1) := by decide +kernel
theorem dL_law_312 : decode cL_law 312 = .ok (.aload_n 1, 1) := by decide +kernel
theorem dL_law_313 : decode cL_law 313 = .ok (.aload_n 0, 1) := by decide +kernel
theorem dL_law_314 : decode cL_law 314 = .ok (.iload 4, 2) := by decide +kernel
theorem dL_law_316 : decode cL_law 316 = .ok (.iconst 1, 1) := by decide +kernel
theorem dL_law_317 : decode cL_law 317 = .ok (.iadd, 1) := by decide +kernel
theorem dL_law_318 : decode cL_law 318 = .ok (.iaload, 1) := by decide +kernel
theorem dL_law_319 : decode cL_law 319 = .ok (.aload_n 0, 1) := by decide +kernel
theorem dL_law_320 : decode cL_law 320 = .ok (.iload 4, 2) := by decide +kernel
theorem dL_law_322 : decode cL_law 322 = .ok (.iconst 2, 1) := by decide +kernel
theorem dL_law_323 : decode cL_law 323 = .ok (.iadd, 1) := by decide +kernel
theorem dL_law_324 : decode cL_law 324 = .ok (.iaload, 1) := by decide +kernel
theorem dL_law_325 : decode cL_law 325 = .ok (.aload_n 3, 1) := by decide +kernel
theorem dL_law_326 : decode cL_law 326 = .ok (.invokestatic 113, 3) := by decide +kernel
theorem dL_law_329 : decode cL_law 329 = .ok (.istore 5, 2) := by decide +kernel
theorem dL_law_331 : decode cL_law 331 = .ok (.aload_n 2, 1) := by decide +kernel
theorem dL_law_332 : decode cL_law 332 = .ok (.aload_n 0, 1) := by decide +kernel
theorem dL_law_333 : decode cL_law 333 = .ok (.iload 4, 2) := by decide +kernel
theorem dL_law_335 : decode cL_law 335 = .ok (.iconst 1, 1) := by decide +kernel
theorem dL_law_336 : decode cL_law 336 = .ok (.iadd, 1) := by decide +kernel
theorem dL_law_337 : decode cL_law 337 = .ok (.iaload, 1) := by decide +kernel
theorem dL_law_338 : decode cL_law 338 = .ok (.aload_n 0, 1) := by decide +kernel
theorem dL_law_339 : decode cL_law 339 = .ok (.iload 4, 2) := by decide +kernel
theorem dL_law_341 : decode cL_law 341 = .ok (.iconst 2, 1) := by decide +kernel
theorem dL_law_342 : decode cL_law 342 = .ok (.iadd, 1) := by decide +kernel
theorem dL_law_343 : decode cL_law 343 = .ok (.iaload, 1) := by decide +kernel
theorem dL_law_344 : decode cL_law 344 = .ok (.invokevirtual 115, 3) := by decide +kernel
theorem dL_law_347 : decode cL_law 347 = .ok (.istore 6, 2) := by decide +kernel
theorem dL_law_349 : decode cL_law 349 = .ok (.aload_n 2, 1) := by decide +kernel
theorem dL_law_350 : decode cL_law 350 = .ok (.invokevirtual 94, 3) := by decide +kernel
theorem dL_law_353 : decode cL_law 353 = .ok (.iload 5, 2) := by decide +kernel
theorem dL_law_355 : decode cL_law 355 = .ok (.if_icmp .eq 5, 3) := by decide +kernel
theorem dL_law_358 : decode cL_law 358 = .ok (.iconst 0, 1) := by decide +kernel
theorem dL_law_359 : decode cL_law 359 = .ok (.ireturn, 1) := by decide +kernel
theorem dL_law_360 : decode cL_law 360 = .ok (.iload 5, 2) := by decide +kernel
theorem dL_law_362 : decode cL_law 362 = .ok (.ifCond .ne 15, 3) := by decide +kernel
theorem dL_law_365 : decode cL_law 365 = .ok (.aload_n 3, 1) := by decide +kernel
theorem dL_law_366 : decode cL_law 366 = .ok (.iconst 0, 1) := by decide +kernel
theorem dL_law_367 : decode cL_law 367 = .ok (.laload, 1) := by decide +kernel
theorem dL_law_368 : decode cL_law 368 = .ok (.iload 6, 2) := by decide +kernel
theorem dL_law_370 : decode cL_law 370 = .ok (.i2l, 1) := by decide +kernel
theorem dL_law_371 : decode cL_law 371 = .ok (.lcmp, 1) := by decide +kernel
theorem dL_law_372 : decode cL_law 372 = .ok (.ifCond .eq 5, 3) := by decide +kernel
theorem dL_law_375 : decode cL_law 375 = .ok (.iconst 0, 1) := by decide +kernel
theorem dL_law_376 : decode cL_law 376 = .ok (.ireturn, 1) := by decide +kernel
theorem dL_law_377 : decode cL_law 377 = .ok (.goto 740, 3) := by decide +kernel
theorem dL_law_380 : decode cL_law 380 = .ok (.aload_n 1, 1) := by decide +kernel
theorem dL_law_381 : decode cL_law 381 = .ok (.aload_n 0, 1) := by decide +kernel
theorem dL_law_382 : decode cL_law 382 = .ok (.iload 4, 2) := by decide +kernel
theorem dL_law_384 : decode cL_law 384 = .ok (.iconst 1, 1) := by decide +kernel
theorem dL_law_385 : decode cL_law 385 = .ok (.iadd, 1) := by decide +kernel
theorem dL_law_386 : decode cL_law 386 = .ok (.iaload, 1) := by decide +kernel
theorem dL_law_387 : decode cL_law 387 = .ok (.aload_n 0, 1) := by decide +kernel
theorem dL_law_388 : decode cL_law 388 = .ok (.iload 4, 2) := by decide +kernel
theorem dL_law_390 : decode cL_law 390 = .ok (.iconst 2, 1) := by decide +kernel
theorem dL_law_391 : decode cL_law 391 = .ok (.iadd, 1) := by decide +kernel
theorem dL_law_392 : decode cL_law 392 = .ok (.iaload, 1) := by decide +kernel
theorem dL_law_393 : decode cL_law 393 = .ok (.aload_n 3, 1) := by decide +kernel
theorem dL_law_394 : decode cL_law 394 = .ok (.invokestatic 116, 3) := by decide +kernel
theorem dL_law_397 : decode cL_law 397 = .ok (.istore 5, 2) := by decide +kernel
theorem dL_law_399 : decode cL_law 399 = .ok (.aload_n 2, 1) := by decide +kernel
theorem dL_law_400 : decode cL_law 400 = .ok (.aload_n 0, 1) := by decide +kernel
theorem dL_law_401 : decode cL_law 401 = .ok (.iload 4, 2) := by decide +kernel
theorem dL_law_403 : decode cL_law 403 = .ok (.iconst 1, 1) := by decide +kernel
theorem dL_law_404 : decode cL_law 404 = .ok (.iadd, 1) := by decide +kernel
theorem dL_law_405 : decode cL_law 405 = .ok (.iaload, 1) := by decide +kernel
theorem dL_law_406 : decode cL_law 406 = .ok (.aload_n 0, 1) := by decide +kernel
theorem dL_law_407 : decode cL_law 407 = .ok (.iload 4, 2) := by decide +kernel
theorem dL_law_409 : decode cL_law 409 = .ok (.iconst 2, 1) := by decide +kernel
theorem dL_law_410 : decode cL_law 410 = .ok (.iadd, 1) := by decide +kernel
theorem dL_law_411 : decode cL_law 411 = .ok (.iaload, 1) := by decide +kernel
theorem dL_law_412 : decode cL_law 412 = .ok (.invokevirtual 118, 3) := by decide +kernel
theorem dL_law_415 : decode cL_law 415 = .ok (.istore 6, 2) := by decide +kernel
theorem dL_law_417 : decode cL_law 417 = .ok (.aload_n 2, 1) := by decide +kernel
theorem dL_law_418 : decode cL_law 418 = .ok (.invokevirtual 94, 3) := by decide +kernel
theorem dL_law_421 : decode cL_law 421 = .ok (.iload 5, 2) := by decide +kernel
theorem dL_law_423 : decode cL_law 423 = .ok (.if_icmp .eq 5, 3) := by decide +kernel
theorem dL_law_426 : decode cL_law 426 = .ok (.iconst 0, 1) := by decide +kernel
theorem dL_law_427 : decode cL_law 427 = .ok (.ireturn, 1) := by decide +kernel
theorem dL_law_428 : decode cL_law 428 = .ok (.iload 5, 2) := by decide +kernel
theorem dL_law_430 : decode cL_law 430 = .ok (.ifCond .ne 15, 3) := by decide +kernel
theorem dL_law_433 : decode cL_law 433 = .ok (.aload_n 3, 1) := by decide +kernel
theorem dL_law_434 : decode cL_law 434 = .ok (.iconst 0, 1) := by decide +kernel
theorem dL_law_435 : decode cL_law 435 = .ok (.laload, 1) := by decide +kernel
theorem dL_law_436 : decode cL_law 436 = .ok (.iload 6, 2) := by decide +kernel
theorem dL_law_438 : decode cL_law 438 = .ok (.i2l, 1) := by decide +kernel
theorem dL_law_439 : decode cL_law 439 = .ok (.lcmp, 1) := by decide +kernel
theorem dL_law_440 : decode cL_law 440 = .ok (.ifCond .eq 5, 3) := by decide +kernel
theorem dL_law_443 : decode cL_law 443 = .ok (.iconst 0, 1) := by decide +kernel
theorem dL_law_444 : decode cL_law 444 = .ok (.ireturn, 1) := by decide +kernel
theorem dL_law_445 : decode cL_law 445 = .ok (.goto 672, 3) := by decide +kernel
theorem dL_law_448 : decode cL_law 448 = .ok (.aload_n 1, 1) := by decide +kernel
theorem dL_law_449 : decode cL_law 449 = .ok (.aload_n 0, 1) := by decide +kernel
theorem dL_law_450 : decode cL_law 450 = .ok (.iload 4, 2) := by decide +kernel
theorem dL_law_452 : decode cL_law 452 = .ok (.iconst 1, 1) := by decide +kernel
theorem dL_law_453 : decode cL_law 453 = .ok (.iadd, 1) := by decide +kernel
theorem dL_law_454 : decode cL_law 454 = .ok (.iaload, 1) := by decide +kernel
theorem dL_law_455 : decode cL_law 455 = .ok (.invokestatic 119, 3) := by decide +kernel
theorem dL_law_458 : decode cL_law 458 = .ok (.istore 5, 2) := by decide +kernel
theorem dL_law_460 : decode cL_law 460 = .ok (.aload_n 2, 1) := by decide +kernel
theorem dL_law_461 : decode cL_law 461 = .ok (.aload_n 0, 1) := by decide +kernel
theorem dL_law_462 : decode cL_law 462 = .ok (.iload 4, 2) := by decide +kernel
theorem dL_law_464 : decode cL_law 464 = .ok (.iconst 1, 1) := by decide +kernel
theorem dL_law_465 : decode cL_law 465 = .ok (.iadd, 1) := by decide +kernel
theorem dL_law_466 : decode cL_law 466 = .ok (.iaload, 1) := by decide +kernel
theorem dL_law_467 : decode cL_law 467 = .ok (.invokevirtual 122, 3) := by decide +kernel
theorem dL_law_470 : decode cL_law 470 = .ok (.aload_n 2, 1) := by decide +kernel
theorem dL_law_471 : decode cL_law 471 = .ok (.invokevirtual 94, 3) := by decide +kernel
theorem dL_law_474 : decode cL_law 474 = .ok (.iload 5, 2) := by decide +kernel
theorem dL_law_476 : decode cL_law 476 = .ok (.if_icmp .eq 5, 3) := by decide +kernel
theorem dL_law_479 : decode cL_law 479 = .ok (.iconst 0, 1) := by decide +kernel
theorem dL_law_480 : decode cL_law 480 = .ok (.ireturn, 1) := by decide +kernel
theorem dL_law_481 : decode cL_law 481 = .ok (.goto 636, 3) := by decide +kernel
theorem dL_law_484 : decode cL_law 484 = .ok (.aload_n 1, 1) := by decide +kernel
theorem dL_law_485 : decode cL_law 485 = .ok (.aload_n 0, 1) := by decide +kernel
theorem dL_law_486 : decode cL_law 486 = .ok (.iload 4, 2) := by decide +kernel
theorem dL_law_488 : decode cL_law 488 = .ok (.iconst 1, 1) := by decide +kernel
theorem dL_law_489 : decode cL_law 489 = .ok (.iadd, 1) := by decide +kernel
theorem dL_law_490 : decode cL_law 490 = .ok (.iaload, 1) := by decide +kernel
theorem dL_law_491 : decode cL_law 491 = .ok (.aload_n 0, 1) := by decide +kernel
theorem dL_law_492 : decode cL_law 492 = .ok (.iload 4, 2) := by decide +kernel
theorem dL_law_494 : decode cL_law 494 = .ok (.iconst 2, 1) := by decide +kernel
theorem dL_law_495 : decode cL_law 495 = .ok (.iadd, 1) := by decide +kernel
theorem dL_law_496 : decode cL_law 496 = .ok (.iaload, 1) := by decide +kernel
theorem dL_law_497 : decode cL_law 497 = .ok (.ifCond .eq 7, 3) := by decide +kernel
theorem dL_law_500 : decode cL_law 500 = .ok (.iconst 1, 1) := by decide +kernel
theorem dL_law_501 : decode cL_law 501 = .ok (.goto 4, 3) := by decide +kernel
theorem dL_law_504 : decode cL_law 504 = .ok (.iconst 0, 1) := by decide +kernel
theorem dL_law_505 : decode cL_law 505 = .ok (.invokestatic 123, 3) := by decide +kernel
theorem dL_law_508 : decode cL_law 508 = .ok (.istore 5, 2) := by decide +kernel
theorem dL_law_510 : decode cL_law 510 = .ok (.aload_n 2, 1) := by decide +kernel
theorem dL_law_511 : decode cL_law 511 = .ok (.aload_n 0, 1) := by decide +kernel
theorem dL_law_512 : decode cL_law 512 = .ok (.iload 4, 2) := by decide +kernel
theorem dL_law_514 : decode cL_law 514 = .ok (.iconst 1, 1) := by decide +kernel
theorem dL_law_515 : decode cL_law 515 = .ok (.iadd, 1) := by decide +kernel
theorem dL_law_516 : decode cL_law 516 = .ok (.iaload, 1) := by decide +kernel
theorem dL_law_517 : decode cL_law 517 = .ok (.aload_n 0, 1) := by decide +kernel
theorem dL_law_518 : decode cL_law 518 = .ok (.iload 4, 2) := by decide +kernel
theorem dL_law_520 : decode cL_law 520 = .ok (.iconst 2, 1) := by decide +kernel
theorem dL_law_521 : decode cL_law 521 = .ok (.iadd, 1) := by decide +kernel
theorem dL_law_522 : decode cL_law 522 = .ok (.iaload, 1) := by decide +kernel
theorem dL_law_523 : decode cL_law 523 = .ok (.ifCond .eq 7, 3) := by decide +kernel
theorem dL_law_526 : decode cL_law 526 = .ok (.iconst 1, 1) := by decide +kernel
theorem dL_law_527 : decode cL_law 527 = .ok (.goto 4, 3) := by decide +kernel
theorem dL_law_530 : decode cL_law 530 = .ok (.iconst 0, 1) := by decide +kernel
theorem dL_law_531 : decode cL_law 531 = .ok (.invokevirtual 126, 3) := by decide +kernel
theorem dL_law_534 : decode cL_law 534 = .ok (.aload_n 2, 1) := by decide +kernel
theorem dL_law_535 : decode cL_law 535 = .ok (.invokevirtual 94, 3) := by decide +kernel
theorem dL_law_538 : decode cL_law 538 = .ok (.iload 5, 2) := by decide +kernel
theorem dL_law_540 : decode cL_law 540 = .ok (.if_icmp .eq 5, 3) := by decide +kernel
theorem dL_law_543 : decode cL_law 543 = .ok (.iconst 0, 1) := by decide +kernel
theorem dL_law_544 : decode cL_law 544 = .ok (.ireturn, 1) := by decide +kernel
theorem dL_law_545 : decode cL_law 545 = .ok (.goto 572, 3) := by decide +kernel
theorem dL_law_548 : decode cL_law 548 = .ok (.aload_n 1, 1) := by decide +kernel
theorem dL_law_549 : decode cL_law 549 = .ok (.invokestatic 127, 3) := by decide +kernel
theorem dL_law_552 : decode cL_law 552 = .ok (.istore 5, 2) := by decide +kernel
theorem dL_law_554 : decode cL_law 554 = .ok (.aload_n 2, 1) := by decide +kernel
theorem dL_law_555 : decode cL_law 555 = .ok (.invokevirtual 129, 3) := by decide +kernel
theorem dL_law_558 : decode cL_law 558 = .ok (.aload_n 2, 1) := by decide +kernel
theorem dL_law_559 : decode cL_law 559 = .ok (.invokevirtual 94, 3) := by decide +kernel
theorem dL_law_562 : decode cL_law 562 = .ok (.iload 5, 2) := by decide +kernel
theorem dL_law_564 : decode cL_law 564 = .ok (.if_icmp .eq 5, 3) := by decide +kernel
theorem dL_law_567 : decode cL_law 567 = .ok (.iconst 0, 1) := by decide +kernel
theorem dL_law_568 : decode cL_law 568 = .ok (.ireturn, 1) := by decide +kernel
theorem dL_law_569 : decode cL_law 569 = .ok (.goto 548, 3) := by decide +kernel
theorem dL_law_572 : decode cL_law 572 = .ok (.aload_n 1, 1) := by decide +kernel
theorem dL_law_573 : decode cL_law 573 = .ok (.aload_n 0, 1) := by decide +kernel
theorem dL_law_574 : decode cL_law 574 = .ok (.iload 4, 2) := by decide +kernel
theorem dL_law_576 : decode cL_law 576 = .ok (.iconst 1, 1) := by decide +kernel
theorem dL_law_577 : decode cL_law 577 = .ok (.iadd, 1) := by decide +kernel
theorem dL_law_578 : decode cL_law 578 = .ok (.iaload, 1) := by decide +kernel
theorem dL_law_579 : decode cL_law 579 = .ok (.invokestatic 130, 3) := by decide +kernel
theorem dL_law_582 : decode cL_law 582 = .ok (.istore 5, 2) := by decide +kernel
theorem dL_law_584 : decode cL_law 584 = .ok (.aload_n 2, 1) := by decide +kernel
theorem dL_law_585 : decode cL_law 585 = .ok (.aload_n 0, 1) := by decide +kernel
theorem dL_law_586 : decode cL_law 586 = .ok (.iload 4, 2) := by decide +kernel
theorem dL_law_588 : decode cL_law 588 = .ok (.iconst 1, 1) := by decide +kernel
theorem dL_law_589 : decode cL_law 589 = .ok (.iadd, 1) := by decide +kernel
theorem dL_law_590 : decode cL_law 590 = .ok (.iaload, 1) := by decide +kernel
theorem dL_law_591 : decode cL_law 591 = .ok (.invokevirtual 132, 3) := by decide +kernel
theorem dL_law_594 : decode cL_law 594 = .ok (.aload_n 2, 1) := by decide +kernel
theorem dL_law_595 : decode cL_law 595 = .ok (.invokevirtual 94, 3) := by decide +kernel
theorem dL_law_598 : decode cL_law 598 = .ok (.iload 5, 2) := by decide +kernel
theorem dL_law_600 : decode cL_law 600 = .ok (.if_icmp .eq 5, 3) := by decide +kernel
theorem dL_law_603 : decode cL_law 603 = .ok (.iconst 0, 1) := by decide +kernel
theorem dL_law_604 : decode cL_law 604 = .ok (.ireturn, 1) := by decide +kernel
theorem dL_law_605 : decode cL_law 605 = .ok (.goto 512, 3) := by decide +kernel
theorem dL_law_608 : decode cL_law 608 = .ok (.aload_n 1, 1) := by decide +kernel
theorem dL_law_609 : decode cL_law 609 = .ok (.aload_n 0, 1) := by decide +kernel
theorem dL_law_610 : decode cL_law 610 = .ok (.iload 4, 2) := by decide +kernel
theorem dL_law_612 : decode cL_law 612 = .ok (.iconst 1, 1) := by decide +kernel
theorem dL_law_613 : decode cL_law 613 = .ok (.iadd, 1) := by decide +kernel
theorem dL_law_614 : decode cL_law 614 = .ok (.iaload, 1) := by decide +kernel
theorem dL_law_615 : decode cL_law 615 = .ok (.invokestatic 133, 3) := by decide +kernel
theorem dL_law_618 : decode cL_law 618 = .ok (.istore 5, 2) := by decide +kernel
theorem dL_law_620 : decode cL_law 620 = .ok (.aload_n 2, 1) := by decide +kernel
theorem dL_law_621 : decode cL_law 621 = .ok (.aload_n 0, 1) := by decide +kernel
theorem dL_law_622 : decode cL_law 622 = .ok (.iload 4, 2) := by decide +kernel
theorem dL_law_624 : decode cL_law 624 = .ok (.iconst 1, 1) := by decide +kernel
theorem dL_law_625 : decode cL_law 625 = .ok (.iadd, 1) := by decide +kernel
theorem dL_law_626 : decode cL_law 626 = .ok (.iaload, 1) := by decide +kernel
theorem dL_law_627 : decode cL_law 627 = .ok (.invokevirtual 135, 3) := by decide +kernel
theorem dL_law_630 : decode cL_law 630 = .ok (.aload_n 2, 1) := by decide +kernel
theorem dL_law_631 : decode cL_law 631 = .ok (.invokevirtual 94, 3) := by decide +kernel
theorem dL_law_634 : decode cL_law 634 = .ok (.iload 5, 2) := by decide +kernel
theorem dL_law_636 : decode cL_law 636 = .ok (.if_icmp .eq 5, 3) := by decide +kernel
theorem dL_law_639 : decode cL_law 639 = .ok (.iconst 0, 1) := by decide +kernel
theorem dL_law_640 : decode cL_law 640 = .ok (.ireturn, 1) := by decide +kernel
theorem dL_law_641 : decode cL_law 641 = .ok (.goto 476, 3) := by decide +kernel
theorem dL_law_644 : decode cL_law 644 = .ok (.aload_n 1, 1) := by decide +kernel
theorem dL_law_645 : decode cL_law 645 = .ok (.invokestatic 136, 3) := by decide +kernel
theorem dL_law_648 : decode cL_law 648 = .ok (.istore 5, 2) := by decide +kernel
theorem dL_law_650 : decode cL_law 650 = .ok (.aload_n 2, 1) := by decide +kernel
theorem dL_law_651 : decode cL_law 651 = .ok (.invokevirtual 138, 3) := by decide +kernel
theorem dL_law_654 : decode cL_law 654 = .ok (.aload_n 2, 1) := by decide +kernel
theorem dL_law_655 : decode cL_law 655 = .ok (.invokevirtual 94, 3) := by decide +kernel
theorem dL_law_658 : decode cL_law 658 = .ok (.iload 5, 2) := by decide +kernel
theorem dL_law_660 : decode cL_law 660 = .ok (.if_icmp .eq 5, 3) := by decide +kernel
theorem dL_law_663 : decode cL_law 663 = .ok (.iconst 0, 1) := by decide +kernel
theorem dL_law_664 : decode cL_law 664 = .ok (.ireturn, 1) := by decide +kernel
theorem dL_law_665 : decode cL_law 665 = .ok (.goto 452, 3) := by decide +kernel
theorem dL_law_668 : decode cL_law 668 = .ok (.aload_n 1, 1) := by decide +kernel
theorem dL_law_669 : decode cL_law 669 = .ok (.aload_n 0, 1) := by decide +kernel
theorem dL_law_670 : decode cL_law 670 = .ok (.iload 4, 2) := by decide +kernel
theorem dL_law_672 : decode cL_law 672 = .ok (.iconst 1, 1) := by decide +kernel
theorem dL_law_673 : decode cL_law 673 = .ok (.iadd, 1) := by decide +kernel
theorem dL_law_674 : decode cL_law 674 = .ok (.iaload, 1) := by decide +kernel
theorem dL_law_675 : decode cL_law 675 = .ok (.invokestatic 139, 3) := by decide +kernel
theorem dL_law_678 : decode cL_law 678 = .ok (.istore 5, 2) := by decide +kernel
theorem dL_law_680 : decode cL_law 680 = .ok (.aload_n 2, 1) := by decide +kernel
theorem dL_law_681 : decode cL_law 681 = .ok (.aload_n 0, 1) := by decide +kernel
theorem dL_law_682 : decode cL_law 682 = .ok (.iload 4, 2) := by decide +kernel
theorem dL_law_684 : decode cL_law 684 = .ok (.iconst 1, 1) := by decide +kernel
theorem dL_law_685 : decode cL_law 685 = .ok (.iadd, 1) := by decide +kernel
theorem dL_law_686 : decode cL_law 686 = .ok (.iaload, 1) := by decide +kernel
theorem dL_law_687 : decode cL_law 687 = .ok (.invokevirtual 141, 3) := by decide +kernel
theorem dL_law_690 : decode cL_law 690 = .ok (.aload_n 2, 1) := by decide +kernel
theorem dL_law_691 : decode cL_law 691 = .ok (.invokevirtual 94, 3) := by decide +kernel
theorem dL_law_694 : decode cL_law 694 = .ok (.iload 5, 2) := by decide +kernel
theorem dL_law_696 : decode cL_law 696 = .ok (.if_icmp .eq 5, 3) := by decide +kernel
theorem dL_law_699 : decode cL_law 699 = .ok (.iconst 0, 1) := by decide +kernel
theorem dL_law_700 : decode cL_law 700 = .ok (.ireturn, 1) := by decide +kernel
theorem dL_law_701 : decode cL_law 701 = .ok (.goto 416, 3) := by decide +kernel
theorem dL_law_704 : decode cL_law 704 = .ok (.aload_n 1, 1) := by decide +kernel
theorem dL_law_705 : decode cL_law 705 = .ok (.invokestatic 142, 3) := by decide +kernel
theorem dL_law_708 : decode cL_law 708 = .ok (.istore 5, 2) := by decide +kernel
theorem dL_law_710 : decode cL_law 710 = .ok (.aload_n 2, 1) := by decide +kernel
theorem dL_law_711 : decode cL_law 711 = .ok (.invokevirtual 144, 3) := by decide +kernel
theorem dL_law_714 : decode cL_law 714 = .ok (.aload_n 2, 1) := by decide +kernel
theorem dL_law_715 : decode cL_law 715 = .ok (.invokevirtual 94, 3) := by decide +kernel
theorem dL_law_718 : decode cL_law 718 = .ok (.iload 5, 2) := by decide +kernel
theorem dL_law_720 : decode cL_law 720 = .ok (.if_icmp .eq 5, 3) := by decide +kernel
theorem dL_law_723 : decode cL_law 723 = .ok (.iconst 0, 1) := by decide +kernel
theorem dL_law_724 : decode cL_law 724 = .ok (.ireturn, 1) := by decide +kernel
theorem dL_law_725 : decode cL_law 725 = .ok (.goto 392, 3) := by decide +kernel
theorem dL_law_728 : decode cL_law 728 = .ok (.aload_n 1, 1) := by decide +kernel
theorem dL_law_729 : decode cL_law 729 = .ok (.aload_n 0, 1) := by decide +kernel
theorem dL_law_730 : decode cL_law 730 = .ok (.iload 4, 2) := by decide +kernel
theorem dL_law_732 : decode cL_law 732 = .ok (.iconst 1, 1) := by decide +kernel
theorem dL_law_733 : decode cL_law 733 = .ok (.iadd, 1) := by decide +kernel
theorem dL_law_734 : decode cL_law 734 = .ok (.iaload, 1) := by decide +kernel
theorem dL_law_735 : decode cL_law 735 = .ok (.aload_n 3, 1) := by decide +kernel
theorem dL_law_736 : decode cL_law 736 = .ok (.invokestatic 145, 3) := by decide +kernel
theorem dL_law_739 : decode cL_law 739 = .ok (.istore 5, 2) := by decide +kernel
theorem dL_law_741 : decode cL_law 741 = .ok (.aload_n 2, 1) := by decide +kernel
theorem dL_law_742 : decode cL_law 742 = .ok (.aload_n 0, 1) := by decide +kernel
theorem dL_law_743 : decode cL_law 743 = .ok (.iload 4, 2) := by decide +kernel
theorem dL_law_745 : decode cL_law 745 = .ok (.iconst 1, 1) := by decide +kernel
theorem dL_law_746 : decode cL_law 746 = .ok (.iadd, 1) := by decide +kernel
theorem dL_law_747 : decode cL_law 747 = .ok (.iaload, 1) := by decide +kernel
theorem dL_law_748 : decode cL_law 748 = .ok (.invokevirtual 148, 3) := by decide +kernel
theorem dL_law_751 : decode cL_law 751 = .ok (.istore 6, 2) := by decide +kernel
theorem dL_law_753 : decode cL_law 753 = .ok (.aload_n 2, 1) := by decide +kernel
theorem dL_law_754 : decode cL_law 754 = .ok (.invokevirtual 94, 3) := by decide +kernel
theorem dL_law_757 : decode cL_law 757 = .ok (.iload 5, 2) := by decide +kernel
theorem dL_law_759 : decode cL_law 759 = .ok (.if_icmp .eq 5, 3) := by decide +kernel
theorem dL_law_762 : decode cL_law 762 = .ok (.iconst 0, 1) := by decide +kernel
theorem dL_law_763 : decode cL_law 763 = .ok (.ireturn, 1) := by decide +kernel
theorem dL_law_764 : decode cL_law 764 = .ok (.iload 5, 2) := by decide +kernel
theorem dL_law_766 : decode cL_law 766 = .ok (.ifCond .ne 15, 3) := by decide +kernel
theorem dL_law_769 : decode cL_law 769 = .ok (.aload_n 3, 1) := by decide +kernel
theorem dL_law_770 : decode cL_law 770 = .ok (.iconst 0, 1) := by decide +kernel
theorem dL_law_771 : decode cL_law 771 = .ok (.laload, 1) := by decide +kernel
theorem dL_law_772 : decode cL_law 772 = .ok (.iload 6, 2) := by decide +kernel
theorem dL_law_774 : decode cL_law 774 = .ok (.i2l, 1) := by decide +kernel
theorem dL_law_775 : decode cL_law 775 = .ok (.lcmp, 1) := by decide +kernel
theorem dL_law_776 : decode cL_law 776 = .ok (.ifCond .eq 5, 3) := by decide +kernel
theorem dL_law_779 : decode cL_law 779 = .ok (.iconst 0, 1) := by decide +kernel
theorem dL_law_780 : decode cL_law 780 = .ok (.ireturn, 1) := by decide +kernel
theorem dL_law_781 : decode cL_law 781 = .ok (.goto 336, 3) := by decide +kernel
theorem dL_law_784 : decode cL_law 784 = .ok (.aload_n 1, 1) := by decide +kernel
theorem dL_law_785 : decode cL_law 785 = .ok (.aload_n 3, 1) := by decide +kernel
theorem dL_law_786 : decode cL_law 786 = .ok (.invokestatic 149, 3) := by decide +kernel
theorem dL_law_789 : decode cL_law 789 = .ok (.istore 5, 2) := by decide +kernel
theorem dL_law_791 : decode cL_law 791 = .ok (.aload_n 2, 1) := by decide +kernel
theorem dL_law_792 : decode cL_law 792 = .ok (.invokevirtual 152, 3) := by decide +kernel
theorem dL_law_795 : decode cL_law 795 = .ok (.istore 6, 2) := by decide +kernel
theorem dL_law_797 : decode cL_law 797 = .ok (.aload_n 2, 1) := by decide +kernel
theorem dL_law_798 : decode cL_law 798 = .ok (.invokevirtual 94, 3) := by decide +kernel
theorem dL_law_801 : decode cL_law 801 = .ok (.iload 5, 2) := by decide +kernel
theorem dL_law_803 : decode cL_law 803 = .ok (.if_icmp .eq 5, 3) := by decide +kernel
theorem dL_law_806 : decode cL_law 806 = .ok (.iconst 0, 1) := by decide +kernel
theorem dL_law_807 : decode cL_law 807 = .ok (.ireturn, 1) := by decide +kernel
theorem dL_law_808 : decode cL_law 808 = .ok (.iload 5, 2) := by decide +kernel
theorem dL_law_810 : decode cL_law 810 = .ok (.ifCond .ne 15, 3) := by decide +kernel
theorem dL_law_813 : decode cL_law 813 = .ok (.aload_n 3, 1) := by decide +kernel
theorem dL_law_814 : decode cL_law 814 = .ok (.iconst 0, 1) := by decide +kernel
theorem dL_law_815 : decode cL_law 815 = .ok (.laload, 1) := by decide +kernel
theorem dL_law_816 : decode cL_law 816 = .ok (.iload 6, 2) := by decide +kernel
theorem dL_law_818 : decode cL_law 818 = .ok (.i2l, 1) := by decide +kernel
theorem dL_law_819 : decode cL_law 819 = .ok (.lcmp, 1) := by decide +kernel
theorem dL_law_820 : decode cL_law 820 = .ok (.ifCond .eq 5, 3) := by decide +kernel
theorem dL_law_823 : decode cL_law 823 = .ok (.iconst 0, 1) := by decide +kernel
theorem dL_law_824 : decode cL_law 824 = .ok (.ireturn, 1) := by decide +kernel
theorem dL_law_825 : decode cL_law 825 = .ok (.goto 292, 3) := by decide +kernel
theorem dL_law_828 : decode cL_law 828 = .ok (.aload_n 1, 1) := by decide +kernel
theorem dL_law_829 : decode cL_law 829 = .ok (.aload_n 0, 1) := by decide +kernel
theorem dL_law_830 : decode cL_law 830 = .ok (.iload 4, 2) := by decide +kernel
theorem dL_law_832 : decode cL_law 832 = .ok (.iconst 1, 1) := by decide +kernel
theorem dL_law_833 : decode cL_law 833 = .ok (.iadd, 1) := by decide +kernel
theorem dL_law_834 : decode cL_law 834 = .ok (.iaload, 1) := by decide +kernel
theorem dL_law_835 : decode cL_law 835 = .ok (.aload_n 3, 1) := by decide +kernel
theorem dL_law_836 : decode cL_law 836 = .ok (.invokestatic 153, 3) := by decide +kernel
theorem dL_law_839 : decode cL_law 839 = .ok (.istore 5, 2) := by decide +kernel
theorem dL_law_841 : decode cL_law 841 = .ok (.aload_n 2, 1) := by decide +kernel
theorem dL_law_842 : decode cL_law 842 = .ok (.aload_n 0, 1) := by decide +kernel
theorem dL_law_843 : decode cL_law 843 = .ok (.iload 4, 2) := by decide +kernel
theorem dL_law_845 : decode cL_law 845 = .ok (.iconst 1, 1) := by decide +kernel
theorem dL_law_846 : decode cL_law 846 = .ok (.iadd, 1) := by decide +kernel
theorem dL_law_847 : decode cL_law 847 = .ok (.iaload, 1) := by decide +kernel
theorem dL_law_848 : decode cL_law 848 = .ok (.invokevirtual 155, 3) := by decide +kernel
theorem dL_law_851 : decode cL_law 851 = .ok (.istore 6, 2) := by decide +kernel
theorem dL_law_853 : decode cL_law 853 = .ok (.aload_n 2, 1) := by decide +kernel
theorem dL_law_854 : decode cL_law 854 = .ok (.invokevirtual 94, 3) := by decide +kernel
theorem dL_law_857 : decode cL_law 857 = .ok (.iload 5, 2) := by decide +kernel
theorem dL_law_859 : decode cL_law 859 = .ok (.if_icmp .eq 5, 3) := by decide +kernel
theorem dL_law_862 : decode cL_law 862 = .ok (.iconst 0, 1) := by decide +kernel
theorem dL_law_863 : decode cL_law 863 = .ok (.ireturn, 1) := by decide +kernel
theorem dL_law_864 : decode cL_law 864 = .ok (.iload 5, 2) := by decide +kernel
theorem dL_law_866 : decode cL_law 866 = .ok (.ifCond .ne 15, 3) := by decide +kernel
theorem dL_law_869 : decode cL_law 869 = .ok (.aload_n 3, 1) := by decide +kernel
theorem dL_law_870 : decode cL_law 870 = .ok (.iconst 0, 1) := by decide +kernel
theorem dL_law_871 : decode cL_law 871 = .ok (.laload, 1) := by decide +kernel
theorem dL_law_872 : decode cL_law 872 = .ok (.iload 6, 2) := by decide +kernel
theorem dL_law_874 : decode cL_law 874 = .ok (.i2l, 1) := by decide +kernel
theorem dL_law_875 : decode cL_law 875 = .ok (.lcmp, 1) := by decide +kernel
theorem dL_law_876 : decode cL_law 876 = .ok (.ifCond .eq 5, 3) := by decide +kernel
theorem dL_law_879 : decode cL_law 879 = .ok (.iconst 0, 1) := by decide +kernel
theorem dL_law_880 : decode cL_law 880 = .ok (.ireturn, 1) := by decide +kernel
theorem dL_law_881 : decode cL_law 881 = .ok (.goto 236, 3) := by decide +kernel
theorem dL_law_884 : decode cL_law 884 = .ok (.aload_n 1, 1) := by decide +kernel
theorem dL_law_885 : decode cL_law 885 = .ok (.aload_n 0, 1) := by decide +kernel
theorem dL_law_886 : decode cL_law 886 = .ok (.iload 4, 2) := by decide +kernel
theorem dL_law_888 : decode cL_law 888 = .ok (.iconst 1, 1) := by decide +kernel
theorem dL_law_889 : decode cL_law 889 = .ok (.iadd, 1) := by decide +kernel
theorem dL_law_890 : decode cL_law 890 = .ok (.iaload, 1) := by decide +kernel
theorem dL_law_891 : decode cL_law 891 = .ok (.aload_n 3, 1) := by decide +kernel
theorem dL_law_892 : decode cL_law 892 = .ok (.invokestatic 156, 3) := by decide +kernel
theorem dL_law_895 : decode cL_law 895 = .ok (.istore 5, 2) := by decide +kernel
theorem dL_law_897 : decode cL_law 897 = .ok (.aload_n 2, 1) := by decide +kernel
theorem dL_law_898 : decode cL_law 898 = .ok (.aload_n 0, 1) := by decide +kernel
theorem dL_law_899 : decode cL_law 899 = .ok (.iload 4, 2) := by decide +kernel
theorem dL_law_901 : decode cL_law 901 = .ok (.iconst 1, 1) := by decide +kernel
theorem dL_law_902 : decode cL_law 902 = .ok (.iadd, 1) := by decide +kernel
theorem dL_law_903 : decode cL_law 903 = .ok (.iaload, 1) := by decide +kernel
theorem dL_law_904 : decode cL_law 904 = .ok (.invokevirtual 158, 3) := by decide +kernel
theorem dL_law_907 : decode cL_law 907 = .ok (.istore 6, 2) := by decide +kernel
theorem dL_law_909 : decode cL_law 909 = .ok (.aload_n 2, 1) := by decide +kernel
theorem dL_law_910 : decode cL_law 910 = .ok (.invokevirtual 94, 3) := by decide +kernel
theorem dL_law_913 : decode cL_law 913 = .ok (.iload 5, 2) := by decide +kernel
theorem dL_law_915 : decode cL_law 915 = .ok (.if_icmp .eq 5, 3) := by decide +kernel
theorem dL_law_918 : decode cL_law 918 = .ok (.iconst 0, 1) := by decide +kernel
theorem dL_law_919 : decode cL_law 919 = .ok (.ireturn, 1) := by decide +kernel
theorem dL_law_920 : decode cL_law 920 = .ok (.iload 5, 2) := by decide +kernel
theorem dL_law_922 : decode cL_law 922 = .ok (.ifCond .ne 22, 3) := by decide +kernel
theorem dL_law_925 : decode cL_law 925 = .ok (.aload_n 3, 1) := by decide +kernel
theorem dL_law_926 : decode cL_law 926 = .ok (.iconst 0, 1) := by decide +kernel
theorem dL_law_927 : decode cL_law 927 = .ok (.laload, 1) := by decide +kernel
theorem dL_law_928 : decode cL_law 928 = .ok (.iload 6, 2) := by decide +kernel
theorem dL_law_930 : decode cL_law 930 = .ok (.ifCond .eq 7, 3) := by decide +kernel
theorem dL_law_933 : decode cL_law 933 = .ok (.lconst 1, 1) := by decide +kernel
theorem dL_law_934 : decode cL_law 934 = .ok (.goto 4, 3) := by decide +kernel
theorem dL_law_937 : decode cL_law 937 = .ok (.lconst 0, 1) := by decide +kernel
theorem dL_law_938 : decode cL_law 938 = .ok (.lcmp, 1) := by decide +kernel
theorem dL_law_939 : decode cL_law 939 = .ok (.ifCond .eq 5, 3) := by decide +kernel
theorem dL_law_942 : decode cL_law 942 = .ok (.iconst 0, 1) := by decide +kernel
theorem dL_law_943 : decode cL_law 943 = .ok (.ireturn, 1) := by decide +kernel
theorem dL_law_944 : decode cL_law 944 = .ok (.goto 173, 3) := by decide +kernel
theorem dL_law_947 : decode cL_law 947 = .ok (.aload_n 1, 1) := by decide +kernel
theorem dL_law_948 : decode cL_law 948 = .ok (.invokevirtual 159, 3) := by decide +kernel
theorem dL_law_951 : decode cL_law 951 = .ok (.aload_n 2, 1) := by decide +kernel
theorem dL_law_952 : decode cL_law 952 = .ok (.invokevirtual 162, 3) := by decide +kernel
theorem dL_law_955 : decode cL_law 955 = .ok (.if_icmp .eq 162, 3) := by decide +kernel
theorem dL_law_958 : decode cL_law 958 = .ok (.iconst 0, 1) := by decide +kernel
theorem dL_law_959 : decode cL_law 959 = .ok (.ireturn, 1) := by decide +kernel
theorem dL_law_960 : decode cL_law 960 = .ok (.aload_n 1, 1) := by decide +kernel
theorem dL_law_961 : decode cL_law 961 = .ok (.aload_n 3, 1) := by decide +kernel
theorem dL_law_962 : decode cL_law 962 = .ok (.invokestatic 163, 3) := by decide +kernel
theorem dL_law_965 : decode cL_law 965 = .ok (.istore 5, 2) := by decide +kernel
theorem dL_law_967 : decode cL_law 967 = .ok (.aload_n 2, 1) := by decide +kernel
theorem dL_law_968 : decode cL_law 968 = .ok (.invokevirtual 165, 3) := by decide +kernel
theorem dL_law_971 : decode cL_law 971 = .ok (.istore 6, 2) := by decide +kernel
theorem dL_law_973 : decode cL_law 973 = .ok (.aload_n 2, 1) := by decide +kernel
theorem dL_law_974 : decode cL_law 974 = .ok (.invokevirtual 94, 3) := by decide +kernel
theorem dL_law_977 : decode cL_law 977 = .ok (.iload 5, 2) := by decide +kernel
theorem dL_law_979 : decode cL_law 979 = .ok (.if_icmp .eq 5, 3) := by decide +kernel
theorem dL_law_982 : decode cL_law 982 = .ok (.iconst 0, 1) := by decide +kernel
theorem dL_law_983 : decode cL_law 983 = .ok (.ireturn, 1) := by decide +kernel
theorem dL_law_984 : decode cL_law 984 = .ok (.iload 5, 2) := by decide +kernel
theorem dL_law_986 : decode cL_law 986 = .ok (.ifCond .ne 15, 3) := by decide +kernel
theorem dL_law_989 : decode cL_law 989 = .ok (.aload_n 3, 1) := by decide +kernel
theorem dL_law_990 : decode cL_law 990 = .ok (.iconst 0, 1) := by decide +kernel
theorem dL_law_991 : decode cL_law 991 = .ok (.laload, 1) := by decide +kernel
theorem dL_law_992 : decode cL_law 992 = .ok (.iload 6, 2) := by decide +kernel
theorem dL_law_994 : decode cL_law 994 = .ok (.i2l, 1) := by decide +kernel
theorem dL_law_995 : decode cL_law 995 = .ok (.lcmp, 1) := by decide +kernel
theorem dL_law_996 : decode cL_law 996 = .ok (.ifCond .eq 5, 3) := by decide +kernel
theorem dL_law_999 : decode cL_law 999 = .ok (.iconst 0, 1) := by decide +kernel
theorem dL_law_1000 : decode cL_law 1000 = .ok (.ireturn, 1) := by decide +kernel
theorem dL_law_1001 : decode cL_law 1001 = .ok (.goto 116, 3) := by decide +kernel
theorem dL_law_1004 : decode cL_law 1004 = .ok (.aload_n 1, 1) := by decide +kernel
theorem dL_law_1005 : decode cL_law 1005 = .ok (.invokevirtual 166, 3) := by decide +kernel
theorem dL_law_1008 : decode cL_law 1008 = .ok (.aload_n 2, 1) := by decide +kernel
theorem dL_law_1009 : decode cL_law 1009 = .ok (.invokevirtual 169, 3) := by decide +kernel
theorem dL_law_1012 : decode cL_law 1012 = .ok (.if_icmp .eq 105, 3) := by decide +kernel
theorem dL_law_1015 : decode cL_law 1015 = .ok (.iconst 0, 1) := by decide +kernel
theorem dL_law_1016 : decode cL_law 1016 = .ok (.ireturn, 1) := by decide +kernel
theorem dL_law_1017 : decode cL_law 1017 = .ok (.aload_n 1, 1) := by decide +kernel
theorem dL_law_1018 : decode cL_law 1018 = .ok (.aload_n 3, 1) := by decide +kernel
theorem dL_law_1019 : decode cL_law 1019 = .ok (.invokestatic 170, 3) := by decide +kernel
theorem dL_law_1022 : decode cL_law 1022 = .ok (.istore 5, 2) := by decide +kernel
theorem dL_law_1024 : decode cL_law 1024 = .ok (.aload_n 2, 1) := by decide +kernel
theorem dL_law_1025 : decode cL_law 1025 = .ok (.invokevirtual 172, 3) := by decide +kernel
theorem dL_law_1028 : decode cL_law 1028 = .ok (.istore 6, 2) := by decide +kernel
theorem dL_law_1030 : decode cL_law 1030 = .ok (.aload_n 2, 1) := by decide +kernel
theorem dL_law_1031 : decode cL_law 1031 = .ok (.invokevirtual 94, 3) := by decide +kernel
theorem dL_law_1034 : decode cL_law 1034 = .ok (.iload 5, 2) := by decide +kernel
theorem dL_law_1036 : decode cL_law 1036 = .ok (.if_icmp .eq 5, 3) := by decide +kernel
theorem dL_law_1039 : decode cL_law 1039 = .ok (.iconst 0, 1) := by decide +kernel
theorem dL_law_1040 : decode cL_law 1040 = .ok (.ireturn, 1) := by decide +kernel
theorem dL_law_1041 : decode cL_law 1041 = .ok (.iload 5, 2) := by decide +kernel
theorem dL_law_1043 : decode cL_law 1043 = .ok (.ifCond .ne 15, 3) := by decide +kernel
theorem dL_law_1046 : decode cL_law 1046 = .ok (.aload_n 3, 1) := by decide +kernel
theorem dL_law_1047 : decode cL_law 1047 = .ok (.iconst 0, 1) := by decide +kernel
theorem dL_law_1048 : decode cL_law 1048 = .ok (.laload, 1) := by decide +kernel
theorem dL_law_1049 : decode cL_law 1049 = .ok (.iload 6, 2) := by decide +kernel
theorem dL_law_1051 : decode cL_law 1051 = .ok (.i2l, 1) := by decide +kernel
theorem dL_law_1052 : decode cL_law 1052 = .ok (.lcmp, 1) := by decide +kernel
theorem dL_law_1053 : decode cL_law 1053 = .ok (.ifCond .eq 5, 3) := by decide +kernel
theorem dL_law_1056 : decode cL_law 1056 = .ok (.iconst 0, 1) := by decide +kernel
theorem dL_law_1057 : decode cL_law 1057 = .ok (.ireturn, 1) := by decide +kernel
theorem dL_law_1058 : decode cL_law 1058 = .ok (.goto 59, 3) := by decide +kernel
theorem dL_law_1061 : decode cL_law 1061 = .ok (.aload_n 1, 1) := by decide +kernel
theorem dL_law_1062 : decode cL_law 1062 = .ok (.aload_n 0, 1) := by decide +kernel
theorem dL_law_1063 : decode cL_law 1063 = .ok (.iload 4, 2) := by decide +kernel
theorem dL_law_1065 : decode cL_law 1065 = .ok (.iconst 1, 1) := by decide +kernel
theorem dL_law_1066 : decode cL_law 1066 = .ok (.iadd, 1) := by decide +kernel
theorem dL_law_1067 : decode cL_law 1067 = .ok (.iaload, 1) := by decide +kernel
theorem dL_law_1068 : decode cL_law 1068 = .ok (.aload_n 3, 1) := by decide +kernel
theorem dL_law_1069 : decode cL_law 1069 = .ok (.invokestatic 173, 3) := by decide +kernel
theorem dL_law_1072 : decode cL_law 1072 = .ok (.istore 5, 2) := by decide +kernel
theorem dL_law_1074 : decode cL_law 1074 = .ok (.aload_n 2, 1) := by decide +kernel
theorem dL_law_1075 : decode cL_law 1075 = .ok (.aload_n 0, 1) := by decide +kernel
theorem dL_law_1076 : decode cL_law 1076 = .ok (.iload 4, 2) := by decide +kernel
theorem dL_law_1078 : decode cL_law 1078 = .ok (.iconst 1, 1) := by decide +kernel
theorem dL_law_1079 : decode cL_law 1079 = .ok (.iadd, 1) := by decide +kernel
theorem dL_law_1080 : decode cL_law 1080 = .ok (.iaload, 1) := by decide +kernel
theorem dL_law_1081 : decode cL_law 1081 = .ok (.invokevirtual 175, 3) := by decide +kernel
theorem dL_law_1084 : decode cL_law 1084 = .ok (.istore 6, 2) := by decide +kernel
theorem dL_law_1086 : decode cL_law 1086 = .ok (.aload_n 2, 1) := by decide +kernel
theorem dL_law_1087 : decode cL_law 1087 = .ok (.invokevirtual 94, 3) := by decide +kernel
theorem dL_law_1090 : decode cL_law 1090 = .ok (.iload 5, 2) := by decide +kernel
theorem dL_law_1092 : decode cL_law 1092 = .ok (.if_icmp .eq 5, 3) := by decide +kernel
theorem dL_law_1095 : decode cL_law 1095 = .ok (.iconst 0, 1) := by decide +kernel
theorem dL_law_1096 : decode cL_law 1096 = .ok (.ireturn, 1) := by decide +kernel
theorem dL_law_1097 : decode cL_law 1097 = .ok (.iload 5, 2) := by decide +kernel
theorem dL_law_1099 : decode cL_law 1099 = .ok (.ifCond .ne 15, 3) := by decide +kernel
theorem dL_law_1102 : decode cL_law 1102 = .ok (.aload_n 3, 1) := by decide +kernel
theorem dL_law_1103 : decode cL_law 1103 = .ok (.iconst 0, 1) := by decide +kernel
theorem dL_law_1104 : decode cL_law 1104 = .ok (.laload, 1) := by decide +kernel
theorem dL_law_1105 : decode cL_law 1105 = .ok (.iload 6, 2) := by decide +kernel
theorem dL_law_1107 : decode cL_law 1107 = .ok (.i2l, 1) := by decide +kernel
theorem dL_law_1108 : decode cL_law 1108 = .ok (.lcmp, 1) := by decide +kernel
theorem dL_law_1109 : decode cL_law 1109 = .ok (.ifCond .eq 5, 3) := by decide +kernel
theorem dL_law_1112 : decode cL_law 1112 = .ok (.iconst 0, 1) := by decide +kernel
theorem dL_law_1113 : decode cL_law 1113 = .ok (.ireturn, 1) := by decide +kernel
theorem dL_law_1114 : decode cL_law 1114 = .ok (.goto 3, 3) := by decide +kernel
theorem dL_law_1117 : decode cL_law 1117 = .ok (.iinc 4 3, 3) := by decide +kernel
theorem dL_law_1120 : decode cL_law 1120 = .ok (.goto (-1097), 3) := by decide +kernel
theorem dL_law_1123 : decode cL_law 1123 = .ok (.iconst 1, 1) := by decide +kernel
theorem dL_law_1124 : decode cL_law 1124 = .ok (.ireturn, 1) := by decide +kernel
abbrev vwCl : List vw_C := [(RX0, TX0, 3), (RX1, TX1, 12), (RX2, TX2, 13)]
/-! ===== END printed: names ===== -/

abbrev nwInit : Cond := .methodLinkNest RX1 32 yX0_init RX1
abbrev nwGiven : Cond := .fieldLinkNest RX1 105 RX0 "given" "Z" RX1
abbrev nwBit : Cond := .methodLinkNest RX0 74 yX1_bit RX1
end
section
/-! ===== the ground of all contracts: the classes' numbers, the array classes, the words of nest mates ===== -/
/-- classes' ids and slots; the array classes: int, boolean, Constraint, long -/
abbrev Gt : Type := va_G × ClassId × ClassId × ClassId × ClassId
abbrev tyA (G : Gt) : List (ClassId × FieldType) := [(G.2.1, .int), (G.2.2.1, .boolean), (G.2.2.2.1, .object RX0), (G.2.2.2.2, .long)]
def ke (G : Gt) (U : State) : Prop := va_K G.1 vwCl (tyA G) U ∧ va_Nw nwInit U ∧ va_Nw nwGiven U ∧ va_Nw nwBit U
theorem ke.warm {G : Gt} {s U : State} (hW : s.WarmedH U.vm) (h : ke G s) : ke G U := ⟨va_K.moved hW.alike h.1, va_Nw.warmM hW h.2.1, va_Nw.warmF hW h.2.2.1, va_Nw.warmM hW h.2.2.2⟩
theorem ke.same {G : Gt} {s U : State} (hv : s.vm = U.vm) (h : ke G s) : ke G U := ⟨va_K.moved (by rw [hv]; exact Vm.Alike.refl _) h.1, va_Nw.same rfl hv h.2.1, va_Nw.same rfl hv h.2.2.1, va_Nw.same rfl hv h.2.2.2⟩
/-- a constraint, an int array -/
abbrev eC (w : Nat) (d g : Int32) : va_E := .inr (0, [.ref w, .int d, .int g])
abbrev eI (G : Gt) (n : Nat) (f : Nat → Int32) : va_E := .inl (G.2.1, n, .inl f)
abbrev eZ (G : Gt) (n : Nat) (f : Nat → Int32) : va_E := .inl (G.2.2.1, n, .inl f)
abbrev eR (G : Gt) (n : Nat) (f : Nat → Option Nat) : va_E := .inl (G.2.2.2.1, n, .inr (.inr (.inr (.inr f))))
abbrev eL (G : Gt) (n : Nat) (f : Nat → Int64) : va_E := .inl (G.2.2.2.2, n, .inr (.inl f))
/-! a method that only reads: its start (QcRead is its end) -/
def ro_P (G : Gt) (av : List Value) (ws : va_W) : Array Value → State → Prop := fun v U => v = av.toArray ∧ va_P G.1 vwCl ws U.heap ∧ ke G U
theorem ro_blind {G : Gt} {av : List Value} {ws : va_W} : FrameBlind (ro_P G av ws) := fun _ _ _ _ h => ⟨h.1, h.2.1, ke.same rfl h.2.2⟩
theorem ro_pre {G : Gt} {s : State} {H : Heap} {ws : va_W} (av : List Value) (hP : va_P G.1 vwCl ws H) (hK : ke G s) : ∀ U : State, U.heap = H → s.WarmedH U.vm → ro_P G av ws av.toArray U := fun U hU hW => ⟨rfl, by rw [hU]; exact hP, ke.warm hW hK⟩
/-! a method that writes in its world: its start and its end -/
def mu_P (G : Gt) (sz : Nat) (av : List Value) (ws : va_W) : Array Value → State → Prop := fun v U => v = av.toArray ∧ U.heap.size = sz ∧ va_P G.1 vwCl ws U.heap ∧ va_D (fun _ => True) ws ∧ ke G U
def mu_Q (G : Gt) (r : Option Value) (ws' : va_W) (A : Nat → Prop) : Array Value → State → Outcome → State → Prop := fun _ st oc t => oc = .returned r ∧ va_P G.1 vwCl ws' t.heap ∧ va_D A ws' ∧ va_F A st t
theorem mu_blind {G : Gt} {sz : Nat} {av : List Value} {ws : va_W} : FrameBlind (mu_P G sz av ws) := fun _ _ _ _ h => ⟨h.1, h.2.1, h.2.2.1, h.2.2.2.1, ke.same rfl h.2.2.2.2⟩
theorem mu_pre {G : Gt} {s : State} {H : Heap} {ws : va_W} {A : Nat → Prop} (av : List Value) (hP : va_P G.1 vwCl ws H) (hD : va_D A ws) (hK : ke G s) : ∀ U : State, U.heap = H → s.WarmedH U.vm → mu_P G H.size av ws av.toArray U := fun U hU hW => ⟨rfl, by rw [hU], by rw [hU]; exact hP, hD.weaken (fun _ _ _ _ => trivial), ke.warm hW hK⟩
section BaseCalls
variable {p : Program} {l : Launch} {e : Env} {R : Room} {s : State} {m : MethodId} {args : Array Value} {below : List Frame} {meth : Method} {c : Code} {H : Heap} {locs : List Loc} {cells slots : Nat} {Q : State → Prop}
variable {pc : Nat} {ls : Array Slot} {rest st0 : List Value} {a : Array Value} {A0 A1 : Nat → Prop} {H0 : Heap} {mc ms : Nat} {free : Addr → Prop}
/-- behind a call that only read -/
theorem ro_call {r : Int32} (hr : va_Run p l e R s m args below meth c H locs cells slots 0 0 (F0 m pc ls st0) rest (QcRead r a) (fun _ => False)) (kk : W p l e R s m args below meth c H locs cells slots Q (F0 m (pc + 3) ls (.int r :: rest))) : W p l e R s m args below meth c H locs cells slots Q (F0 m pc ls st0) := by
  intro T hT X
  obtain ⟨v, st₀, t, T', L, h0, X', hL, e1, e2, ⟨hv, hh⟩, st⟩ := hr T hT X
  cases hv
  obtain ⟨t2, a1, b1⟩ := kk T' (by rw [e1, hh, h0]) (Stand.forget X' (fun q h => (hL q h).elim))
  exact ⟨t2, st t2 a1, b1⟩
/-- behind a call that wrote in its world -/
theorem mu_call {G : Gt} {r : Option Value} {ws' : va_W} (hr : va_Run p l e R s m args below meth c H locs cells slots mc ms (F0 m pc ls st0) rest (mu_Q G r ws' A1 a) free) (hS : va_S A0 H0 H locs) (hA : ∀ q, A1 q → A0 q) (hf : ∀ q, free q → A0 q)
    (kk : ∀ (H1 : Heap) (locs1 : List Loc), va_P G.1 vwCl ws' H1 → va_D A1 ws' → (∀ q : Nat, q < H.size → ¬ A1 q → H1[q]? = H[q]?) → va_S A0 H0 H1 locs1 → W p l e R s m args below meth c H1 locs1 (cells + mc) (slots + ms) Q (F0 m (pc + 3) ls (r.toList ++ rest))) : W p l e R s m args below meth c H locs cells slots Q (F0 m pc ls st0) := by
  intro T hT X
  obtain ⟨v, st₀, t, T', L, h0, X', hL, e1, e2, ⟨hv, hp, hd, hz, hk⟩, st⟩ := hr T hT X
  cases hv
  rw [h0] at hz hk
  obtain ⟨t2, a1, b1⟩ := kk T'.heap (locs ++ L) (by rw [e1]; exact hp) hd (fun q h1 h2 => by rw [e1]; exact hk q h1 h2)
    ⟨Nat.le_trans hS.1 (by rw [e1]; exact hz), fun q h1 h2 => by rw [e1, hk q (Nat.lt_of_lt_of_le h1 hS.1) (fun z => h2 (hA q z))]; exact hS.2.1 q h1 h2, fun q hq => by
      rcases List.mem_append.mp hq with h | h
      · exact hS.2.2 q h
      · exact hf _ (hL q h)⟩ T' rfl X'
  exact ⟨t2, st t2 a1, b1⟩
end BaseCalls
/-- behind a call: in the caller's world the callee's cells (by their places) are those that came back, at the same addresses -/
theorem rp_join {G : Gt} {A0 : Nat → Prop} {ws wc w1 ws' : va_W} {H H1 : Heap} (hP : va_P G.1 vwCl ws H) (hD : va_D A0 ws) (is : List Nat) (hC : is.map (fun i => ws[i]?) = wc.map some) (hk : ∀ q : Nat, q < H.size → ¬ va_A wc H.size q → H1[q]? = H[q]?) (hP1 : va_P G.1 vwCl w1 H1)
    (hs : ∀ (k : Nat) (q : Nat × va_E), ws'[k]? = some q → (∃ j : Nat, w1[j]? = some q) ∨ (k ∉ is ∧ ws[k]? = some q)) (ha : ws'.map Prod.fst = ws.map Prod.fst) : va_P G.1 vwCl ws' H1 ∧ va_D A0 ws' := by
  refine ⟨fun k q hq => ?_, ?_, ?_⟩
  · rcases hs k q hq with ⟨j, hj⟩ | ⟨hn, hw⟩
    · exact hP1 j q hj
    · refine (hP k q hw).kept (hk q.1 (hP k q hw).lt (fun h => ?_))
      rcases h with ⟨k2, e, h⟩ | h
      · have h1 : (is.map (fun i => ws[i]?))[k2]? = some (some (q.1, e)) := by rw [hC, List.getElem?_map, h]; rfl
        rw [List.getElem?_map] at h1
        cases hi : is[k2]? with
        | none => rw [hi] at h1; cases h1
        | some i =>
          rw [hi] at h1
          have h2 := hD.1 k i q (q.1, e) hw (Option.some.inj h1) rfl
          subst h2
          exact hn (List.mem_of_getElem? hi)
      · have := (hP k q hw).lt
        omega
  · intro i j x y hi hj hxy
    have at' : ∀ (k : Nat) (q : Nat × va_E), ws'[k]? = some q → ∃ q0, ws[k]? = some q0 ∧ q0.1 = q.1 := by
      intro k q hq
      have h1 : (ws'.map Prod.fst)[k]? = some q.1 := by rw [List.getElem?_map, hq]; rfl
      rw [ha, List.getElem?_map] at h1
      cases h2 : ws[k]? with
      | none => rw [h2] at h1; cases h1
      | some q0 => rw [h2] at h1; exact ⟨q0, rfl, Option.some.inj h1⟩
    obtain ⟨x0, h1, h2⟩ := at' i x hi
    obtain ⟨y0, h3, h4⟩ := at' j y hj
    exact hD.1 i j x0 y0 h1 h3 (h2.trans (hxy.trans h4.symm))
  · intro k q hq
    have h1 : (ws'.map Prod.fst)[k]? = some q.1 := by rw [List.getElem?_map, hq]; rfl
    rw [ha, List.getElem?_map] at h1
    cases h2 : ws[k]? with
    | none => rw [h2] at h1; cases h1
    | some q0 =>
      rw [h2] at h1
      rw [← Option.some.inj h1]
      exact hD.2 k q0 h2
/-! ===== numbers ===== -/
abbrev absI (x : Int32) : Int32 := if 0 ≤ x then x else 0 - x
abbrev maxI (x y : Int32) : Int32 := if x < y then y else x
abbrev minI (x y : Int32) : Int32 := if y < x then y else x
def bI (b : Bool) : Int32 := if b = true then 1 else 0
theorem nar_bI (b : Bool) : narrow .boolean (.int (bI b)) = .int (bI b) := by cases b <;> rfl
theorem fit_bI (b : Bool) : fits .boolean (.int (bI b)) = true := by cases b <;> rfl
/-- a sum that begins with a -/
def sg (a : Int32) (g : Nat → Int32) : Nat → Int32
  | 0 => a
  | n + 1 => sg a g n + g n
/-- f, but the first n places as g has them -/
def mixf (n : Nat) (g f : Nat → Int32) : Nat → Int32 := fun j => if j < n then g j else f j
theorem mixf_0 (g f : Nat → Int32) : mixf 0 g f = f := by funext j; simp [mixf]
theorem mixf_s (n : Nat) (g f : Nat → Int32) : upd (mixf n g f) n (g n) = mixf (n + 1) g f := by
  funext j
  by_cases h : j = n
  · subst h; simp [upd, mixf]
  · have : (j < n + 1) = (j < n) := by apply propext; omega
    simp [upd, mixf, h, this]
theorem mixf_hi {n j : Nat} (g f : Nat → Int32) (h : n ≤ j) : mixf n g f j = f j := by simp [mixf, Nat.not_lt.mpr h]
theorem mixf_lo {n j : Nat} (g f : Nat → Int32) (h : j < n) : mixf n g f j = g j := by simp [mixf, h]
theorem lt_ix {i N : Nat} {x M : Int32} (hx : x = nI i) (hM : M = nI N) (hN : N < 2 ^ 31) (h : ¬ M ≤ x) (hi : i ≤ N) : i < N := by
  rcases Nat.lt_or_ge i N with q | q
  · exact q
  · exact absurd (by rw [hx, hM]; exact nI_le q (by omega)) h
theorem ge_ix {i N : Nat} {x M : Int32} (hx : x = nI i) (hM : M = nI N) (hN : N < 2 ^ 31) (h : M ≤ x) (hi : i ≤ N) : i = N := by
  rcases Nat.lt_or_ge i N with q | q
  · exact absurd (by rw [hx, hM] at h; exact h) (nI_ge q hN)
  · omega
def anyB (g : Nat → Bool) : Nat → Bool
  | 0 => false
  | n + 1 => anyB g n || g n
theorem anyB_true {g : Nat → Bool} {i : Nat} (h : g i = true) : ∀ n, i < n → anyB g n = true
  | 0, hn => absurd hn (Nat.not_lt_zero _)
  | n + 1, hn => by
    by_cases e : i = n
    · subst e; simp [anyB, h]
    · simp [anyB, anyB_true h n (by omega)]
def allB (g : Nat → Bool) : Nat → Bool
  | 0 => true
  | n + 1 => allB g n && g n
theorem allB_false {g : Nat → Bool} {i : Nat} (h : g i = false) : ∀ n, i < n → allB g n = false
  | 0, hn => absurd hn (Nat.not_lt_zero _)
  | n + 1, hn => by
    by_cases e : i = n
    · subst e; simp [allB, h]
    · simp [allB, allB_false h n (by omega)]
section BaseRows
variable {p : Program} {l : Launch} {e : Env} {R : Room} {s : State} {m : MethodId} {args : Array Value} {below : List Frame} {meth : Method} {c : Code} {H : Heap} {locs : List Loc} {cells slots : Nat} {Q : State → Prop}
variable {cc : ByteArray} {pc : Nat} {ls : Array Slot} {rest : List Value} {D : va_G} {cl : List vw_C} {A : Nat → Prop} {a : Nat} {tys : List (ClassId × FieldType)} {ws : va_W} {H0 : Heap}
/-- array rows whose index is a number -/
theorem ra_iald (hexec : p.tables.exec = Jvm.exec) (hb : c.code = cc) (hK : va_K D cl tys s) (hP : va_P D cl ws H) (q0 t0 : Nat) {cA : ClassId} {n : Nat} {f : Nat → Int32} (ha : ws[q0]? = some (a, .inl (cA, n, .inl f))) (ht : tys[t0]? = some (cA, .int)) {i : Int32} {v : Nat} (hi : i = nI v) (hv : v < n) (hn : n < 2 ^ 31) (hdg : decode cc pc = .ok (.iaload, 1))
    (kk : W p l e R s m args below meth c H locs cells slots Q (F0 m (pc + 1) ls (.int (f v) :: rest))) : W p l e R s m args below meth c H locs cells slots Q (F0 m pc ls (.int i :: .ref a :: rest)) := by
  subst hi
  exact va_iald hexec hb hK hP q0 t0 ha ht (vp_in_nI hv hn) hdg (by rw [nI_clamp (by omega)]; exact kk)
theorem ra_zald (hexec : p.tables.exec = Jvm.exec) (hb : c.code = cc) (hK : va_K D cl tys s) (hP : va_P D cl ws H) (q0 t0 : Nat) {cA : ClassId} {n : Nat} {f : Nat → Int32} (ha : ws[q0]? = some (a, .inl (cA, n, .inl f))) (ht : tys[t0]? = some (cA, .boolean)) {i : Int32} {v : Nat} (hi : i = nI v) (hv : v < n) (hn : n < 2 ^ 31) (hdg : decode cc pc = .ok (.baload, 1))
    (kk : W p l e R s m args below meth c H locs cells slots Q (F0 m (pc + 1) ls (.int (f v) :: rest))) : W p l e R s m args below meth c H locs cells slots Q (F0 m pc ls (.int i :: .ref a :: rest)) := by
  subst hi
  exact va_zald hexec hb hK hP q0 t0 ha ht (vp_in_nI hv hn) hdg (by rw [nI_clamp (by omega)]; exact kk)
theorem ra_iast (hexec : p.tables.exec = Jvm.exec) (hb : c.code = cc) (hK : va_K D cl tys s) (hP : va_P D cl ws H) (hD : va_D A ws) (hS : va_S A H0 H locs) (q0 t0 : Nat) {cA : ClassId} {n : Nat} {f : Nat → Int32} (ha : ws[q0]? = some (a, .inl (cA, n, .inl f))) (ht : tys[t0]? = some (cA, .int)) {i : Int32} {x : Int32} {v : Nat} (hi : i = nI v) (hv : v < n) (hn : n < 2 ^ 31) (hdg : decode cc pc = .ok (.iastore, 1))
    (kk : ∀ (H1 : Heap) (locs1 : List Loc), va_P D cl (ws.set q0 (a, .inl (cA, n, .inl (upd f v x)))) H1 → va_D A (ws.set q0 (a, .inl (cA, n, .inl (upd f v x)))) → va_S A H0 H1 locs1 → W p l e R s m args below meth c H1 locs1 cells slots Q (F0 m (pc + 1) ls rest)) : W p l e R s m args below meth c H locs cells slots Q (F0 m pc ls (.int x :: .int i :: .ref a :: rest)) := by
  subst hi
  exact va_iast hexec hb hK hP hD hS q0 t0 ha ht (vp_in_nI hv hn) hdg (by rw [nI_clamp (by omega)]; exact kk)
theorem ra_zast (hexec : p.tables.exec = Jvm.exec) (hb : c.code = cc) (hK : va_K D cl tys s) (hP : va_P D cl ws H) (hD : va_D A ws) (hS : va_S A H0 H locs) (q0 t0 : Nat) {cA : ClassId} {n : Nat} {f : Nat → Int32} (ha : ws[q0]? = some (a, .inl (cA, n, .inl f))) (ht : tys[t0]? = some (cA, .boolean)) {i : Int32} {x : Int32} {v : Nat} (hi : i = nI v) (hv : v < n) (hn : n < 2 ^ 31) (hnar : vp_nar .boolean x = x) (hdg : decode cc pc = .ok (.bastore, 1))
    (kk : ∀ (H1 : Heap) (locs1 : List Loc), va_P D cl (ws.set q0 (a, .inl (cA, n, .inl (upd f v x)))) H1 → va_D A (ws.set q0 (a, .inl (cA, n, .inl (upd f v x)))) → va_S A H0 H1 locs1 → W p l e R s m args below meth c H1 locs1 cells slots Q (F0 m (pc + 1) ls rest)) : W p l e R s m args below meth c H locs cells slots Q (F0 m pc ls (.int x :: .int i :: .ref a :: rest)) := by
  subst hi
  exact va_zast hexec hb hK hP hD hS q0 t0 ha ht (vp_in_nI hv hn) hdg (by rw [nI_clamp (by omega), hnar]; exact kk)
theorem ra_copy (hexec : p.tables.exec = Jvm.exec) (hb : c.code = cc) (hml : c.maxLocals = ls.size) {own : String} {index : Nat} (hown : s.vm.findClass own = some m.cls) (hlink : (Cond.methodLink own index arraycopyName).before args s = true) (hnat : (Cond.native arraycopyName).before args s = true) (hstat : (Cond.static arraycopyName).before args s = true) (hini : (Cond.initialized "java/lang/System").before args s = true)
    (hK : va_K D cl tys s) (hP : va_P D cl ws H) (hD : va_D A ws) (hS : va_S A H0 H locs) (q0 q1 t0 t1 : Nat) {a0 : Nat} {c0 c1 : ClassId} {n0 n1 : Nat} {f g : Nat → Int32} (ha0 : ws[q0]? = some (a0, .inl (c0, n0, .inl f))) (ha1 : ws[q1]? = some (a, .inl (c1, n1, .inl g))) (ht0 : tys[t0]? = some (c0, .int)) (ht1 : tys[t1]? = some (c1, .int))
    {n : Int32} {N : Nat} (hN : n = nI N) (hlt : N < 2 ^ 31) (h4 : N ≤ n0) (h5 : N ≤ n1) (hframes : 1 ≤ R.frames) (hlocals : (rest.map fun v => v.category).sum + (nativeFrameWords "java/lang/System" "arraycopy" 5 + 11) ≤ R.locals) (hdg : decode cc pc = .ok (.invokestatic index, 3))
    (kk : ∀ (H1 : Heap) (locs1 : List Loc), va_P D cl (ws.set q1 (a, .inl (c1, n1, .inl (va_cpy f g 0 0 N)))) H1 → va_D A (ws.set q1 (a, .inl (c1, n1, .inl (va_cpy f g 0 0 N)))) → va_S A H0 H1 locs1 → W p l e R s m args below meth c H1 locs1 cells slots Q (F0 m (pc + 3) ls rest)) : W p l e R s m args below meth c H locs cells slots Q (F0 m pc ls (.int n :: .int 0 :: .ref a :: .int 0 :: .ref a0 :: rest)) := by
  subst hN
  have e0 : (0 : Int32).toNatClampNeg = 0 := by decide
  have eN : (nI N).toNatClampNeg = N := nI_clamp hlt
  exact va_copyi hexec hb hml hown hlink hnat hstat hini hK hP hD hS q0 q1 t0 t1 ha0 ha1 ht0 ht1 rfl (by decide) (by decide) (nI_pos hlt) (by rw [e0, eN]; omega) (by rw [e0, eN]; omega) (fun _ _ => rfl) hframes hlocals hdg (by rw [e0, eN]; exact kk)
end BaseRows
theorem cpy_mix (f g : Nat → Int32) (N : Nat) : va_cpy f g 0 0 N = mixf N f g := by
  funext j
  simp [va_cpy, mixf]
end
section
/-! ===== what a constraint's methods answer ===== -/
def bitI (x v : Int32) : Int32 := (x >>> (v &&& 31)) &&& 1
def cntI (w : Int32) : Int32 := if 0 < w then 1 else 0
def oppI (a b : Int32) : Int32 := if (0 < a ∧ b < 0) ∨ (a < 0 ∧ 0 < b) then 1 else 0
def szs (f : Nat → Int32) : Int32 := sg 0 (fun v => absI (f v)) 10
def wod (f : Nat → Int32) (d x : Int32) : Int32 := if x = -1 then d else f x.toNatClampNeg
def tlI (f : Nat → Int32) (d : Int32) : Bool := anyB (fun v => decide (1000000 < absI (f v))) 10 || decide (1000000 < d)
def voidI (f : Nat → Int32) (d : Int32) : Int32 := if szs f < d then 1 else 0
/-- what variable v adds to the slack -/
def slT (f : Nat → Int32) (kn tr : Int32) (v : Nat) : Int32 := if bitI kn (nI v) = 0 ∨ bitI tr (nI v) = cntI (f v) then absI (f v) else 0
def slk (f : Nat → Int32) (d kn tr : Int32) : Int32 := sg (-d) (slT f kn tr) 10
def metI (f : Nat → Int32) (d x : Int32) : Int32 := if 0 ≤ slk f d 1023 x then 1 else 0
/-- what is forced, variable by variable -/
def fcT (f : Nat → Int32) (kn sl : Int32) (v : Nat) : Int32 := if bitI kn (nI v) = 0 ∧ sl < absI (f v) then (1024 + cntI (f v)) <<< (nI v &&& 31) else 0
def fcd (f : Nat → Int32) (d x : Int32) : Int32 := if slk f d (x / 1024) (x &&& 1023) < 0 then -1 else sg x (fcT f (x / 1024) (slk f d (x / 1024) (x &&& 1023))) 10
def quoI (n m : Int32) : Int32 := (n + m - 1) / m
theorem sg_s (a : Int32) (g : Nat → Int32) (n : Nat) : sg a g (n + 1) = sg a g n + g n := rfl
theorem add0 (x : Int32) : x = x + 0 := by simp
/-- a constraint after resize -/
def rsz (w x : Int32) : Int32 := if w < 0 then -x else x
/-! the normal form of 'the factors, at least b' -/
def nrW (fac : Nat → Int32) (sn : Int32) (v : Nat) : Int32 := sn * fac v
def nrT (fac : Nat → Int32) (sn : Int32) (v : Nat) : Int32 := if nrW fac sn v < 0 then absI (nrW fac sn v) else 0
def nrD (fac : Nat → Int32) (sn b : Int32) : Int32 := maxI (sg b (nrT fac sn) 10) 0
/-! the sum of two -/
def smT (f1 f2 : Nat → Int32) (v : Nat) : Int32 := if oppI (f1 v) (f2 v) = 0 then 0 else minI (absI (f1 v)) (absI (f2 v))
def sgm (a : Int32) (g : Nat → Int32) : Nat → Int32
  | 0 => a
  | n + 1 => sgm a g n - g n
theorem sub0 (x : Int32) : x = x - 0 := by simp
def smD (f1 f2 : Nat → Int32) (d1 d2 : Int32) : Int32 := maxI (sgm (d1 + d2) (smT f1 f2) 10) 0
end
section
abbrev rmX1_bit : Room := { frames := 0, cells := 0, slots := 0, locals := 0 }
set_option maxHeartbeats 4000000 in
set_option maxRecDepth 100000 in
theorem c_X1_bit (l : Launch) (G : Gt) (x y : Int32) : Met l yX1_bit wsX1_bit rmX1_bit (ro_P G [.int x, .int y] []) (QcRead (bitI x y)) 0 0 (fun _ => False) := by
  refine Met.ofW (cc := cX1_bit) (maxL := 2) (ret := (some .int)) (by decide) rfl ?_
  intro p e s m args below meth c s₁ B hml hv
  obtain ⟨rfl, hP, hK⟩ := hv
  have hx := B.exec
  have hb := B.bytes
  have hr := B.returns
  have hts := atoms_spec (ws := wsX1_bit) B.pre
  have hown : s.vm.findClass RX1 = some m.cls := findClass_of_methodNamed B.named
  have hlocks := B.notSynchronized
  have hl := lv_entry ([.int x, .int y]) (n := 2) (Nat.le_of_ble_eq_true rfl)
  rw [lg_entry_eq]
  generalize (lg_sl ([.int x, .int y]) ++ List.replicate (2 - (lg_sl ([.int x, .int y])).length) Slot.unset).toArray = ls at hl ⊢
  have hl : lv_has ls 2 [(0, .int x), (1, .int y)] := hl
  refine lv_iload_n hx hb dX1_bit_0 rfl (lv_at hl 0 rfl) ?_
  refine lv_iload_n hx hb dX1_bit_1 rfl (lv_at hl 1 rfl) ?_
  refine lv_ishr hx hb dX1_bit_2 ?_
  refine lv_iconst (v := 1) hx hb dX1_bit_3 (by decide) ?_
  refine lv_iand hx hb dX1_bit_4 ?_
  exact W.iret (v := (x >>> (y &&& 31)) &&& 1) hx hb hr (fun t ht hW => ⟨congrArg (fun z => Outcome.returned (some (Value.int z))) (rfl), ht⟩) (fun _ h => nomatch h) dX1_bit_5

abbrev rmX0_size : Room := { frames := 1, cells := 0, slots := 0, locals := 21 }
set_option maxHeartbeats 4000000 in
set_option maxRecDepth 100000 in
theorem c_X0_size (l : Launch) (G : Gt) (o w : Nat) (d g : Int32) (f : Nat → Int32) (x : Int32) (v : Nat) (ex : x = nI v) (hv : v < 10) : Met l yX0_size wsX0_size rmX0_size (ro_P G [.ref o, .int x] [(o, .inr (0, [.ref w, .int d, .int g])), (w, eI G 10 f)]) (QcRead (absI (f v))) 0 0 (fun _ => False) := by
  refine Met.ofW (cc := cX0_size) (maxL := 2) (ret := (some .int)) (by decide) rfl ?_
  intro p e s m args below meth c s₁ B hml hv
  obtain ⟨rfl, hP, hK⟩ := hv
  have hx := B.exec
  have hb := B.bytes
  have hr := B.returns
  have hts := atoms_spec (ws := wsX0_size) B.pre
  have hown : s.vm.findClass RX0 = some m.cls := findClass_of_methodNamed B.named
  have hlocks := B.notSynchronized
  have hinX0 : ∀ w ∈ u_ws RX0 TX0 3, w ∈ wsX0_size := fun w h => List.mem_cons_of_mem _ (List.mem_append_right _ h)
  have hw1 := hts (.fieldLink RX0 9 "ChoiceBoard$Constraint" "weights" "[I") (by decide +kernel)
  have hw2 := hts (.methodLink RX0 67 Lib.Math.abs.name) (by decide +kernel)
  have hw3 := hts (.static Lib.Math.abs.name) (by decide +kernel)
  have hw4 := hts (.initialized "java/lang/Math") (by decide +kernel)
  have hw5 := hts (.code Lib.Math.abs.name Lib.Math.abs.code 1 (some .int)) (by decide +kernel)
  have hl := lv_entry ([.ref o, .int x]) (n := 2) (Nat.le_of_ble_eq_true rfl)
  rw [lg_entry_eq]
  generalize (lg_sl ([.ref o, .int x]) ++ List.replicate (2 - (lg_sl ([.ref o, .int x])).length) Slot.unset).toArray = ls at hl ⊢
  have hl : lv_has ls 2 [(0, .ref o), (1, .int x)] := hl
  refine lv_aload_n hx hb dX0_size_0 rfl (lv_at hl 0 rfl) ?_
  refine va_get (D := G.1) (ci := 0) (v := .ref w) (C := RX0) (T := TX0) (N := 3) hx hb hts hinX0 hown hK.1 hP 0 rfl rfl 0 (by decide) hw1 (fun _ h9 => h9) rfl dX0_size_1 ?_
  refine lv_iload_n hx hb dX0_size_4 rfl (lv_at hl 1 rfl) ?_
  refine ra_iald (f := f) (v := v) hx hb hK.1 hP 1 0 rfl rfl ex (by omega) (by decide) dX0_size_5 ?_
  refine va_mabs hx hb (hml.trans hl.1.symm) hown hw2 hw3 hw4 hw5 (Nat.le_of_ble_eq_true rfl) (Nat.le_of_ble_eq_true rfl) (Nat.le_refl _) (Nat.le_refl _) dX0_size_6 ?_
  exact W.iret (v := absI (f v)) hx hb hr (fun t ht hW => ⟨congrArg (fun z => Outcome.returned (some (Value.int z))) (rfl), ht⟩) (fun _ h => nomatch h) dX0_size_9

abbrev rmX0_countedTruth : Room := { frames := 0, cells := 0, slots := 0, locals := 0 }
set_option maxHeartbeats 4000000 in
set_option maxRecDepth 100000 in
theorem c_X0_countedTruth (l : Launch) (G : Gt) (o w : Nat) (d g : Int32) (f : Nat → Int32) (x : Int32) (v : Nat) (ex : x = nI v) (hv : v < 10) : Met l yX0_countedTruth wsX0_countedTruth rmX0_countedTruth (ro_P G [.ref o, .int x] [(o, .inr (0, [.ref w, .int d, .int g])), (w, eI G 10 f)]) (QcRead (cntI (f v))) 0 0 (fun _ => False) := by
  refine Met.ofW (cc := cX0_countedTruth) (maxL := 2) (ret := (some .int)) (by decide) rfl ?_
  intro p e s m args below meth c s₁ B hml hv
  obtain ⟨rfl, hP, hK⟩ := hv
  have hx := B.exec
  have hb := B.bytes
  have hr := B.returns
  have hts := atoms_spec (ws := wsX0_countedTruth) B.pre
  have hown : s.vm.findClass RX0 = some m.cls := findClass_of_methodNamed B.named
  have hlocks := B.notSynchronized
  have hinX0 : ∀ w ∈ u_ws RX0 TX0 3, w ∈ wsX0_countedTruth := fun w h => List.mem_cons_of_mem _ (List.mem_append_right _ h)
  have hw1 := hts (.fieldLink RX0 9 "ChoiceBoard$Constraint" "weights" "[I") (by decide +kernel)
  have hl := lv_entry ([.ref o, .int x]) (n := 2) (Nat.le_of_ble_eq_true rfl)
  rw [lg_entry_eq]
  generalize (lg_sl ([.ref o, .int x]) ++ List.replicate (2 - (lg_sl ([.ref o, .int x])).length) Slot.unset).toArray = ls at hl ⊢
  have hl : lv_has ls 2 [(0, .ref o), (1, .int x)] := hl
  refine lv_aload_n hx hb dX0_countedTruth_0 rfl (lv_at hl 0 rfl) ?_
  refine va_get (D := G.1) (ci := 0) (v := .ref w) (C := RX0) (T := TX0) (N := 3) hx hb hts hinX0 hown hK.1 hP 0 rfl rfl 0 (by decide) hw1 (fun _ h9 => h9) rfl dX0_countedTruth_1 ?_
  refine lv_iload_n hx hb dX0_countedTruth_4 rfl (lv_at hl 1 rfl) ?_
  refine ra_iald (f := f) (v := v) hx hb hK.1 hP 1 0 rfl rfl ex (by omega) (by decide) dX0_countedTruth_5 ?_
  refine lv_if_le (tgt := 13) hx hb dX0_countedTruth_6 (by decide) (fun c_6 => ?_) (fun c_6 => ?_)
  · refine lv_iconst (v := 0) hx hb dX0_countedTruth_13 (by decide) ?_
    exact W.iret (v := 0) hx hb hr (fun t ht hW => ⟨congrArg (fun z => Outcome.returned (some (Value.int z))) (by first | simp [cntI, Int32.not_le.mp c_6] | simp [cntI, Int32.not_lt.mpr c_6]), ht⟩) (fun _ h => nomatch h) dX0_countedTruth_14
  · refine lv_iconst (v := 1) hx hb dX0_countedTruth_9 (by decide) ?_
    refine lv_goto (tgt := 14) hx hb dX0_countedTruth_10 (by decide) ?_
    exact W.iret (v := 1) hx hb hr (fun t ht hW => ⟨congrArg (fun z => Outcome.returned (some (Value.int z))) (by first | simp [cntI, Int32.not_le.mp c_6] | simp [cntI, Int32.not_lt.mpr c_6]), ht⟩) (fun _ h => nomatch h) dX0_countedTruth_14

abbrev rmX0_sizeOfAll : Room := { frames := 2, cells := 0, slots := 0, locals := 42 }
set_option maxHeartbeats 4000000 in
set_option maxRecDepth 100000 in
theorem c_X0_sizeOfAll (l : Launch) (G : Gt) (o w : Nat) (d g : Int32) (f : Nat → Int32) : Met l yX0_sizeOfAll wsX0_sizeOfAll rmX0_sizeOfAll (ro_P G [.ref o] [(o, .inr (0, [.ref w, .int d, .int g])), (w, eI G 10 f)]) (QcRead (szs f)) 0 0 (fun _ => False) := by
  refine Met.ofW (cc := cX0_sizeOfAll) (maxL := 3) (ret := (some .int)) (by decide) rfl ?_
  intro p e s m args below meth c s₁ B hml hv
  obtain ⟨rfl, hP, hK⟩ := hv
  have hx := B.exec
  have hb := B.bytes
  have hr := B.returns
  have hts := atoms_spec (ws := wsX0_sizeOfAll) B.pre
  have hown : s.vm.findClass RX0 = some m.cls := findClass_of_methodNamed B.named
  have hlocks := B.notSynchronized
  have hl := lv_entry ([.ref o]) (n := 3) (Nat.le_of_ble_eq_true rfl)
  rw [lg_entry_eq]
  generalize (lg_sl ([.ref o]) ++ List.replicate (3 - (lg_sl ([.ref o])).length) Slot.unset).toArray = ls at hl ⊢
  have hl : lv_has ls 3 [(0, .ref o)] := hl
  refine lv_iconst (v := 0) hx hb dX0_sizeOfAll_0 (by decide) ?_
  refine lv_istore_n (lv' := [(1, .int 0), (0, .ref o)]) hx hb dX0_sizeOfAll_1 rfl hl (by decide) rfl (fun ls hl => ?_)
  refine lv_iconst (v := 0) hx hb dX0_sizeOfAll_2 (by decide) ?_
  refine lv_istore_n (lv' := [(2, .int 0), (1, .int 0), (0, .ref o)]) hx hb dX0_sizeOfAll_3 rfl hl (by decide) rfl (fun ls hl => ?_)
  have loop_4 : ∀ (n_4 i : Nat) (x1 x2 : Int32), i ≤ 10 → 10 + 1 ≤ i + n_4 → (x1 = sg 0 (fun v => absI (f v)) i) → (x2 = nI i) → ∀ ls : Array Slot, lv_has ls 3 [(0, .ref o), (1, .int x1), (2, .int x2)] → W p l e rmX0_sizeOfAll s m [.ref o].toArray below meth c s.heap [] 0 0 (MQ below (QcRead (szs f)) [.ref o].toArray s 0 0 (fun _ => False)) (F0 m 4 ls []) := by
    intro n_4
    induction n_4 with
    | zero => intro i x1 x2 h1 h2; exact absurd h2 (by omega)
    | succ n_4 ih_4 =>
      intro i x1 x2 hi_4 hn_4 e1 e2 ls hl
      refine lv_iload_n hx hb dX0_sizeOfAll_4 rfl (lv_at hl 2 rfl) ?_
      refine lv_bipush (v := 10) hx hb dX0_sizeOfAll_5 (by decide) ?_
      refine lv_icmp_ge (tgt := 24) hx hb dX0_sizeOfAll_7 (by decide) (fun c_7 => ?_) (fun c_7 => ?_)
      · have hN : i = 10 := ge_ix e2 (by decide) (by decide) c_7 hi_4
        refine lv_iload_n hx hb dX0_sizeOfAll_24 rfl (lv_at hl 1 rfl) ?_
        exact W.iret (v := x1) hx hb hr (fun t ht hW => ⟨congrArg (fun z => Outcome.returned (some (Value.int z))) (by rw [e1, hN]; rfl), ht⟩) (fun _ h => nomatch h) dX0_sizeOfAll_25
      · have hlt : i < 10 := lt_ix e2 (by decide) (by decide) c_7 hi_4
        refine lv_iload_n hx hb dX0_sizeOfAll_10 rfl (lv_at hl 1 rfl) ?_
        refine lv_aload_n hx hb dX0_sizeOfAll_11 rfl (lv_at hl 0 rfl) ?_
        refine lv_iload_n hx hb dX0_sizeOfAll_12 rfl (lv_at hl 2 rfl) ?_
        refine ro_call (va_runV (As := [.int x2]) (rest := [.int x1]) ⟨hx, hb, hml, hown, hts⟩ (c_X0_size l G o w d g f x2 i e2 (by omega)) (cwV 1 hts gX0_sizeOfAll_X0_size rfl rfl rfl (by decide +kernel) ⟨Nat.le_of_ble_eq_true rfl, Nat.le_of_ble_eq_true rfl⟩) ⟨ro_blind, va_recv hK.1 hP (ci := 0) (q0 := 0) rfl rfl, ro_pre _ (hP.sub [0, 1] rfl) hK⟩ rfl rfl hl.1 rfl (lv_room (Nat.le_of_ble_eq_true rfl)) dX0_sizeOfAll_13 ⟨Nat.le_refl _, Nat.le_refl _⟩) ?_
        refine lv_iadd hx hb dX0_sizeOfAll_16 ?_
        refine lv_istore_n (lv' := [(1, .int (x1 + (absI (f i)))), (0, .ref o), (2, .int x2)]) hx hb dX0_sizeOfAll_17 rfl hl (by decide) rfl (fun ls hl => ?_)
        refine lv_iinc (v := x2 + 1) (lv' := [(2, .int (x2 + 1)), (1, .int (x1 + (absI (f i)))), (0, .ref o)]) hx hb dX0_sizeOfAll_18 hl (k := 2) rfl rfl (by decide) rfl (fun ls hl => ?_)
        refine lv_goto (tgt := 4) hx hb dX0_sizeOfAll_21 (by decide) ?_
        exact ih_4 (i + 1) _ _ (by omega) (by omega) (by rw [e1]; rfl) (by rw [e2]; exact nI_1 i) ls (lv_sub hl [2, 1, 0] rfl)
  exact loop_4 (10 + 1) 0 _ _ (Nat.zero_le _) (by omega) (by rfl) (by exact nI_0.symm) ls (lv_sub hl [2, 1, 0] rfl)

abbrev rmX0_weightOrDegree : Room := { frames := 0, cells := 0, slots := 0, locals := 0 }
set_option maxHeartbeats 4000000 in
set_option maxRecDepth 100000 in
theorem c_X0_weightOrDegree (l : Launch) (G : Gt) (o w : Nat) (d g : Int32) (f : Nat → Int32) (x : Int32) (hxx : x = -1 ∨ ∃ v, v < 10 ∧ x = nI v) : Met l yX0_weightOrDegree wsX0_weightOrDegree rmX0_weightOrDegree (ro_P G [.ref o, .int x] [(o, .inr (0, [.ref w, .int d, .int g])), (w, eI G 10 f)]) (QcRead (wod f d x)) 0 0 (fun _ => False) := by
  refine Met.ofW (cc := cX0_weightOrDegree) (maxL := 2) (ret := (some .int)) (by decide) rfl ?_
  intro p e s m args below meth c s₁ B hml hv
  obtain ⟨rfl, hP, hK⟩ := hv
  have hx := B.exec
  have hb := B.bytes
  have hr := B.returns
  have hts := atoms_spec (ws := wsX0_weightOrDegree) B.pre
  have hown : s.vm.findClass RX0 = some m.cls := findClass_of_methodNamed B.named
  have hlocks := B.notSynchronized
  have hinX0 : ∀ w ∈ u_ws RX0 TX0 3, w ∈ wsX0_weightOrDegree := fun w h => List.mem_cons_of_mem _ (List.mem_append_right _ h)
  have hw1 := hts (.fieldLink RX0 9 "ChoiceBoard$Constraint" "weights" "[I") (by decide +kernel)
  have hw2 := hts (.fieldLink RX0 15 "ChoiceBoard$Constraint" "degree" "I") (by decide +kernel)
  have hl := lv_entry ([.ref o, .int x]) (n := 2) (Nat.le_of_ble_eq_true rfl)
  rw [lg_entry_eq]
  generalize (lg_sl ([.ref o, .int x]) ++ List.replicate (2 - (lg_sl ([.ref o, .int x])).length) Slot.unset).toArray = ls at hl ⊢
  have hl : lv_has ls 2 [(0, .ref o), (1, .int x)] := hl
  refine lv_iload_n hx hb dX0_weightOrDegree_0 rfl (lv_at hl 1 rfl) ?_
  refine lv_iconst (v := (-1)) hx hb dX0_weightOrDegree_1 (by decide) ?_
  refine lv_icmp_ne (tgt := 12) hx hb dX0_weightOrDegree_2 (by decide) (fun c_2 => ?_) (fun c_2 => ?_)
  · obtain ⟨v, hv, ev⟩ := hxx.resolve_left c_2
    have ec : x.toNatClampNeg = v := by rw [ev]; exact nI_clamp (by omega)
    refine lv_aload_n hx hb dX0_weightOrDegree_12 rfl (lv_at hl 0 rfl) ?_
    refine va_get (D := G.1) (ci := 0) (v := .ref w) (C := RX0) (T := TX0) (N := 3) hx hb hts hinX0 hown hK.1 hP 0 rfl rfl 0 (by decide) hw1 (fun _ h9 => h9) rfl dX0_weightOrDegree_13 ?_
    refine lv_iload_n hx hb dX0_weightOrDegree_16 rfl (lv_at hl 1 rfl) ?_
    refine ra_iald (f := f) (v := x.toNatClampNeg) hx hb hK.1 hP 1 0 rfl rfl (by rw [ec]; exact ev) (by rw [ec]; exact hv) (by decide) dX0_weightOrDegree_17 ?_
    exact W.iret (v := f x.toNatClampNeg) hx hb hr (fun t ht hW => ⟨congrArg (fun z => Outcome.returned (some (Value.int z))) (by unfold wod; first | exact (if_pos c_2).symm | exact (if_neg c_2).symm), ht⟩) (fun _ h => nomatch h) dX0_weightOrDegree_18
  · refine lv_aload_n hx hb dX0_weightOrDegree_5 rfl (lv_at hl 0 rfl) ?_
    refine va_get (D := G.1) (ci := 0) (v := .int d) (C := RX0) (T := TX0) (N := 3) hx hb hts hinX0 hown hK.1 hP 0 rfl rfl 1 (by decide) hw2 (fun _ h9 => h9) rfl dX0_weightOrDegree_6 ?_
    refine lv_goto (tgt := 18) hx hb dX0_weightOrDegree_9 (by decide) ?_
    exact W.iret (v := d) hx hb hr (fun t ht hW => ⟨congrArg (fun z => Outcome.returned (some (Value.int z))) (by unfold wod; first | exact (if_pos c_2).symm | exact (if_neg c_2).symm), ht⟩) (fun _ h => nomatch h) dX0_weightOrDegree_18

abbrev rmX0_isTooLarge : Room := { frames := 2, cells := 0, slots := 0, locals := 42 }
set_option maxHeartbeats 4000000 in
set_option maxRecDepth 100000 in
theorem c_X0_isTooLarge (l : Launch) (G : Gt) (o w : Nat) (d g : Int32) (f : Nat → Int32) : Met l yX0_isTooLarge wsX0_isTooLarge rmX0_isTooLarge (ro_P G [.ref o] [(o, .inr (0, [.ref w, .int d, .int g])), (w, eI G 10 f)]) (QcRead (bI (tlI f d))) 0 0 (fun _ => False) := by
  refine Met.ofW (cc := cX0_isTooLarge) (maxL := 2) (ret := (some .boolean)) (by decide) rfl ?_
  intro p e s m args below meth c s₁ B hml hv
  obtain ⟨rfl, hP, hK⟩ := hv
  have hx := B.exec
  have hb := B.bytes
  have hr := B.returns
  have hts := atoms_spec (ws := wsX0_isTooLarge) B.pre
  have hown : s.vm.findClass RX0 = some m.cls := findClass_of_methodNamed B.named
  have hlocks := B.notSynchronized
  have hinX0 : ∀ w ∈ u_ws RX0 TX0 3, w ∈ wsX0_isTooLarge := fun w h => List.mem_cons_of_mem _ (List.mem_append_right _ h)
  have hw1 := hts (.fieldLink RX0 15 "ChoiceBoard$Constraint" "degree" "I") (by decide +kernel)
  have hw2 := hts (.constant RX0 70 (1000000)) (by decide +kernel)
  have hl := lv_entry ([.ref o]) (n := 2) (Nat.le_of_ble_eq_true rfl)
  rw [lg_entry_eq]
  generalize (lg_sl ([.ref o]) ++ List.replicate (2 - (lg_sl ([.ref o])).length) Slot.unset).toArray = ls at hl ⊢
  have hl : lv_has ls 2 [(0, .ref o)] := hl
  refine lv_iconst (v := 0) hx hb dX0_isTooLarge_0 (by decide) ?_
  refine lv_istore_n (lv' := [(1, .int 0), (0, .ref o)]) hx hb dX0_isTooLarge_1 rfl hl (by decide) rfl (fun ls hl => ?_)
  have loop_2 : ∀ (n_2 i : Nat) (x1 : Int32), i ≤ 10 → 10 + 1 ≤ i + n_2 → (x1 = nI i) → (anyB (fun v => decide (1000000 < absI (f v))) i = false) → ∀ ls : Array Slot, lv_has ls 2 [(0, .ref o), (1, .int x1)] → W p l e rmX0_isTooLarge s m [.ref o].toArray below meth c s.heap [] 0 0 (MQ below (QcRead (bI (tlI f d))) [.ref o].toArray s 0 0 (fun _ => False)) (F0 m 2 ls []) := by
    intro n_2
    induction n_2 with
    | zero => intro i x1 h1 h2; exact absurd h2 (by omega)
    | succ n_2 ih_2 =>
      intro i x1 hi_2 hn_2 e1 ea ls hl
      refine lv_iload_n hx hb dX0_isTooLarge_2 rfl (lv_at hl 1 rfl) ?_
      refine lv_bipush (v := 10) hx hb dX0_isTooLarge_3 (by decide) ?_
      refine lv_icmp_ge (tgt := 26) hx hb dX0_isTooLarge_5 (by decide) (fun c_5 => ?_) (fun c_5 => ?_)
      · have hN : i = 10 := ge_ix e1 (by decide) (by decide) c_5 hi_2
        refine lv_aload_n hx hb dX0_isTooLarge_26 rfl (lv_at hl 0 rfl) ?_
        refine va_get (D := G.1) (ci := 0) (v := .int d) (C := RX0) (T := TX0) (N := 3) hx hb hts hinX0 hown hK.1 hP 0 rfl rfl 1 (by decide) hw1 (fun _ h9 => h9) rfl dX0_isTooLarge_27 ?_
        refine lv_ldc (v := 1000000) hx hb hown hw2 dX0_isTooLarge_30 ?_
        refine lv_icmp_le (tgt := 39) hx hb dX0_isTooLarge_32 (by decide) (fun c_32 => ?_) (fun c_32 => ?_)
        · refine lv_iconst (v := 0) hx hb dX0_isTooLarge_39 (by decide) ?_
          exact W.zret (v := 0) (ty := .boolean) hx hb hr rfl (fun t ht hW => ⟨congrArg (fun z => Outcome.returned (some (Value.int z))) (by rw [hN] at ea; unfold tlI; rw [ea]; first | (rw [decide_eq_true (Int32.not_le.mp c_32)]; rfl) | (rw [decide_eq_false (Int32.not_lt.mpr c_32)]; rfl)), ht⟩) (fun _ h => nomatch h) dX0_isTooLarge_40
        · refine lv_iconst (v := 1) hx hb dX0_isTooLarge_35 (by decide) ?_
          refine lv_goto (tgt := 40) hx hb dX0_isTooLarge_36 (by decide) ?_
          exact W.zret (v := 1) (ty := .boolean) hx hb hr rfl (fun t ht hW => ⟨congrArg (fun z => Outcome.returned (some (Value.int z))) (by rw [hN] at ea; unfold tlI; rw [ea]; first | (rw [decide_eq_true (Int32.not_le.mp c_32)]; rfl) | (rw [decide_eq_false (Int32.not_lt.mpr c_32)]; rfl)), ht⟩) (fun _ h => nomatch h) dX0_isTooLarge_40
      · have hlt : i < 10 := lt_ix e1 (by decide) (by decide) c_5 hi_2
        refine lv_aload_n hx hb dX0_isTooLarge_8 rfl (lv_at hl 0 rfl) ?_
        refine lv_iload_n hx hb dX0_isTooLarge_9 rfl (lv_at hl 1 rfl) ?_
        refine ro_call (va_runV (As := [.int x1]) (rest := []) ⟨hx, hb, hml, hown, hts⟩ (c_X0_size l G o w d g f x1 i e1 (by omega)) (cwV 1 hts gX0_isTooLarge_X0_size rfl rfl rfl (by decide +kernel) ⟨Nat.le_of_ble_eq_true rfl, Nat.le_of_ble_eq_true rfl⟩) ⟨ro_blind, va_recv hK.1 hP (ci := 0) (q0 := 0) rfl rfl, ro_pre _ (hP.sub [0, 1] rfl) hK⟩ rfl rfl hl.1 rfl (lv_room (Nat.le_of_ble_eq_true rfl)) dX0_isTooLarge_10 ⟨Nat.le_refl _, Nat.le_refl _⟩) ?_
        refine lv_ldc (v := 1000000) hx hb hown hw2 dX0_isTooLarge_13 ?_
        refine lv_icmp_le (tgt := 20) hx hb dX0_isTooLarge_15 (by decide) (fun c_15 => ?_) (fun c_15 => ?_)
        · refine lv_iinc (v := x1 + 1) (lv' := [(1, .int (x1 + 1)), (0, .ref o)]) hx hb dX0_isTooLarge_20 hl (k := 1) rfl rfl (by decide) rfl (fun ls hl => ?_)
          refine lv_goto (tgt := 2) hx hb dX0_isTooLarge_23 (by decide) ?_
          exact ih_2 (i + 1) _ (by omega) (by omega) (by rw [e1]; exact nI_1 i) (by simp only [anyB, ea, Bool.false_or]; exact decide_eq_false (Int32.not_lt.mpr c_15)) ls (lv_sub hl [1, 0] rfl)
        · refine lv_iconst (v := 1) hx hb dX0_isTooLarge_18 (by decide) ?_
          exact W.zret (v := 1) (ty := .boolean) hx hb hr rfl (fun t ht hW => ⟨congrArg (fun z => Outcome.returned (some (Value.int z))) (by rw [show tlI f d = true from by unfold tlI; rw [anyB_true (i := i) (decide_eq_true (Int32.not_le.mp c_15)) 10 hlt]; rfl]; rfl), ht⟩) (fun _ h => nomatch h) dX0_isTooLarge_19
  exact loop_2 (10 + 1) 0 _ (Nat.zero_le _) (by omega) (by exact nI_0.symm) rfl ls (lv_sub hl [1, 0] rfl)

abbrev rmX0_isVoid : Room := { frames := 3, cells := 0, slots := 0, locals := 64 }
set_option maxHeartbeats 4000000 in
set_option maxRecDepth 100000 in
theorem c_X0_isVoid (l : Launch) (G : Gt) (o w : Nat) (d g : Int32) (f : Nat → Int32) : Met l yX0_isVoid wsX0_isVoid rmX0_isVoid (ro_P G [.ref o] [(o, .inr (0, [.ref w, .int d, .int g])), (w, eI G 10 f)]) (QcRead (voidI f d)) 0 0 (fun _ => False) := by
  refine Met.ofW (cc := cX0_isVoid) (maxL := 1) (ret := (some .boolean)) (by decide) rfl ?_
  intro p e s m args below meth c s₁ B hml hv
  obtain ⟨rfl, hP, hK⟩ := hv
  have hx := B.exec
  have hb := B.bytes
  have hr := B.returns
  have hts := atoms_spec (ws := wsX0_isVoid) B.pre
  have hown : s.vm.findClass RX0 = some m.cls := findClass_of_methodNamed B.named
  have hlocks := B.notSynchronized
  have hinX0 : ∀ w ∈ u_ws RX0 TX0 3, w ∈ wsX0_isVoid := fun w h => List.mem_cons_of_mem _ (List.mem_append_right _ h)
  have hw1 := hts (.fieldLink RX0 15 "ChoiceBoard$Constraint" "degree" "I") (by decide +kernel)
  have hl := lv_entry ([.ref o]) (n := 1) (Nat.le_of_ble_eq_true rfl)
  rw [lg_entry_eq]
  generalize (lg_sl ([.ref o]) ++ List.replicate (1 - (lg_sl ([.ref o])).length) Slot.unset).toArray = ls at hl ⊢
  have hl : lv_has ls 1 [(0, .ref o)] := hl
  refine lv_aload_n hx hb dX0_isVoid_0 rfl (lv_at hl 0 rfl) ?_
  refine ro_call (va_runV (As := []) (rest := []) ⟨hx, hb, hml, hown, hts⟩ (c_X0_sizeOfAll l G o w d g f) (cwV 0 hts gX0_isVoid_X0_sizeOfAll rfl rfl rfl (by decide +kernel) ⟨Nat.le_of_ble_eq_true rfl, Nat.le_of_ble_eq_true rfl⟩) ⟨ro_blind, va_recv hK.1 hP (ci := 0) (q0 := 0) rfl rfl, ro_pre _ (hP.sub [0, 1] rfl) hK⟩ rfl rfl hl.1 rfl (lv_room (Nat.le_of_ble_eq_true rfl)) dX0_isVoid_1 ⟨Nat.le_refl _, Nat.le_refl _⟩) ?_
  refine lv_aload_n hx hb dX0_isVoid_4 rfl (lv_at hl 0 rfl) ?_
  refine va_get (D := G.1) (ci := 0) (v := .int d) (C := RX0) (T := TX0) (N := 3) hx hb hts hinX0 hown hK.1 hP 0 rfl rfl 1 (by decide) hw1 (fun _ h9 => h9) rfl dX0_isVoid_5 ?_
  refine lv_icmp_ge (tgt := 15) hx hb dX0_isVoid_8 (by decide) (fun c_8 => ?_) (fun c_8 => ?_)
  · refine lv_iconst (v := 0) hx hb dX0_isVoid_15 (by decide) ?_
    exact W.zret (v := 0) (ty := .boolean) hx hb hr rfl (fun t ht hW => ⟨congrArg (fun z => Outcome.returned (some (Value.int z))) (by unfold voidI; first | exact (if_pos (Int32.not_le.mp c_8)).symm | exact (if_neg (Int32.not_lt.mpr c_8)).symm), ht⟩) (fun _ h => nomatch h) dX0_isVoid_16
  · refine lv_iconst (v := 1) hx hb dX0_isVoid_11 (by decide) ?_
    refine lv_goto (tgt := 16) hx hb dX0_isVoid_12 (by decide) ?_
    exact W.zret (v := 1) (ty := .boolean) hx hb hr rfl (fun t ht hW => ⟨congrArg (fun z => Outcome.returned (some (Value.int z))) (by unfold voidI; first | exact (if_pos (Int32.not_le.mp c_8)).symm | exact (if_neg (Int32.not_lt.mpr c_8)).symm), ht⟩) (fun _ h => nomatch h) dX0_isVoid_16

abbrev rmX0_isOpposed : Room := { frames := 0, cells := 0, slots := 0, locals := 0 }
set_option maxHeartbeats 4000000 in
set_option maxRecDepth 100000 in
theorem c_X0_isOpposed (l : Launch) (G : Gt) (o w : Nat) (d g : Int32) (f : Nat → Int32) (o2 w2 : Nat) (d2 g2 : Int32) (f2 : Nat → Int32) (x : Int32) (v : Nat) (ex : x = nI v) (hv : v < 10) : Met l yX0_isOpposed wsX0_isOpposed rmX0_isOpposed (ro_P G [.ref o, .ref o2, .int x] [(o, .inr (0, [.ref w, .int d, .int g])), (w, eI G 10 f), (o2, .inr (0, [.ref w2, .int d2, .int g2])), (w2, eI G 10 f2)]) (QcRead (oppI (f v) (f2 v))) 0 0 (fun _ => False) := by
  refine Met.ofW (cc := cX0_isOpposed) (maxL := 3) (ret := (some .boolean)) (by decide) rfl ?_
  intro p e s m args below meth c s₁ B hml hv
  obtain ⟨rfl, hP, hK⟩ := hv
  have hx := B.exec
  have hb := B.bytes
  have hr := B.returns
  have hts := atoms_spec (ws := wsX0_isOpposed) B.pre
  have hown : s.vm.findClass RX0 = some m.cls := findClass_of_methodNamed B.named
  have hlocks := B.notSynchronized
  have hinX0 : ∀ w ∈ u_ws RX0 TX0 3, w ∈ wsX0_isOpposed := fun w h => List.mem_cons_of_mem _ (List.mem_append_right _ h)
  have hw1 := hts (.fieldLink RX0 9 "ChoiceBoard$Constraint" "weights" "[I") (by decide +kernel)
  have hl := lv_entry ([.ref o, .ref o2, .int x]) (n := 3) (Nat.le_of_ble_eq_true rfl)
  rw [lg_entry_eq]
  generalize (lg_sl ([.ref o, .ref o2, .int x]) ++ List.replicate (3 - (lg_sl ([.ref o, .ref o2, .int x])).length) Slot.unset).toArray = ls at hl ⊢
  have hl : lv_has ls 3 [(0, .ref o), (1, .ref o2), (2, .int x)] := hl
  refine lv_aload_n hx hb dX0_isOpposed_0 rfl (lv_at hl 0 rfl) ?_
  refine va_get (D := G.1) (ci := 0) (v := .ref w) (C := RX0) (T := TX0) (N := 3) hx hb hts hinX0 hown hK.1 hP 0 rfl rfl 0 (by decide) hw1 (fun _ h9 => h9) rfl dX0_isOpposed_1 ?_
  refine lv_iload_n hx hb dX0_isOpposed_4 rfl (lv_at hl 2 rfl) ?_
  refine ra_iald (f := f) (v := v) hx hb hK.1 hP 1 0 rfl rfl ex (by omega) (by decide) dX0_isOpposed_5 ?_
  refine lv_if_le (tgt := 18) hx hb dX0_isOpposed_6 (by decide) (fun c_6 => ?_) (fun c_6 => ?_)
  · refine lv_aload_n hx hb dX0_isOpposed_18 rfl (lv_at hl 0 rfl) ?_
    refine va_get (D := G.1) (ci := 0) (v := .ref w) (C := RX0) (T := TX0) (N := 3) hx hb hts hinX0 hown hK.1 hP 0 rfl rfl 0 (by decide) hw1 (fun _ h9 => h9) rfl dX0_isOpposed_19 ?_
    refine lv_iload_n hx hb dX0_isOpposed_22 rfl (lv_at hl 2 rfl) ?_
    refine ra_iald (f := f) (v := v) hx hb hK.1 hP 1 0 rfl rfl ex (by omega) (by decide) dX0_isOpposed_23 ?_
    refine lv_if_ge (tgt := 40) hx hb dX0_isOpposed_24 (by decide) (fun c_24 => ?_) (fun c_24 => ?_)
    · refine lv_iconst (v := 0) hx hb dX0_isOpposed_40 (by decide) ?_
      exact W.zret (v := 0) (ty := .boolean) hx hb hr rfl (fun t ht hW => ⟨congrArg (fun z => Outcome.returned (some (Value.int z))) (by unfold oppI; simp only [Int32.lt_iff_toInt_lt, Int32.le_iff_toInt_le] at *; split <;> first | rfl | (exfalso; omega)), ht⟩) (fun _ h => nomatch h) dX0_isOpposed_41
    · refine lv_aload_n hx hb dX0_isOpposed_27 rfl (lv_at hl 1 rfl) ?_
      refine va_get (D := G.1) (ci := 0) (v := .ref w2) (C := RX0) (T := TX0) (N := 3) hx hb hts hinX0 hown hK.1 hP 2 rfl rfl 0 (by decide) hw1 (fun _ h9 => h9) rfl dX0_isOpposed_28 ?_
      refine lv_iload_n hx hb dX0_isOpposed_31 rfl (lv_at hl 2 rfl) ?_
      refine ra_iald (f := f2) (v := v) hx hb hK.1 hP 3 0 rfl rfl ex (by omega) (by decide) dX0_isOpposed_32 ?_
      refine lv_if_le (tgt := 40) hx hb dX0_isOpposed_33 (by decide) (fun c_33 => ?_) (fun c_33 => ?_)
      · refine lv_iconst (v := 0) hx hb dX0_isOpposed_40 (by decide) ?_
        exact W.zret (v := 0) (ty := .boolean) hx hb hr rfl (fun t ht hW => ⟨congrArg (fun z => Outcome.returned (some (Value.int z))) (by unfold oppI; simp only [Int32.lt_iff_toInt_lt, Int32.le_iff_toInt_le] at *; split <;> first | rfl | (exfalso; omega)), ht⟩) (fun _ h => nomatch h) dX0_isOpposed_41
      · refine lv_iconst (v := 1) hx hb dX0_isOpposed_36 (by decide) ?_
        refine lv_goto (tgt := 41) hx hb dX0_isOpposed_37 (by decide) ?_
        exact W.zret (v := 1) (ty := .boolean) hx hb hr rfl (fun t ht hW => ⟨congrArg (fun z => Outcome.returned (some (Value.int z))) (by unfold oppI; simp only [Int32.lt_iff_toInt_lt, Int32.le_iff_toInt_le] at *; split <;> first | rfl | (exfalso; omega)), ht⟩) (fun _ h => nomatch h) dX0_isOpposed_41
  · refine lv_aload_n hx hb dX0_isOpposed_9 rfl (lv_at hl 1 rfl) ?_
    refine va_get (D := G.1) (ci := 0) (v := .ref w2) (C := RX0) (T := TX0) (N := 3) hx hb hts hinX0 hown hK.1 hP 2 rfl rfl 0 (by decide) hw1 (fun _ h9 => h9) rfl dX0_isOpposed_10 ?_
    refine lv_iload_n hx hb dX0_isOpposed_13 rfl (lv_at hl 2 rfl) ?_
    refine ra_iald (f := f2) (v := v) hx hb hK.1 hP 3 0 rfl rfl ex (by omega) (by decide) dX0_isOpposed_14 ?_
    refine lv_if_lt (tgt := 36) hx hb dX0_isOpposed_15 (by decide) (fun c_15 => ?_) (fun c_15 => ?_)
    · refine lv_iconst (v := 1) hx hb dX0_isOpposed_36 (by decide) ?_
      refine lv_goto (tgt := 41) hx hb dX0_isOpposed_37 (by decide) ?_
      exact W.zret (v := 1) (ty := .boolean) hx hb hr rfl (fun t ht hW => ⟨congrArg (fun z => Outcome.returned (some (Value.int z))) (by unfold oppI; simp only [Int32.lt_iff_toInt_lt, Int32.le_iff_toInt_le] at *; split <;> first | rfl | (exfalso; omega)), ht⟩) (fun _ h => nomatch h) dX0_isOpposed_41
    · refine lv_aload_n hx hb dX0_isOpposed_18 rfl (lv_at hl 0 rfl) ?_
      refine va_get (D := G.1) (ci := 0) (v := .ref w) (C := RX0) (T := TX0) (N := 3) hx hb hts hinX0 hown hK.1 hP 0 rfl rfl 0 (by decide) hw1 (fun _ h9 => h9) rfl dX0_isOpposed_19 ?_
      refine lv_iload_n hx hb dX0_isOpposed_22 rfl (lv_at hl 2 rfl) ?_
      refine ra_iald (f := f) (v := v) hx hb hK.1 hP 1 0 rfl rfl ex (by omega) (by decide) dX0_isOpposed_23 ?_
      refine lv_if_ge (tgt := 40) hx hb dX0_isOpposed_24 (by decide) (fun c_24 => ?_) (fun c_24 => ?_)
      · refine lv_iconst (v := 0) hx hb dX0_isOpposed_40 (by decide) ?_
        exact W.zret (v := 0) (ty := .boolean) hx hb hr rfl (fun t ht hW => ⟨congrArg (fun z => Outcome.returned (some (Value.int z))) (by unfold oppI; simp only [Int32.lt_iff_toInt_lt, Int32.le_iff_toInt_le] at *; split <;> first | rfl | (exfalso; omega)), ht⟩) (fun _ h => nomatch h) dX0_isOpposed_41
      · refine lv_aload_n hx hb dX0_isOpposed_27 rfl (lv_at hl 1 rfl) ?_
        refine va_get (D := G.1) (ci := 0) (v := .ref w2) (C := RX0) (T := TX0) (N := 3) hx hb hts hinX0 hown hK.1 hP 2 rfl rfl 0 (by decide) hw1 (fun _ h9 => h9) rfl dX0_isOpposed_28 ?_
        refine lv_iload_n hx hb dX0_isOpposed_31 rfl (lv_at hl 2 rfl) ?_
        refine ra_iald (f := f2) (v := v) hx hb hK.1 hP 3 0 rfl rfl ex (by omega) (by decide) dX0_isOpposed_32 ?_
        refine lv_if_le (tgt := 40) hx hb dX0_isOpposed_33 (by decide) (fun c_33 => ?_) (fun c_33 => ?_)
        · refine lv_iconst (v := 0) hx hb dX0_isOpposed_40 (by decide) ?_
          exact W.zret (v := 0) (ty := .boolean) hx hb hr rfl (fun t ht hW => ⟨congrArg (fun z => Outcome.returned (some (Value.int z))) (by unfold oppI; simp only [Int32.lt_iff_toInt_lt, Int32.le_iff_toInt_le] at *; split <;> first | rfl | (exfalso; omega)), ht⟩) (fun _ h => nomatch h) dX0_isOpposed_41
        · refine lv_iconst (v := 1) hx hb dX0_isOpposed_36 (by decide) ?_
          refine lv_goto (tgt := 41) hx hb dX0_isOpposed_37 (by decide) ?_
          exact W.zret (v := 1) (ty := .boolean) hx hb hr rfl (fun t ht hW => ⟨congrArg (fun z => Outcome.returned (some (Value.int z))) (by unfold oppI; simp only [Int32.lt_iff_toInt_lt, Int32.le_iff_toInt_le] at *; split <;> first | rfl | (exfalso; omega)), ht⟩) (fun _ h => nomatch h) dX0_isOpposed_41

abbrev rmX0_slack : Room := { frames := 2, cells := 0, slots := 0, locals := 42 }
set_option maxHeartbeats 4000000 in
set_option maxRecDepth 100000 in
theorem c_X0_slack (l : Launch) (G : Gt) (o w : Nat) (d g : Int32) (f : Nat → Int32) (kn tr : Int32) : Met l yX0_slack wsX0_slack rmX0_slack (ro_P G [.ref o, .int kn, .int tr] [(o, .inr (0, [.ref w, .int d, .int g])), (w, eI G 10 f)]) (QcRead (slk f d kn tr)) 0 0 (fun _ => False) := by
  refine Met.ofW (cc := cX0_slack) (maxL := 5) (ret := (some .int)) (by decide) rfl ?_
  intro p e s m args below meth c s₁ B hml hv
  obtain ⟨rfl, hP, hK⟩ := hv
  have hx := B.exec
  have hb := B.bytes
  have hr := B.returns
  have hts := atoms_spec (ws := wsX0_slack) B.pre
  have hown : s.vm.findClass RX0 = some m.cls := findClass_of_methodNamed B.named
  have hlocks := B.notSynchronized
  have hinX0 : ∀ w ∈ u_ws RX0 TX0 3, w ∈ wsX0_slack := fun w h => List.mem_cons_of_mem _ (List.mem_append_right _ h)
  have hw1 := hts (.fieldLink RX0 15 "ChoiceBoard$Constraint" "degree" "I") (by decide +kernel)
  have hw2 := hts (.initialized RX1) (by decide +kernel)
  have hw3 := hts (.static yX1_bit) (by decide +kernel)
  have hl := lv_entry ([.ref o, .int kn, .int tr]) (n := 5) (Nat.le_of_ble_eq_true rfl)
  rw [lg_entry_eq]
  generalize (lg_sl ([.ref o, .int kn, .int tr]) ++ List.replicate (5 - (lg_sl ([.ref o, .int kn, .int tr])).length) Slot.unset).toArray = ls at hl ⊢
  have hl : lv_has ls 5 [(0, .ref o), (1, .int kn), (2, .int tr)] := hl
  refine lv_aload_n hx hb dX0_slack_0 rfl (lv_at hl 0 rfl) ?_
  refine va_get (D := G.1) (ci := 0) (v := .int d) (C := RX0) (T := TX0) (N := 3) hx hb hts hinX0 hown hK.1 hP 0 rfl rfl 1 (by decide) hw1 (fun _ h9 => h9) rfl dX0_slack_1 ?_
  refine lv_ineg hx hb dX0_slack_4 ?_
  refine lv_istore_n (lv' := [(3, .int (-d)), (0, .ref o), (1, .int kn), (2, .int tr)]) hx hb dX0_slack_5 rfl hl (by decide) rfl (fun ls hl => ?_)
  refine lv_iconst (v := 0) hx hb dX0_slack_6 (by decide) ?_
  refine lv_istore (lv' := [(4, .int 0), (3, .int (-d)), (0, .ref o), (1, .int kn), (2, .int tr)]) hx hb dX0_slack_7 hl (by decide) rfl (fun ls hl => ?_)
  have loop_9 : ∀ (n_9 i : Nat) (x3 x4 : Int32), i ≤ 10 → 10 + 1 ≤ i + n_9 → (x3 = sg (-d) (slT f kn tr) i) → (x4 = nI i) → ∀ ls : Array Slot, lv_has ls 5 [(0, .ref o), (1, .int kn), (2, .int tr), (3, .int x3), (4, .int x4)] → W p l e rmX0_slack s m [.ref o, .int kn, .int tr].toArray below meth c s.heap [] 0 0 (MQ below (QcRead (slk f d kn tr)) [.ref o, .int kn, .int tr].toArray s 0 0 (fun _ => False)) (F0 m 9 ls []) := by
    intro n_9
    induction n_9 with
    | zero => intro i x3 x4 h1 h2; exact absurd h2 (by omega)
    | succ n_9 ih_9 =>
      intro i x3 x4 hi_9 hn_9 e3 e4 ls hl
      refine lv_iload hx hb dX0_slack_9 (lv_at hl 4 rfl) ?_
      refine lv_bipush (v := 10) hx hb dX0_slack_11 (by decide) ?_
      refine lv_icmp_ge (tgt := 55) hx hb dX0_slack_13 (by decide) (fun c_13 => ?_) (fun c_13 => ?_)
      · have hN : i = 10 := ge_ix e4 (by decide) (by decide) c_13 hi_9
        refine lv_iload_n hx hb dX0_slack_55 rfl (lv_at hl 3 rfl) ?_
        exact W.iret (v := x3) hx hb hr (fun t ht hW => ⟨congrArg (fun z => Outcome.returned (some (Value.int z))) (by rw [e3, hN]; rfl), ht⟩) (fun _ h => nomatch h) dX0_slack_56
      · have hlt : i < 10 := lt_ix e4 (by decide) (by decide) c_13 hi_9
        refine lv_iload_n hx hb dX0_slack_16 rfl (lv_at hl 1 rfl) ?_
        refine lv_iload hx hb dX0_slack_17 (lv_at hl 4 rfl) ?_
        refine ro_call (va_runSN (host := RX1) (As := [.int kn, .int x4]) (rest := []) ⟨hx, hb, hml, hown, hts⟩ (c_X1_bit l G kn x4) ⟨va_cnB 2 hts gX0_slack_X1_bit_n74 rfl rfl rfl hK.2.2.2 hw2 (by decide +kernel) ⟨Nat.le_of_ble_eq_true rfl, Nat.le_of_ble_eq_true rfl⟩, hw3, trivial⟩ ⟨ro_blind, ro_pre _ (hP.sub [] rfl) hK⟩ rfl rfl hl.1 rfl (lv_room (Nat.le_of_ble_eq_true rfl)) dX0_slack_19 ⟨Nat.le_refl _, Nat.le_refl _⟩) ?_
        refine lv_if_eq (tgt := 40) hx hb dX0_slack_22 (by decide) (fun c_22 => ?_) (fun c_22 => ?_)
        · refine lv_iload_n hx hb dX0_slack_40 rfl (lv_at hl 3 rfl) ?_
          refine lv_aload_n hx hb dX0_slack_41 rfl (lv_at hl 0 rfl) ?_
          refine lv_iload hx hb dX0_slack_42 (lv_at hl 4 rfl) ?_
          refine ro_call (va_runV (As := [.int x4]) (rest := [.int x3]) ⟨hx, hb, hml, hown, hts⟩ (c_X0_size l G o w d g f x4 i e4 (by omega)) (cwV 1 hts gX0_slack_X0_size rfl rfl rfl (by decide +kernel) ⟨Nat.le_of_ble_eq_true rfl, Nat.le_of_ble_eq_true rfl⟩) ⟨ro_blind, va_recv hK.1 hP (ci := 0) (q0 := 0) rfl rfl, ro_pre _ (hP.sub [0, 1] rfl) hK⟩ rfl rfl hl.1 rfl (lv_room (Nat.le_of_ble_eq_true rfl)) dX0_slack_44 ⟨Nat.le_refl _, Nat.le_refl _⟩) ?_
          refine lv_iadd hx hb dX0_slack_47 ?_
          refine lv_istore_n (lv' := [(3, .int (x3 + (absI (f i)))), (0, .ref o), (1, .int kn), (2, .int tr), (4, .int x4)]) hx hb dX0_slack_48 rfl hl (by decide) rfl (fun ls hl => ?_)
          refine lv_iinc (v := x4 + 1) (lv' := [(4, .int (x4 + 1)), (3, .int (x3 + (absI (f i)))), (0, .ref o), (1, .int kn), (2, .int tr)]) hx hb dX0_slack_49 hl (k := 4) rfl rfl (by decide) rfl (fun ls hl => ?_)
          refine lv_goto (tgt := 9) hx hb dX0_slack_52 (by decide) ?_
          exact ih_9 (i + 1) _ _ (by omega) (by omega) (by rw [sg_s, e3]; unfold slT; first | rw [if_pos (Or.inl (by rw [← e4]; exact c_22))] | rw [if_pos (Or.inr (by rw [← e4]; exact c_37))] | (rw [if_neg (by rw [← e4]; exact fun h => h.elim c_22 c_37)]; exact add0 _)) (by rw [e4]; exact nI_1 i) ls (lv_sub hl [2, 3, 4, 1, 0] rfl)
        · refine lv_iload_n hx hb dX0_slack_25 rfl (lv_at hl 2 rfl) ?_
          refine lv_iload hx hb dX0_slack_26 (lv_at hl 4 rfl) ?_
          refine ro_call (va_runSN (host := RX1) (As := [.int tr, .int x4]) (rest := []) ⟨hx, hb, hml, hown, hts⟩ (c_X1_bit l G tr x4) ⟨va_cnB 2 hts gX0_slack_X1_bit_n74 rfl rfl rfl hK.2.2.2 hw2 (by decide +kernel) ⟨Nat.le_of_ble_eq_true rfl, Nat.le_of_ble_eq_true rfl⟩, hw3, trivial⟩ ⟨ro_blind, ro_pre _ (hP.sub [] rfl) hK⟩ rfl rfl hl.1 rfl (lv_room (Nat.le_of_ble_eq_true rfl)) dX0_slack_28 ⟨Nat.le_refl _, Nat.le_refl _⟩) ?_
          refine lv_aload_n hx hb dX0_slack_31 rfl (lv_at hl 0 rfl) ?_
          refine lv_iload hx hb dX0_slack_32 (lv_at hl 4 rfl) ?_
          refine ro_call (va_runV (As := [.int x4]) (rest := [.int (bitI tr x4)]) ⟨hx, hb, hml, hown, hts⟩ (c_X0_countedTruth l G o w d g f x4 i e4 (by omega)) (cwV 1 hts gX0_slack_X0_countedTruth rfl rfl rfl (by decide +kernel) ⟨Nat.le_of_ble_eq_true rfl, Nat.le_of_ble_eq_true rfl⟩) ⟨ro_blind, va_recv hK.1 hP (ci := 0) (q0 := 0) rfl rfl, ro_pre _ (hP.sub [0, 1] rfl) hK⟩ rfl rfl hl.1 rfl (lv_room (Nat.le_of_ble_eq_true rfl)) dX0_slack_34 ⟨Nat.le_refl _, Nat.le_refl _⟩) ?_
          refine lv_icmp_ne (tgt := 49) hx hb dX0_slack_37 (by decide) (fun c_37 => ?_) (fun c_37 => ?_)
          · refine lv_iinc (v := x4 + 1) (lv' := [(4, .int (x4 + 1)), (0, .ref o), (1, .int kn), (2, .int tr), (3, .int x3)]) hx hb dX0_slack_49 hl (k := 4) rfl rfl (by decide) rfl (fun ls hl => ?_)
            refine lv_goto (tgt := 9) hx hb dX0_slack_52 (by decide) ?_
            exact ih_9 (i + 1) _ _ (by omega) (by omega) (by rw [sg_s, e3]; unfold slT; first | rw [if_pos (Or.inl (by rw [← e4]; exact c_22))] | rw [if_pos (Or.inr (by rw [← e4]; exact c_37))] | (rw [if_neg (by rw [← e4]; exact fun h => h.elim c_22 c_37)]; exact add0 _)) (by rw [e4]; exact nI_1 i) ls (lv_sub hl [1, 2, 3, 4, 0] rfl)
          · refine lv_iload_n hx hb dX0_slack_40 rfl (lv_at hl 3 rfl) ?_
            refine lv_aload_n hx hb dX0_slack_41 rfl (lv_at hl 0 rfl) ?_
            refine lv_iload hx hb dX0_slack_42 (lv_at hl 4 rfl) ?_
            refine ro_call (va_runV (As := [.int x4]) (rest := [.int x3]) ⟨hx, hb, hml, hown, hts⟩ (c_X0_size l G o w d g f x4 i e4 (by omega)) (cwV 1 hts gX0_slack_X0_size rfl rfl rfl (by decide +kernel) ⟨Nat.le_of_ble_eq_true rfl, Nat.le_of_ble_eq_true rfl⟩) ⟨ro_blind, va_recv hK.1 hP (ci := 0) (q0 := 0) rfl rfl, ro_pre _ (hP.sub [0, 1] rfl) hK⟩ rfl rfl hl.1 rfl (lv_room (Nat.le_of_ble_eq_true rfl)) dX0_slack_44 ⟨Nat.le_refl _, Nat.le_refl _⟩) ?_
            refine lv_iadd hx hb dX0_slack_47 ?_
            refine lv_istore_n (lv' := [(3, .int (x3 + (absI (f i)))), (0, .ref o), (1, .int kn), (2, .int tr), (4, .int x4)]) hx hb dX0_slack_48 rfl hl (by decide) rfl (fun ls hl => ?_)
            refine lv_iinc (v := x4 + 1) (lv' := [(4, .int (x4 + 1)), (3, .int (x3 + (absI (f i)))), (0, .ref o), (1, .int kn), (2, .int tr)]) hx hb dX0_slack_49 hl (k := 4) rfl rfl (by decide) rfl (fun ls hl => ?_)
            refine lv_goto (tgt := 9) hx hb dX0_slack_52 (by decide) ?_
            exact ih_9 (i + 1) _ _ (by omega) (by omega) (by rw [sg_s, e3]; unfold slT; first | rw [if_pos (Or.inl (by rw [← e4]; exact c_22))] | rw [if_pos (Or.inr (by rw [← e4]; exact c_37))] | (rw [if_neg (by rw [← e4]; exact fun h => h.elim c_22 c_37)]; exact add0 _)) (by rw [e4]; exact nI_1 i) ls (lv_sub hl [2, 3, 4, 1, 0] rfl)
  exact loop_9 (10 + 1) 0 _ _ (Nat.zero_le _) (by omega) (by rfl) (by exact nI_0.symm) ls (lv_sub hl [2, 3, 4, 1, 0] rfl)

abbrev rmX0_isMetBy : Room := { frames := 3, cells := 0, slots := 0, locals := 66 }
set_option maxHeartbeats 4000000 in
set_option maxRecDepth 100000 in
theorem c_X0_isMetBy (l : Launch) (G : Gt) (o w : Nat) (d g : Int32) (f : Nat → Int32) (x : Int32) : Met l yX0_isMetBy wsX0_isMetBy rmX0_isMetBy (ro_P G [.ref o, .int x] [(o, .inr (0, [.ref w, .int d, .int g])), (w, eI G 10 f)]) (QcRead (metI f d x)) 0 0 (fun _ => False) := by
  refine Met.ofW (cc := cX0_isMetBy) (maxL := 2) (ret := (some .boolean)) (by decide) rfl ?_
  intro p e s m args below meth c s₁ B hml hv
  obtain ⟨rfl, hP, hK⟩ := hv
  have hx := B.exec
  have hb := B.bytes
  have hr := B.returns
  have hts := atoms_spec (ws := wsX0_isMetBy) B.pre
  have hown : s.vm.findClass RX0 = some m.cls := findClass_of_methodNamed B.named
  have hlocks := B.notSynchronized
  have hl := lv_entry ([.ref o, .int x]) (n := 2) (Nat.le_of_ble_eq_true rfl)
  rw [lg_entry_eq]
  generalize (lg_sl ([.ref o, .int x]) ++ List.replicate (2 - (lg_sl ([.ref o, .int x])).length) Slot.unset).toArray = ls at hl ⊢
  have hl : lv_has ls 2 [(0, .ref o), (1, .int x)] := hl
  refine lv_aload_n hx hb dX0_isMetBy_0 rfl (lv_at hl 0 rfl) ?_
  refine lv_sipush (v := 1023) hx hb dX0_isMetBy_1 (by decide) ?_
  refine lv_iload_n hx hb dX0_isMetBy_4 rfl (lv_at hl 1 rfl) ?_
  refine ro_call (va_runV (As := [.int 1023, .int x]) (rest := []) ⟨hx, hb, hml, hown, hts⟩ (c_X0_slack l G o w d g f 1023 x) (cwV 2 hts gX0_isMetBy_X0_slack rfl rfl rfl (by decide +kernel) ⟨Nat.le_of_ble_eq_true rfl, Nat.le_of_ble_eq_true rfl⟩) ⟨ro_blind, va_recv hK.1 hP (ci := 0) (q0 := 0) rfl rfl, ro_pre _ (hP.sub [0, 1] rfl) hK⟩ rfl rfl hl.1 rfl (lv_room (Nat.le_of_ble_eq_true rfl)) dX0_isMetBy_5 ⟨Nat.le_refl _, Nat.le_refl _⟩) ?_
  refine lv_if_lt (tgt := 15) hx hb dX0_isMetBy_8 (by decide) (fun c_8 => ?_) (fun c_8 => ?_)
  · refine lv_iconst (v := 0) hx hb dX0_isMetBy_15 (by decide) ?_
    exact W.zret (v := 0) (ty := .boolean) hx hb hr rfl (fun t ht hW => ⟨congrArg (fun z => Outcome.returned (some (Value.int z))) (by unfold metI; first | exact (if_pos (Int32.not_lt.mp c_8)).symm | exact (if_neg (Int32.not_le.mpr c_8)).symm), ht⟩) (fun _ h => nomatch h) dX0_isMetBy_16
  · refine lv_iconst (v := 1) hx hb dX0_isMetBy_11 (by decide) ?_
    refine lv_goto (tgt := 16) hx hb dX0_isMetBy_12 (by decide) ?_
    exact W.zret (v := 1) (ty := .boolean) hx hb hr rfl (fun t ht hW => ⟨congrArg (fun z => Outcome.returned (some (Value.int z))) (by unfold metI; first | exact (if_pos (Int32.not_lt.mp c_8)).symm | exact (if_neg (Int32.not_le.mpr c_8)).symm), ht⟩) (fun _ h => nomatch h) dX0_isMetBy_16

abbrev rmX0_forcedFrom : Room := { frames := 3, cells := 0, slots := 0, locals := 66 }
set_option maxHeartbeats 4000000 in
set_option maxRecDepth 100000 in
theorem c_X0_forcedFrom (l : Launch) (G : Gt) (o w : Nat) (d g : Int32) (f : Nat → Int32) (x : Int32) : Met l yX0_forcedFrom wsX0_forcedFrom rmX0_forcedFrom (ro_P G [.ref o, .int x] [(o, .inr (0, [.ref w, .int d, .int g])), (w, eI G 10 f)]) (QcRead (fcd f d x)) 0 0 (fun _ => False) := by
  refine Met.ofW (cc := cX0_forcedFrom) (maxL := 6) (ret := (some .int)) (by decide) rfl ?_
  intro p e s m args below meth c s₁ B hml hv
  obtain ⟨rfl, hP, hK⟩ := hv
  have hx := B.exec
  have hb := B.bytes
  have hr := B.returns
  have hts := atoms_spec (ws := wsX0_forcedFrom) B.pre
  have hown : s.vm.findClass RX0 = some m.cls := findClass_of_methodNamed B.named
  have hlocks := B.notSynchronized
  have hw0 := hts (.initialized RX1) (by decide +kernel)
  have hw1 := hts (.static yX1_bit) (by decide +kernel)
  have hl := lv_entry ([.ref o, .int x]) (n := 6) (Nat.le_of_ble_eq_true rfl)
  rw [lg_entry_eq]
  generalize (lg_sl ([.ref o, .int x]) ++ List.replicate (6 - (lg_sl ([.ref o, .int x])).length) Slot.unset).toArray = ls at hl ⊢
  have hl : lv_has ls 6 [(0, .ref o), (1, .int x)] := hl
  refine lv_iload_n hx hb dX0_forcedFrom_0 rfl (lv_at hl 1 rfl) ?_
  refine lv_sipush (v := 1024) hx hb dX0_forcedFrom_1 (by decide) ?_
  refine lv_idiv hx hb dX0_forcedFrom_4 (by decide) ?_
  refine lv_istore_n (lv' := [(2, .int (x / 1024)), (0, .ref o), (1, .int x)]) hx hb dX0_forcedFrom_5 rfl hl (by decide) rfl (fun ls hl => ?_)
  refine lv_aload_n hx hb dX0_forcedFrom_6 rfl (lv_at hl 1 rfl) ?_
  refine lv_iload_n hx hb dX0_forcedFrom_7 rfl (lv_at hl 0 rfl) ?_
  refine lv_iload_n hx hb dX0_forcedFrom_8 rfl (lv_at hl 2 rfl) ?_
  refine lv_sipush (v := 1023) hx hb dX0_forcedFrom_9 (by decide) ?_
  refine lv_iand hx hb dX0_forcedFrom_12 ?_
  refine ro_call (va_runV (As := [.int (x / 1024), .int (x &&& 1023)]) (rest := []) ⟨hx, hb, hml, hown, hts⟩ (c_X0_slack l G o w d g f (x / 1024) (x &&& 1023)) (cwV 2 hts gX0_forcedFrom_X0_slack rfl rfl rfl (by decide +kernel) ⟨Nat.le_of_ble_eq_true rfl, Nat.le_of_ble_eq_true rfl⟩) ⟨ro_blind, va_recv hK.1 hP (ci := 0) (q0 := 0) rfl rfl, ro_pre _ (hP.sub [0, 1] rfl) hK⟩ rfl rfl hl.1 rfl (lv_room (Nat.le_of_ble_eq_true rfl)) dX0_forcedFrom_13 ⟨Nat.le_refl _, Nat.le_refl _⟩) ?_
  refine lv_istore_n (lv' := [(3, .int (slk f d (x / 1024) (x &&& 1023))), (2, .int (x / 1024)), (0, .ref o), (1, .int x)]) hx hb dX0_forcedFrom_16 rfl hl (by decide) rfl (fun ls hl => ?_)
  refine lv_iload_n hx hb dX0_forcedFrom_17 rfl (lv_at hl 0 rfl) ?_
  refine lv_if_ge (tgt := 23) hx hb dX0_forcedFrom_18 (by decide) (fun c_18 => ?_) (fun c_18 => ?_)
  · refine lv_iload_n hx hb dX0_forcedFrom_23 rfl (lv_at hl 3 rfl) ?_
    refine lv_istore (lv' := [(4, .int x), (3, .int (slk f d (x / 1024) (x &&& 1023))), (2, .int (x / 1024)), (0, .ref o), (1, .int x)]) hx hb dX0_forcedFrom_24 hl (by decide) rfl (fun ls hl => ?_)
    refine lv_iconst (v := 0) hx hb dX0_forcedFrom_26 (by decide) ?_
    refine lv_istore (lv' := [(5, .int 0), (4, .int x), (3, .int (slk f d (x / 1024) (x &&& 1023))), (2, .int (x / 1024)), (0, .ref o), (1, .int x)]) hx hb dX0_forcedFrom_27 hl (by decide) rfl (fun ls hl => ?_)
    have loop_29 : ∀ (n_29 i : Nat) (x4 x5 : Int32), i ≤ 10 → 10 + 1 ≤ i + n_29 → (x4 = sg x (fcT f (x / 1024) (slk f d (x / 1024) (x &&& 1023))) i) → (x5 = nI i) → ∀ ls : Array Slot, lv_has ls 6 [(0, .ref o), (2, .int (x / 1024)), (3, .int (slk f d (x / 1024) (x &&& 1023))), (4, .int x4), (5, .int x5)] → W p l e rmX0_forcedFrom s m [.ref o, .int x].toArray below meth c s.heap [] 0 0 (MQ below (QcRead (fcd f d x)) [.ref o, .int x].toArray s 0 0 (fun _ => False)) (F0 m 29 ls []) := by
      intro n_29
      induction n_29 with
      | zero => intro i x4 x5 h1 h2; exact absurd h2 (by omega)
      | succ n_29 ih_29 =>
        intro i x4 x5 hi_29 hn_29 e4 e5 ls hl
        refine lv_iload hx hb dX0_forcedFrom_29 (lv_at hl 4 rfl) ?_
        refine lv_bipush (v := 10) hx hb dX0_forcedFrom_31 (by decide) ?_
        refine lv_icmp_ge (tgt := 79) hx hb dX0_forcedFrom_33 (by decide) (fun c_33 => ?_) (fun c_33 => ?_)
        · have hN : i = 10 := ge_ix e5 (by decide) (by decide) c_33 hi_29
          refine lv_iload hx hb dX0_forcedFrom_79 (lv_at hl 3 rfl) ?_
          exact W.iret (v := x4) hx hb hr (fun t ht hW => ⟨congrArg (fun z => Outcome.returned (some (Value.int z))) (by unfold fcd; rw [if_neg (Int32.not_lt.mpr c_18), e4, hN]), ht⟩) (fun _ h => nomatch h) dX0_forcedFrom_81
        · have hlt : i < 10 := lt_ix e5 (by decide) (by decide) c_33 hi_29
          refine lv_iload_n hx hb dX0_forcedFrom_36 rfl (lv_at hl 1 rfl) ?_
          refine lv_iload hx hb dX0_forcedFrom_37 (lv_at hl 4 rfl) ?_
          refine ro_call (va_runSN (host := RX1) (As := [.int (x / 1024), .int x5]) (rest := []) ⟨hx, hb, hml, hown, hts⟩ (c_X1_bit l G (x / 1024) x5) ⟨va_cnB 2 hts gX0_forcedFrom_X1_bit_n74 rfl rfl rfl hK.2.2.2 hw0 (by decide +kernel) ⟨Nat.le_of_ble_eq_true rfl, Nat.le_of_ble_eq_true rfl⟩, hw1, trivial⟩ ⟨ro_blind, ro_pre _ (hP.sub [] rfl) hK⟩ rfl rfl hl.1 rfl (lv_room (Nat.le_of_ble_eq_true rfl)) dX0_forcedFrom_39 ⟨Nat.le_refl _, Nat.le_refl _⟩) ?_
          refine lv_if_ne (tgt := 73) hx hb dX0_forcedFrom_42 (by decide) (fun c_42 => ?_) (fun c_42 => ?_)
          · refine lv_iinc (v := x5 + 1) (lv' := [(5, .int (x5 + 1)), (0, .ref o), (2, .int (x / 1024)), (3, .int (slk f d (x / 1024) (x &&& 1023))), (4, .int x4)]) hx hb dX0_forcedFrom_73 hl (k := 4) rfl rfl (by decide) rfl (fun ls hl => ?_)
            refine lv_goto (tgt := 29) hx hb dX0_forcedFrom_76 (by decide) ?_
            exact ih_29 (i + 1) _ _ (by omega) (by omega) (by rw [sg_s, e4]; unfold fcT; (rw [if_neg (by rw [← e5]; exact fun h => c_42 h.1)]; exact add0 _)) (by rw [e5]; exact nI_1 i) ls (lv_sub hl [1, 2, 3, 4, 0] rfl)
          · refine lv_aload_n hx hb dX0_forcedFrom_45 rfl (lv_at hl 0 rfl) ?_
            refine lv_iload hx hb dX0_forcedFrom_46 (lv_at hl 4 rfl) ?_
            refine ro_call (va_runV (As := [.int x5]) (rest := []) ⟨hx, hb, hml, hown, hts⟩ (c_X0_size l G o w d g f x5 i e5 (by omega)) (cwV 1 hts gX0_forcedFrom_X0_size rfl rfl rfl (by decide +kernel) ⟨Nat.le_of_ble_eq_true rfl, Nat.le_of_ble_eq_true rfl⟩) ⟨ro_blind, va_recv hK.1 hP (ci := 0) (q0 := 0) rfl rfl, ro_pre _ (hP.sub [0, 1] rfl) hK⟩ rfl rfl hl.1 rfl (lv_room (Nat.le_of_ble_eq_true rfl)) dX0_forcedFrom_48 ⟨Nat.le_refl _, Nat.le_refl _⟩) ?_
            refine lv_iload_n hx hb dX0_forcedFrom_51 rfl (lv_at hl 2 rfl) ?_
            refine lv_icmp_le (tgt := 73) hx hb dX0_forcedFrom_52 (by decide) (fun c_52 => ?_) (fun c_52 => ?_)
            · refine lv_iinc (v := x5 + 1) (lv' := [(5, .int (x5 + 1)), (0, .ref o), (2, .int (x / 1024)), (3, .int (slk f d (x / 1024) (x &&& 1023))), (4, .int x4)]) hx hb dX0_forcedFrom_73 hl (k := 4) rfl rfl (by decide) rfl (fun ls hl => ?_)
              refine lv_goto (tgt := 29) hx hb dX0_forcedFrom_76 (by decide) ?_
              exact ih_29 (i + 1) _ _ (by omega) (by omega) (by rw [sg_s, e4]; unfold fcT; (rw [if_neg (fun h => absurd h.2 (Int32.not_lt.mpr c_52))]; exact add0 _)) (by rw [e5]; exact nI_1 i) ls (lv_sub hl [1, 2, 3, 4, 0] rfl)
            · refine lv_iload hx hb dX0_forcedFrom_55 (lv_at hl 3 rfl) ?_
              refine lv_sipush (v := 1024) hx hb dX0_forcedFrom_57 (by decide) ?_
              refine lv_aload_n hx hb dX0_forcedFrom_60 rfl (lv_at hl 0 rfl) ?_
              refine lv_iload hx hb dX0_forcedFrom_61 (lv_at hl 4 rfl) ?_
              refine ro_call (va_runV (As := [.int x5]) (rest := [.int 1024, .int x4]) ⟨hx, hb, hml, hown, hts⟩ (c_X0_countedTruth l G o w d g f x5 i e5 (by omega)) (cwV 1 hts gX0_forcedFrom_X0_countedTruth rfl rfl rfl (by decide +kernel) ⟨Nat.le_of_ble_eq_true rfl, Nat.le_of_ble_eq_true rfl⟩) ⟨ro_blind, va_recv hK.1 hP (ci := 0) (q0 := 0) rfl rfl, ro_pre _ (hP.sub [0, 1] rfl) hK⟩ rfl rfl hl.1 rfl (lv_room (Nat.le_of_ble_eq_true rfl)) dX0_forcedFrom_63 ⟨Nat.le_refl _, Nat.le_refl _⟩) ?_
              refine lv_iadd hx hb dX0_forcedFrom_66 ?_
              refine lv_iload hx hb dX0_forcedFrom_67 (lv_at hl 4 rfl) ?_
              refine lv_ishl hx hb dX0_forcedFrom_69 ?_
              refine lv_iadd hx hb dX0_forcedFrom_70 ?_
              refine lv_istore (lv' := [(4, .int (x4 + ((1024 + (cntI (f i))) <<< (x5 &&& 31)))), (0, .ref o), (2, .int (x / 1024)), (3, .int (slk f d (x / 1024) (x &&& 1023))), (5, .int x5)]) hx hb dX0_forcedFrom_71 hl (by decide) rfl (fun ls hl => ?_)
              refine lv_iinc (v := x5 + 1) (lv' := [(5, .int (x5 + 1)), (4, .int (x4 + ((1024 + (cntI (f i))) <<< (x5 &&& 31)))), (0, .ref o), (2, .int (x / 1024)), (3, .int (slk f d (x / 1024) (x &&& 1023)))]) hx hb dX0_forcedFrom_73 hl (k := 4) rfl rfl (by decide) rfl (fun ls hl => ?_)
              refine lv_goto (tgt := 29) hx hb dX0_forcedFrom_76 (by decide) ?_
              exact ih_29 (i + 1) _ _ (by omega) (by omega) (by rw [sg_s, e4]; unfold fcT; rw [if_pos ⟨by rw [← e5]; exact c_42, Int32.not_le.mp c_52⟩, ← e5]) (by rw [e5]; exact nI_1 i) ls (lv_sub hl [2, 3, 4, 1, 0] rfl)
    exact loop_29 (10 + 1) 0 _ _ (Nat.zero_le _) (by omega) (by rfl) (by exact nI_0.symm) ls (lv_sub hl [4, 3, 2, 1, 0] rfl)
  · refine lv_iconst (v := (-1)) hx hb dX0_forcedFrom_21 (by decide) ?_
    exact W.iret (v := (-1)) hx hb hr (fun t ht hW => ⟨congrArg (fun z => Outcome.returned (some (Value.int z))) (by unfold fcd; exact (if_pos (Int32.not_le.mp c_18)).symm), ht⟩) (fun _ h => nomatch h) dX0_forcedFrom_22

abbrev rmX0_quotientRoundedUp : Room := { frames := 0, cells := 0, slots := 0, locals := 0 }
set_option maxHeartbeats 4000000 in
set_option maxRecDepth 100000 in
theorem c_X0_quotientRoundedUp (l : Launch) (G : Gt) (x y : Int32) (hy : ¬ y = 0) : Met l yX0_quotientRoundedUp wsX0_quotientRoundedUp rmX0_quotientRoundedUp (ro_P G [.int x, .int y] []) (QcRead (quoI x y)) 0 0 (fun _ => False) := by
  refine Met.ofW (cc := cX0_quotientRoundedUp) (maxL := 2) (ret := (some .int)) (by decide) rfl ?_
  intro p e s m args below meth c s₁ B hml hv
  obtain ⟨rfl, hP, hK⟩ := hv
  have hx := B.exec
  have hb := B.bytes
  have hr := B.returns
  have hts := atoms_spec (ws := wsX0_quotientRoundedUp) B.pre
  have hown : s.vm.findClass RX0 = some m.cls := findClass_of_methodNamed B.named
  have hlocks := B.notSynchronized
  have hl := lv_entry ([.int x, .int y]) (n := 2) (Nat.le_of_ble_eq_true rfl)
  rw [lg_entry_eq]
  generalize (lg_sl ([.int x, .int y]) ++ List.replicate (2 - (lg_sl ([.int x, .int y])).length) Slot.unset).toArray = ls at hl ⊢
  have hl : lv_has ls 2 [(0, .int x), (1, .int y)] := hl
  refine lv_iload_n hx hb dX0_quotientRoundedUp_0 rfl (lv_at hl 0 rfl) ?_
  refine lv_iload_n hx hb dX0_quotientRoundedUp_1 rfl (lv_at hl 1 rfl) ?_
  refine lv_iadd hx hb dX0_quotientRoundedUp_2 ?_
  refine lv_iconst (v := 1) hx hb dX0_quotientRoundedUp_3 (by decide) ?_
  refine lv_isub hx hb dX0_quotientRoundedUp_4 ?_
  refine lv_iload_n hx hb dX0_quotientRoundedUp_5 rfl (lv_at hl 1 rfl) ?_
  refine lv_idiv hx hb dX0_quotientRoundedUp_6 hy ?_
  exact W.iret (v := ((x + y) - 1) / y) hx hb hr (fun t ht hW => ⟨congrArg (fun z => Outcome.returned (some (Value.int z))) (rfl), ht⟩) (fun _ h => nomatch h) dX0_quotientRoundedUp_7
end
section
abbrev rmX0_resize : Room := { frames := 0, cells := 0, slots := 0, locals := 0 }
set_option maxHeartbeats 4000000 in
set_option maxRecDepth 100000 in
theorem c_X0_resize (l : Launch) (G : Gt) (sz : Nat) (o w : Nat) (d g : Int32) (f : Nat → Int32) (x y : Int32) (v : Nat) (ex : x = nI v) (hv : v < 10) : Met l yX0_resize wsX0_resize rmX0_resize (mu_P G sz [.ref o, .int x, .int y] [(o, .inr (0, [.ref w, .int d, .int g])), (w, eI G 10 f)]) (mu_Q G none [(o, .inr (0, [.ref w, .int d, .int g])), (w, eI G 10 (upd f v (rsz (f v) y)))] (va_A [(o, .inr (0, [.ref w, .int d, .int g])), (w, eI G 10 f)] sz)) 0 0 (va_A [(o, .inr (0, [.ref w, .int d, .int g])), (w, eI G 10 f)] sz) := by
  refine Met.ofW (cc := cX0_resize) (maxL := 3) (ret := none) (by decide) rfl ?_
  intro p e s m args below meth c s₁ B hml hv
  obtain ⟨rfl, hsz, hP, hD0, hK⟩ := hv
  have hx := B.exec
  have hb := B.bytes
  have hr := B.returns
  have hts := atoms_spec (ws := wsX0_resize) B.pre
  have hown : s.vm.findClass RX0 = some m.cls := findClass_of_methodNamed B.named
  have hlocks := B.notSynchronized
  subst hsz
  have hD := hD0.self (sz := s.heap.size)
  generalize hAe : va_A [(o, .inr (0, [.ref w, .int d, .int g])), (w, eI G 10 f)] s.heap.size = A at hD ⊢
  have hA : ∀ q : Nat, s.heap.size ≤ q → A q := fun q h => by rw [← hAe]; exact Or.inr h
  have hS : va_S A s.heap s.heap [] := va_S.rf
  have hinX0 : ∀ w ∈ u_ws RX0 TX0 3, w ∈ wsX0_resize := fun w h => List.mem_cons_of_mem _ (List.mem_append_right _ h)
  have hw1 := hts (.fieldLink RX0 9 "ChoiceBoard$Constraint" "weights" "[I") (by decide +kernel)
  have hl := lv_entry ([.ref o, .int x, .int y]) (n := 3) (Nat.le_of_ble_eq_true rfl)
  rw [lg_entry_eq]
  generalize (lg_sl ([.ref o, .int x, .int y]) ++ List.replicate (3 - (lg_sl ([.ref o, .int x, .int y])).length) Slot.unset).toArray = ls at hl ⊢
  have hl : lv_has ls 3 [(0, .ref o), (1, .int x), (2, .int y)] := hl
  refine lv_aload_n hx hb dX0_resize_0 rfl (lv_at hl 0 rfl) ?_
  refine va_get (D := G.1) (ci := 0) (v := .ref w) (C := RX0) (T := TX0) (N := 3) hx hb hts hinX0 hown hK.1 hP 0 rfl rfl 0 (by decide) hw1 (fun _ h9 => h9) rfl dX0_resize_1 ?_
  refine lv_iload_n hx hb dX0_resize_4 rfl (lv_at hl 1 rfl) ?_
  refine lv_aload_n hx hb dX0_resize_5 rfl (lv_at hl 0 rfl) ?_
  refine va_get (D := G.1) (ci := 0) (v := .ref w) (C := RX0) (T := TX0) (N := 3) hx hb hts hinX0 hown hK.1 hP 0 rfl rfl 0 (by decide) hw1 (fun _ h9 => h9) rfl dX0_resize_6 ?_
  refine lv_iload_n hx hb dX0_resize_9 rfl (lv_at hl 1 rfl) ?_
  refine ra_iald (f := f) (v := v) hx hb hK.1 hP 1 0 rfl rfl ex (by omega) (by decide) dX0_resize_10 ?_
  refine lv_if_ge (tgt := 19) hx hb dX0_resize_11 (by decide) (fun c_11 => ?_) (fun c_11 => ?_)
  · refine lv_iload_n hx hb dX0_resize_19 rfl (lv_at hl 2 rfl) ?_
    refine ra_iast (v := v) hx hb hK.1 hP hD hS 1 0 rfl rfl ex (by omega) (by decide) dX0_resize_20 (fun H locs hP hD hS => ?_)
    have hP : va_P G.1 vwCl [(o, .inr (0, [.ref w, .int d, .int g])), (w, eI G 10 (upd f v y))] H := hP
    have hD : va_D A [(o, .inr (0, [.ref w, .int d, .int g])), (w, eI G 10 (upd f v y))] := hD
    have eA20 : upd f v y = upd f v (rsz (f v) y) := by rw [show rsz (f v) y = y from if_neg (Int32.not_lt.mpr c_11)]
    rw [eA20] at hP hD
    have hP9 := hP.sub (ws' := [(o, .inr (0, [.ref w, .int d, .int g])), (w, eI G 10 (upd f v (rsz (f v) y)))]) [0, 1] rfl
    have hD9 := hD.sub (ws' := [(o, .inr (0, [.ref w, .int d, .int g])), (w, eI G 10 (upd f v (rsz (f v) y)))]) [0, 1] (by decide) rfl
    exact W.vret hx hb hr (fun t ht hW => ⟨rfl, by rw [ht]; exact hP9, hD9, hS.F ht⟩) hS.2.2 dX0_resize_21
  · refine lv_iload_n hx hb dX0_resize_14 rfl (lv_at hl 2 rfl) ?_
    refine lv_ineg hx hb dX0_resize_15 ?_
    refine lv_goto (tgt := 20) hx hb dX0_resize_16 (by decide) ?_
    refine ra_iast (v := v) hx hb hK.1 hP hD hS 1 0 rfl rfl ex (by omega) (by decide) dX0_resize_20 (fun H locs hP hD hS => ?_)
    have hP : va_P G.1 vwCl [(o, .inr (0, [.ref w, .int d, .int g])), (w, eI G 10 (upd f v (-y)))] H := hP
    have hD : va_D A [(o, .inr (0, [.ref w, .int d, .int g])), (w, eI G 10 (upd f v (-y)))] := hD
    have eA20 : upd f v (-y) = upd f v (rsz (f v) y) := by rw [show rsz (f v) y = -y from if_pos (Int32.not_le.mp c_11)]
    rw [eA20] at hP hD
    have hP9 := hP.sub (ws' := [(o, .inr (0, [.ref w, .int d, .int g])), (w, eI G 10 (upd f v (rsz (f v) y)))]) [0, 1] rfl
    have hD9 := hD.sub (ws' := [(o, .inr (0, [.ref w, .int d, .int g])), (w, eI G 10 (upd f v (rsz (f v) y)))]) [0, 1] (by decide) rfl
    exact W.vret hx hb hr (fun t ht hW => ⟨rfl, by rw [ht]; exact hP9, hD9, hS.F ht⟩) hS.2.2 dX0_resize_21

abbrev rmX0_giveUp : Room := { frames := 2, cells := 0, slots := 0, locals := 42 }
set_option maxHeartbeats 4000000 in
set_option maxRecDepth 100000 in
theorem c_X0_giveUp (l : Launch) (G : Gt) (sz : Nat) (o w : Nat) (d g : Int32) (f : Nat → Int32) (x : Int32) (v : Nat) (ex : x = nI v) (hv : v < 10) : Met l yX0_giveUp wsX0_giveUp rmX0_giveUp (mu_P G sz [.ref o, .int x] [(o, .inr (0, [.ref w, .int d, .int g])), (w, eI G 10 f)]) (mu_Q G none [(o, .inr (0, [.ref w, .int (maxI (d - (absI (f v))) 0), .int g])), (w, eI G 10 (upd f v 0))] (va_A [(o, .inr (0, [.ref w, .int d, .int g])), (w, eI G 10 f)] sz)) 0 0 (va_A [(o, .inr (0, [.ref w, .int d, .int g])), (w, eI G 10 f)] sz) := by
  refine Met.ofW (cc := cX0_giveUp) (maxL := 2) (ret := none) (by decide) rfl ?_
  intro p e s m args below meth c s₁ B hml hv
  obtain ⟨rfl, hsz, hP, hD0, hK⟩ := hv
  have hx := B.exec
  have hb := B.bytes
  have hr := B.returns
  have hts := atoms_spec (ws := wsX0_giveUp) B.pre
  have hown : s.vm.findClass RX0 = some m.cls := findClass_of_methodNamed B.named
  have hlocks := B.notSynchronized
  subst hsz
  have hD := hD0.self (sz := s.heap.size)
  generalize hAe : va_A [(o, .inr (0, [.ref w, .int d, .int g])), (w, eI G 10 f)] s.heap.size = A at hD ⊢
  have hA : ∀ q : Nat, s.heap.size ≤ q → A q := fun q h => by rw [← hAe]; exact Or.inr h
  have hS : va_S A s.heap s.heap [] := va_S.rf
  have hinX0 : ∀ w ∈ u_ws RX0 TX0 3, w ∈ wsX0_giveUp := fun w h => List.mem_cons_of_mem _ (List.mem_append_right _ h)
  have hw1 := hts (.fieldLink RX0 15 "ChoiceBoard$Constraint" "degree" "I") (by decide +kernel)
  have hw2 := hts (.methodLink RX0 37 Lib.Math.max.name) (by decide +kernel)
  have hw3 := hts (.static Lib.Math.max.name) (by decide +kernel)
  have hw4 := hts (.initialized "java/lang/Math") (by decide +kernel)
  have hw5 := hts (.code Lib.Math.max.name Lib.Math.max.code 2 (some .int)) (by decide +kernel)
  have hw6 := hts (.fieldLink RX0 9 "ChoiceBoard$Constraint" "weights" "[I") (by decide +kernel)
  have hl := lv_entry ([.ref o, .int x]) (n := 2) (Nat.le_of_ble_eq_true rfl)
  rw [lg_entry_eq]
  generalize (lg_sl ([.ref o, .int x]) ++ List.replicate (2 - (lg_sl ([.ref o, .int x])).length) Slot.unset).toArray = ls at hl ⊢
  have hl : lv_has ls 2 [(0, .ref o), (1, .int x)] := hl
  refine lv_aload_n hx hb dX0_giveUp_0 rfl (lv_at hl 0 rfl) ?_
  refine lv_aload_n hx hb dX0_giveUp_1 rfl (lv_at hl 0 rfl) ?_
  refine va_get (D := G.1) (ci := 0) (v := .int d) (C := RX0) (T := TX0) (N := 3) hx hb hts hinX0 hown hK.1 hP 0 rfl rfl 1 (by decide) hw1 (fun _ h9 => h9) rfl dX0_giveUp_2 ?_
  refine lv_aload_n hx hb dX0_giveUp_5 rfl (lv_at hl 0 rfl) ?_
  refine lv_iload_n hx hb dX0_giveUp_6 rfl (lv_at hl 1 rfl) ?_
  refine ro_call (va_runV (As := [.int x]) (rest := [.int d, .ref o]) ⟨hx, hb, hml, hown, hts⟩ (c_X0_size l G o w d g f x v ex (by omega)) (cwV 1 hts gX0_giveUp_X0_size rfl rfl rfl (by decide +kernel) ⟨Nat.le_of_ble_eq_true rfl, Nat.le_of_ble_eq_true rfl⟩) ⟨ro_blind, va_recv hK.1 hP (ci := 0) (q0 := 0) rfl rfl, ro_pre _ (hP.sub [0, 1] rfl) hK⟩ rfl rfl hl.1 rfl (lv_room (Nat.le_of_ble_eq_true rfl)) dX0_giveUp_7 ⟨Nat.le_refl _, Nat.le_refl _⟩) ?_
  refine lv_isub hx hb dX0_giveUp_10 ?_
  refine lv_iconst (v := 0) hx hb dX0_giveUp_11 (by decide) ?_
  refine va_mmax hx hb (hml.trans hl.1.symm) hown hw2 hw3 hw4 hw5 (Nat.le_of_ble_eq_true rfl) (Nat.le_of_ble_eq_true rfl) (Nat.le_refl _) (Nat.le_refl _) dX0_giveUp_12 ?_
  refine va_put (D := G.1) (ci := 0) (v := .int (maxI (d - (absI (f v))) 0)) (ty := .int) (C := RX0) (T := TX0) (N := 3) hx hb hts hinX0 tyX0 tyX0_ok nmX0 hown hK.1 hP hD hS 0 rfl rfl 1 (by decide) hw1 (fun _ h9 => h9) rfl (by decide +kernel) rfl rfl (Nat.le_of_ble_eq_true rfl) dX0_giveUp_15 (fun H locs hP hD hS => ?_)
  have hP : va_P G.1 vwCl [(o, .inr (0, [.ref w, .int (maxI (d - (absI (f v))) 0), .int g])), (w, eI G 10 f)] H := hP
  have hD : va_D A [(o, .inr (0, [.ref w, .int (maxI (d - (absI (f v))) 0), .int g])), (w, eI G 10 f)] := hD
  refine lv_aload_n hx hb dX0_giveUp_18 rfl (lv_at hl 0 rfl) ?_
  refine va_get (D := G.1) (ci := 0) (v := .ref w) (C := RX0) (T := TX0) (N := 3) hx hb hts hinX0 hown hK.1 hP 0 rfl rfl 0 (by decide) hw6 (fun _ h9 => h9) rfl dX0_giveUp_19 ?_
  refine lv_iload_n hx hb dX0_giveUp_22 rfl (lv_at hl 1 rfl) ?_
  refine lv_iconst (v := 0) hx hb dX0_giveUp_23 (by decide) ?_
  refine ra_iast (v := v) hx hb hK.1 hP hD hS 1 0 rfl rfl ex (by omega) (by decide) dX0_giveUp_24 (fun H locs hP hD hS => ?_)
  have hP : va_P G.1 vwCl [(o, .inr (0, [.ref w, .int (maxI (d - (absI (f v))) 0), .int g])), (w, eI G 10 (upd f v 0))] H := hP
  have hD : va_D A [(o, .inr (0, [.ref w, .int (maxI (d - (absI (f v))) 0), .int g])), (w, eI G 10 (upd f v 0))] := hD
  have hP9 := hP.sub (ws' := [(o, .inr (0, [.ref w, .int (maxI (d - (absI (f v))) 0), .int g])), (w, eI G 10 (upd f v 0))]) [0, 1] rfl
  have hD9 := hD.sub (ws' := [(o, .inr (0, [.ref w, .int (maxI (d - (absI (f v))) 0), .int g])), (w, eI G 10 (upd f v 0))]) [0, 1] (by decide) rfl
  exact W.vret hx hb hr (fun t ht hW => ⟨rfl, by rw [ht]; exact hP9, hD9, hS.F ht⟩) hS.2.2 dX0_giveUp_25

abbrev rmX0_turnToContrary : Room := { frames := 3, cells := 0, slots := 0, locals := 64 }
set_option maxHeartbeats 4000000 in
set_option maxRecDepth 100000 in
theorem c_X0_turnToContrary (l : Launch) (G : Gt) (sz : Nat) (o w : Nat) (d g : Int32) (f : Nat → Int32) : Met l yX0_turnToContrary wsX0_turnToContrary rmX0_turnToContrary (mu_P G sz [.ref o] [(o, .inr (0, [.ref w, .int d, .int g])), (w, eI G 10 f)]) (mu_Q G none [(o, .inr (0, [.ref w, .int (maxI (szs f + 1 - d) 0), .int g])), (w, eI G 10 (mixf 10 (fun v => -(f v)) f))] (va_A [(o, .inr (0, [.ref w, .int d, .int g])), (w, eI G 10 f)] sz)) 0 0 (va_A [(o, .inr (0, [.ref w, .int d, .int g])), (w, eI G 10 f)] sz) := by
  refine Met.ofW (cc := cX0_turnToContrary) (maxL := 2) (ret := none) (by decide) rfl ?_
  intro p e s m args below meth c s₁ B hml hv
  obtain ⟨rfl, hsz, hP, hD0, hK⟩ := hv
  have hx := B.exec
  have hb := B.bytes
  have hr := B.returns
  have hts := atoms_spec (ws := wsX0_turnToContrary) B.pre
  have hown : s.vm.findClass RX0 = some m.cls := findClass_of_methodNamed B.named
  have hlocks := B.notSynchronized
  subst hsz
  have hD := hD0.self (sz := s.heap.size)
  generalize hAe : va_A [(o, .inr (0, [.ref w, .int d, .int g])), (w, eI G 10 f)] s.heap.size = A at hD ⊢
  have hA : ∀ q : Nat, s.heap.size ≤ q → A q := fun q h => by rw [← hAe]; exact Or.inr h
  have hS : va_S A s.heap s.heap [] := va_S.rf
  have hinX0 : ∀ w ∈ u_ws RX0 TX0 3, w ∈ wsX0_turnToContrary := fun w h => List.mem_cons_of_mem _ (List.mem_append_right _ h)
  have hw1 := hts (.fieldLink RX0 15 "ChoiceBoard$Constraint" "degree" "I") (by decide +kernel)
  have hw2 := hts (.methodLink RX0 37 Lib.Math.max.name) (by decide +kernel)
  have hw3 := hts (.static Lib.Math.max.name) (by decide +kernel)
  have hw4 := hts (.initialized "java/lang/Math") (by decide +kernel)
  have hw5 := hts (.code Lib.Math.max.name Lib.Math.max.code 2 (some .int)) (by decide +kernel)
  have hw6 := hts (.fieldLink RX0 9 "ChoiceBoard$Constraint" "weights" "[I") (by decide +kernel)
  have hl := lv_entry ([.ref o]) (n := 2) (Nat.le_of_ble_eq_true rfl)
  rw [lg_entry_eq]
  generalize (lg_sl ([.ref o]) ++ List.replicate (2 - (lg_sl ([.ref o])).length) Slot.unset).toArray = ls at hl ⊢
  have hl : lv_has ls 2 [(0, .ref o)] := hl
  refine lv_aload_n hx hb dX0_turnToContrary_0 rfl (lv_at hl 0 rfl) ?_
  refine lv_aload_n hx hb dX0_turnToContrary_1 rfl (lv_at hl 0 rfl) ?_
  refine ro_call (va_runV (As := []) (rest := [.ref o]) ⟨hx, hb, hml, hown, hts⟩ (c_X0_sizeOfAll l G o w d g f) (cwV 0 hts gX0_turnToContrary_X0_sizeOfAll rfl rfl rfl (by decide +kernel) ⟨Nat.le_of_ble_eq_true rfl, Nat.le_of_ble_eq_true rfl⟩) ⟨ro_blind, va_recv hK.1 hP (ci := 0) (q0 := 0) rfl rfl, ro_pre _ (hP.sub [0, 1] rfl) hK⟩ rfl rfl hl.1 rfl (lv_room (Nat.le_of_ble_eq_true rfl)) dX0_turnToContrary_2 ⟨Nat.le_refl _, Nat.le_refl _⟩) ?_
  refine lv_iconst (v := 1) hx hb dX0_turnToContrary_5 (by decide) ?_
  refine lv_iadd hx hb dX0_turnToContrary_6 ?_
  refine lv_aload_n hx hb dX0_turnToContrary_7 rfl (lv_at hl 0 rfl) ?_
  refine va_get (D := G.1) (ci := 0) (v := .int d) (C := RX0) (T := TX0) (N := 3) hx hb hts hinX0 hown hK.1 hP 0 rfl rfl 1 (by decide) hw1 (fun _ h9 => h9) rfl dX0_turnToContrary_8 ?_
  refine lv_isub hx hb dX0_turnToContrary_11 ?_
  refine lv_iconst (v := 0) hx hb dX0_turnToContrary_12 (by decide) ?_
  refine va_mmax hx hb (hml.trans hl.1.symm) hown hw2 hw3 hw4 hw5 (Nat.le_of_ble_eq_true rfl) (Nat.le_of_ble_eq_true rfl) (Nat.le_refl _) (Nat.le_refl _) dX0_turnToContrary_13 ?_
  refine va_put (D := G.1) (ci := 0) (v := .int (maxI (((szs f) + 1) - d) 0)) (ty := .int) (C := RX0) (T := TX0) (N := 3) hx hb hts hinX0 tyX0 tyX0_ok nmX0 hown hK.1 hP hD hS 0 rfl rfl 1 (by decide) hw1 (fun _ h9 => h9) rfl (by decide +kernel) rfl rfl (Nat.le_of_ble_eq_true rfl) dX0_turnToContrary_16 (fun H locs hP hD hS => ?_)
  have hP : va_P G.1 vwCl [(o, .inr (0, [.ref w, .int (maxI (((szs f) + 1) - d) 0), .int g])), (w, eI G 10 f)] H := hP
  have hD : va_D A [(o, .inr (0, [.ref w, .int (maxI (((szs f) + 1) - d) 0), .int g])), (w, eI G 10 f)] := hD
  refine lv_iconst (v := 0) hx hb dX0_turnToContrary_19 (by decide) ?_
  refine lv_istore_n (lv' := [(1, .int 0), (0, .ref o)]) hx hb dX0_turnToContrary_20 rfl hl (by decide) rfl (fun ls hl => ?_)
  have loop_21 : ∀ (n_21 i : Nat) (xi : Int32) (h : Nat → Int32), i ≤ 10 → 10 + 1 ≤ i + n_21 → (xi = nI i) → (h = mixf i (fun v => -(f v)) f) → ∀ (H : Heap) (locs : List Loc), va_P G.1 vwCl [(o, .inr (0, [.ref w, .int (maxI (szs f + 1 - d) 0), .int g])), (w, eI G 10 h)] H → va_D A [(o, .inr (0, [.ref w, .int (maxI (szs f + 1 - d) 0), .int g])), (w, eI G 10 h)] → va_S A s.heap H locs → ∀ ls : Array Slot, lv_has ls 2 [(0, .ref o), (1, .int xi)] → W p l e rmX0_turnToContrary s m [.ref o].toArray below meth c H locs 0 0 (MQ below (mu_Q G none [(o, .inr (0, [.ref w, .int (maxI (szs f + 1 - d) 0), .int g])), (w, eI G 10 (mixf 10 (fun v => -(f v)) f))] A) [.ref o].toArray s 0 0 A) (F0 m 21 ls []) := by
    intro n_21
    induction n_21 with
    | zero => intro i xi h h1 h2; exact absurd h2 (by omega)
    | succ n_21 ih_21 =>
      intro i xi h hi_21 hn_21 ei eh H locs hP hD hS ls hl
      refine lv_iload_n hx hb dX0_turnToContrary_21 rfl (lv_at hl 1 rfl) ?_
      refine lv_bipush (v := 10) hx hb dX0_turnToContrary_22 (by decide) ?_
      refine lv_icmp_ge (tgt := 46) hx hb dX0_turnToContrary_24 (by decide) (fun c_24 => ?_) (fun c_24 => ?_)
      · have hN : i = 10 := ge_ix ei (by decide) (by decide) c_24 hi_21
        rw [eh, hN] at hP hD
        have hP9 := hP.sub (ws' := [(o, .inr (0, [.ref w, .int (maxI (szs f + 1 - d) 0), .int g])), (w, eI G 10 (mixf 10 (fun v => -(f v)) f))]) [0, 1] rfl
        have hD9 := hD.sub (ws' := [(o, .inr (0, [.ref w, .int (maxI (szs f + 1 - d) 0), .int g])), (w, eI G 10 (mixf 10 (fun v => -(f v)) f))]) [0, 1] (by decide) rfl
        exact W.vret hx hb hr (fun t ht hW => ⟨rfl, by rw [ht]; exact hP9, hD9, hS.F ht⟩) hS.2.2 dX0_turnToContrary_46
      · have hlt : i < 10 := lt_ix ei (by decide) (by decide) c_24 hi_21
        refine lv_aload_n hx hb dX0_turnToContrary_27 rfl (lv_at hl 0 rfl) ?_
        refine va_get (D := G.1) (ci := 0) (v := .ref w) (C := RX0) (T := TX0) (N := 3) hx hb hts hinX0 hown hK.1 hP 0 rfl rfl 0 (by decide) hw6 (fun _ h9 => h9) rfl dX0_turnToContrary_28 ?_
        refine lv_iload_n hx hb dX0_turnToContrary_31 rfl (lv_at hl 1 rfl) ?_
        refine lv_aload_n hx hb dX0_turnToContrary_32 rfl (lv_at hl 0 rfl) ?_
        refine va_get (D := G.1) (ci := 0) (v := .ref w) (C := RX0) (T := TX0) (N := 3) hx hb hts hinX0 hown hK.1 hP 0 rfl rfl 0 (by decide) hw6 (fun _ h9 => h9) rfl dX0_turnToContrary_33 ?_
        refine lv_iload_n hx hb dX0_turnToContrary_36 rfl (lv_at hl 1 rfl) ?_
        refine ra_iald (f := h) (v := i) hx hb hK.1 hP 1 0 rfl rfl ei (by omega) (by decide) dX0_turnToContrary_37 ?_
        refine lv_ineg hx hb dX0_turnToContrary_38 ?_
        refine ra_iast (v := i) hx hb hK.1 hP hD hS 1 0 rfl rfl ei (by omega) (by decide) dX0_turnToContrary_39 (fun H locs hP hD hS => ?_)
        have hP : va_P G.1 vwCl [(o, .inr (0, [.ref w, .int (maxI (szs f + 1 - d) 0), .int g])), (w, eI G 10 (upd h i (-(h i))))] H := hP
        have hD : va_D A [(o, .inr (0, [.ref w, .int (maxI (szs f + 1 - d) 0), .int g])), (w, eI G 10 (upd h i (-(h i))))] := hD
        refine lv_iinc (v := xi + 1) (lv' := [(1, .int (xi + 1)), (0, .ref o)]) hx hb dX0_turnToContrary_40 hl (k := 1) rfl rfl (by decide) rfl (fun ls hl => ?_)
        refine lv_goto (tgt := 21) hx hb dX0_turnToContrary_43 (by decide) ?_
        exact ih_21 (i + 1) _ _ (by omega) (by omega) (by rw [ei]; exact nI_1 i) (by rw [eh, mixf_hi _ _ (Nat.le_refl i)]; exact mixf_s i (fun v => -(f v)) f) _ _ (hP.sub [0, 1] rfl) (hD.sub [0, 1] (by decide) rfl) hS ls (lv_sub hl [1, 0] rfl)
  exact loop_21 (10 + 1) 0 _ _ (Nat.zero_le _) (by omega) (by exact nI_0.symm) (by exact (mixf_0 _ _).symm) _ _ (hP.sub [0, 1] rfl) (hD.sub [0, 1] (by decide) rfl) hS ls (lv_sub hl [1, 0] rfl)

abbrev rmX0_limitSizesToDegree : Room := { frames := 2, cells := 0, slots := 0, locals := 42 }
set_option maxHeartbeats 4000000 in
set_option maxRecDepth 100000 in
theorem c_X0_limitSizesToDegree (l : Launch) (G : Gt) (sz : Nat) (o w : Nat) (d g : Int32) (f : Nat → Int32) : Met l yX0_limitSizesToDegree wsX0_limitSizesToDegree rmX0_limitSizesToDegree (mu_P G sz [.ref o] [(o, .inr (0, [.ref w, .int d, .int g])), (w, eI G 10 f)]) (mu_Q G none [(o, .inr (0, [.ref w, .int d, .int g])), (w, eI G 10 (mixf 10 (fun v => rsz (f v) (minI (absI (f v)) d)) f))] (va_A [(o, .inr (0, [.ref w, .int d, .int g])), (w, eI G 10 f)] sz)) 0 0 (va_A [(o, .inr (0, [.ref w, .int d, .int g])), (w, eI G 10 f)] sz) := by
  refine Met.ofW (cc := cX0_limitSizesToDegree) (maxL := 2) (ret := none) (by decide) rfl ?_
  intro p e s m args below meth c s₁ B hml hv
  obtain ⟨rfl, hsz, hP, hD0, hK⟩ := hv
  have hx := B.exec
  have hb := B.bytes
  have hr := B.returns
  have hts := atoms_spec (ws := wsX0_limitSizesToDegree) B.pre
  have hown : s.vm.findClass RX0 = some m.cls := findClass_of_methodNamed B.named
  have hlocks := B.notSynchronized
  subst hsz
  have hD := hD0.self (sz := s.heap.size)
  generalize hAe : va_A [(o, .inr (0, [.ref w, .int d, .int g])), (w, eI G 10 f)] s.heap.size = A at hD ⊢
  have hA : ∀ q : Nat, s.heap.size ≤ q → A q := fun q h => by rw [← hAe]; exact Or.inr h
  have hS : va_S A s.heap s.heap [] := va_S.rf
  have hinX0 : ∀ w ∈ u_ws RX0 TX0 3, w ∈ wsX0_limitSizesToDegree := fun w h => List.mem_cons_of_mem _ (List.mem_append_right _ h)
  have hw1 := hts (.fieldLink RX0 15 "ChoiceBoard$Constraint" "degree" "I") (by decide +kernel)
  have hw2 := hts (.methodLink RX0 53 Lib.Math.min.name) (by decide +kernel)
  have hw3 := hts (.static Lib.Math.min.name) (by decide +kernel)
  have hw4 := hts (.initialized "java/lang/Math") (by decide +kernel)
  have hw5 := hts (.code Lib.Math.min.name Lib.Math.min.code 2 (some .int)) (by decide +kernel)
  have hl := lv_entry ([.ref o]) (n := 2) (Nat.le_of_ble_eq_true rfl)
  rw [lg_entry_eq]
  generalize (lg_sl ([.ref o]) ++ List.replicate (2 - (lg_sl ([.ref o])).length) Slot.unset).toArray = ls at hl ⊢
  have hl : lv_has ls 2 [(0, .ref o)] := hl
  refine lv_iconst (v := 0) hx hb dX0_limitSizesToDegree_0 (by decide) ?_
  refine lv_istore_n (lv' := [(1, .int 0), (0, .ref o)]) hx hb dX0_limitSizesToDegree_1 rfl hl (by decide) rfl (fun ls hl => ?_)
  have loop_2 : ∀ (n_2 i : Nat) (xi : Int32) (h : Nat → Int32), i ≤ 10 → 10 + 1 ≤ i + n_2 → (xi = nI i) → (h = mixf i (fun v => rsz (f v) (minI (absI (f v)) d)) f) → ∀ (H : Heap) (locs : List Loc), va_P G.1 vwCl [(o, .inr (0, [.ref w, .int d, .int g])), (w, eI G 10 h)] H → va_D A [(o, .inr (0, [.ref w, .int d, .int g])), (w, eI G 10 h)] → va_S A s.heap H locs → ∀ ls : Array Slot, lv_has ls 2 [(0, .ref o), (1, .int xi)] → W p l e rmX0_limitSizesToDegree s m [.ref o].toArray below meth c H locs 0 0 (MQ below (mu_Q G none [(o, .inr (0, [.ref w, .int d, .int g])), (w, eI G 10 (mixf 10 (fun v => rsz (f v) (minI (absI (f v)) d)) f))] A) [.ref o].toArray s 0 0 A) (F0 m 2 ls []) := by
    intro n_2
    induction n_2 with
    | zero => intro i xi h h1 h2; exact absurd h2 (by omega)
    | succ n_2 ih_2 =>
      intro i xi h hi_2 hn_2 ei eh H locs hP hD hS ls hl
      refine lv_iload_n hx hb dX0_limitSizesToDegree_2 rfl (lv_at hl 1 rfl) ?_
      refine lv_bipush (v := 10) hx hb dX0_limitSizesToDegree_3 (by decide) ?_
      refine lv_icmp_ge (tgt := 31) hx hb dX0_limitSizesToDegree_5 (by decide) (fun c_5 => ?_) (fun c_5 => ?_)
      · have hN : i = 10 := ge_ix ei (by decide) (by decide) c_5 hi_2
        rw [eh, hN] at hP hD
        have hP9 := hP.sub (ws' := [(o, .inr (0, [.ref w, .int d, .int g])), (w, eI G 10 (mixf 10 (fun v => rsz (f v) (minI (absI (f v)) d)) f))]) [0, 1] rfl
        have hD9 := hD.sub (ws' := [(o, .inr (0, [.ref w, .int d, .int g])), (w, eI G 10 (mixf 10 (fun v => rsz (f v) (minI (absI (f v)) d)) f))]) [0, 1] (by decide) rfl
        exact W.vret hx hb hr (fun t ht hW => ⟨rfl, by rw [ht]; exact hP9, hD9, hS.F ht⟩) hS.2.2 dX0_limitSizesToDegree_31
      · have hlt : i < 10 := lt_ix ei (by decide) (by decide) c_5 hi_2
        refine lv_aload_n hx hb dX0_limitSizesToDegree_8 rfl (lv_at hl 0 rfl) ?_
        refine lv_iload_n hx hb dX0_limitSizesToDegree_9 rfl (lv_at hl 1 rfl) ?_
        refine lv_aload_n hx hb dX0_limitSizesToDegree_10 rfl (lv_at hl 0 rfl) ?_
        refine lv_iload_n hx hb dX0_limitSizesToDegree_11 rfl (lv_at hl 1 rfl) ?_
        refine ro_call (va_runV (As := [.int xi]) (rest := [.int xi, .ref o]) ⟨hx, hb, hml, hown, hts⟩ (c_X0_size l G o w d g h xi i ei (by omega)) (cwV 1 hts gX0_limitSizesToDegree_X0_size rfl rfl rfl (by decide +kernel) ⟨Nat.le_of_ble_eq_true rfl, Nat.le_of_ble_eq_true rfl⟩) ⟨ro_blind, va_recv hK.1 hP (ci := 0) (q0 := 0) rfl rfl, ro_pre _ (hP.sub [0, 1] rfl) hK⟩ rfl rfl hl.1 rfl (lv_room (Nat.le_of_ble_eq_true rfl)) dX0_limitSizesToDegree_12 ⟨Nat.le_refl _, Nat.le_refl _⟩) ?_
        refine lv_aload_n hx hb dX0_limitSizesToDegree_15 rfl (lv_at hl 0 rfl) ?_
        refine va_get (D := G.1) (ci := 0) (v := .int d) (C := RX0) (T := TX0) (N := 3) hx hb hts hinX0 hown hK.1 hP 0 rfl rfl 1 (by decide) hw1 (fun _ h9 => h9) rfl dX0_limitSizesToDegree_16 ?_
        refine va_mmin hx hb (hml.trans hl.1.symm) hown hw2 hw3 hw4 hw5 (Nat.le_of_ble_eq_true rfl) (Nat.le_of_ble_eq_true rfl) (Nat.le_refl _) (Nat.le_refl _) dX0_limitSizesToDegree_19 ?_
        refine mu_call (va_runV (As := [.int xi, .int (minI (absI (h i)) d)]) (rest := []) ⟨hx, hb, hml, hown, hts⟩ (c_X0_resize l G _ o w d g h xi (minI (absI (h i)) d) i ei (by omega)) (cwV 2 hts gX0_limitSizesToDegree_X0_resize rfl rfl rfl (by decide +kernel) ⟨Nat.le_of_ble_eq_true rfl, Nat.le_of_ble_eq_true rfl⟩) ⟨mu_blind, va_recv hK.1 hP (ci := 0) (q0 := 0) rfl rfl, mu_pre _ (hP.sub [0, 1] rfl) (hD.sub [0, 1] (by decide) rfl) hK⟩ rfl rfl hl.1 rfl (lv_room (Nat.le_of_ble_eq_true rfl)) dX0_limitSizesToDegree_22 ⟨Nat.le_refl _, Nat.le_refl _⟩) hS (va_free hD hS hA [0, 1] rfl) (va_free hD hS hA [0, 1] rfl) (fun H1 locs hP1 hD1 hk1 hS => ?_)
        obtain ⟨hP, hD⟩ := rp_join (ws' := [(o, .inr (0, [.ref w, .int d, .int g])), (w, eI G 10 (upd h i (rsz (h i) (minI (absI (h i)) d))))]) hP hD [0, 1] rfl hk1 hP1 (fun k q h => match k, q, h with | 0, q, h => Or.inl ⟨0, h⟩ | 1, q, h => Or.inl ⟨1, h⟩ | k + 2, q, h => nomatch h) rfl
        generalize H1 = H at hP hS ⊢
        have hP : va_P G.1 vwCl [(o, .inr (0, [.ref w, .int d, .int g])), (w, eI G 10 (upd h i (rsz (h i) (minI (absI (h i)) d))))] H := hP
        have hD : va_D A [(o, .inr (0, [.ref w, .int d, .int g])), (w, eI G 10 (upd h i (rsz (h i) (minI (absI (h i)) d))))] := hD
        refine lv_iinc (v := xi + 1) (lv' := [(1, .int (xi + 1)), (0, .ref o)]) hx hb dX0_limitSizesToDegree_25 hl (k := 1) rfl rfl (by decide) rfl (fun ls hl => ?_)
        refine lv_goto (tgt := 2) hx hb dX0_limitSizesToDegree_28 (by decide) ?_
        exact ih_2 (i + 1) _ _ (by omega) (by omega) (by rw [ei]; exact nI_1 i) (by rw [eh, mixf_hi _ _ (Nat.le_refl i)]; exact mixf_s i (fun v => rsz (f v) (minI (absI (f v)) d)) f) _ _ (hP.sub [0, 1] rfl) (hD.sub [0, 1] (by decide) rfl) hS ls (lv_sub hl [1, 0] rfl)
  exact loop_2 (10 + 1) 0 _ _ (Nat.zero_le _) (by omega) (by exact nI_0.symm) (by exact (mixf_0 _ _).symm) _ _ (hP.sub [0, 1] rfl) (hD.sub [0, 1] (by decide) rfl) hS ls (lv_sub hl [1, 0] rfl)

abbrev rmX0_divideRoundingUp : Room := { frames := 2, cells := 0, slots := 0, locals := 42 }
set_option maxHeartbeats 4000000 in
set_option maxRecDepth 100000 in
theorem c_X0_divideRoundingUp (l : Launch) (G : Gt) (sz : Nat) (o w : Nat) (d g : Int32) (f : Nat → Int32) (x : Int32) (hx0 : ¬ x = 0) : Met l yX0_divideRoundingUp wsX0_divideRoundingUp rmX0_divideRoundingUp (mu_P G sz [.ref o, .int x] [(o, .inr (0, [.ref w, .int d, .int g])), (w, eI G 10 f)]) (mu_Q G none [(o, .inr (0, [.ref w, .int (quoI d x), .int g])), (w, eI G 10 (mixf 10 (fun v => rsz (f v) (quoI (absI (f v)) x)) f))] (va_A [(o, .inr (0, [.ref w, .int d, .int g])), (w, eI G 10 f)] sz)) 0 0 (va_A [(o, .inr (0, [.ref w, .int d, .int g])), (w, eI G 10 f)] sz) := by
  refine Met.ofW (cc := cX0_divideRoundingUp) (maxL := 3) (ret := none) (by decide) rfl ?_
  intro p e s m args below meth c s₁ B hml hv
  obtain ⟨rfl, hsz, hP, hD0, hK⟩ := hv
  have hx := B.exec
  have hb := B.bytes
  have hr := B.returns
  have hts := atoms_spec (ws := wsX0_divideRoundingUp) B.pre
  have hown : s.vm.findClass RX0 = some m.cls := findClass_of_methodNamed B.named
  have hlocks := B.notSynchronized
  subst hsz
  have hD := hD0.self (sz := s.heap.size)
  generalize hAe : va_A [(o, .inr (0, [.ref w, .int d, .int g])), (w, eI G 10 f)] s.heap.size = A at hD ⊢
  have hA : ∀ q : Nat, s.heap.size ≤ q → A q := fun q h => by rw [← hAe]; exact Or.inr h
  have hS : va_S A s.heap s.heap [] := va_S.rf
  have hinX0 : ∀ w ∈ u_ws RX0 TX0 3, w ∈ wsX0_divideRoundingUp := fun w h => List.mem_cons_of_mem _ (List.mem_append_right _ h)
  have hw1 := hts (.fieldLink RX0 15 "ChoiceBoard$Constraint" "degree" "I") (by decide +kernel)
  have hl := lv_entry ([.ref o, .int x]) (n := 3) (Nat.le_of_ble_eq_true rfl)
  rw [lg_entry_eq]
  generalize (lg_sl ([.ref o, .int x]) ++ List.replicate (3 - (lg_sl ([.ref o, .int x])).length) Slot.unset).toArray = ls at hl ⊢
  have hl : lv_has ls 3 [(0, .ref o), (1, .int x)] := hl
  refine lv_iconst (v := 0) hx hb dX0_divideRoundingUp_0 (by decide) ?_
  refine lv_istore_n (lv' := [(2, .int 0), (0, .ref o), (1, .int x)]) hx hb dX0_divideRoundingUp_1 rfl hl (by decide) rfl (fun ls hl => ?_)
  have loop_2 : ∀ (n_2 i : Nat) (xi : Int32) (h : Nat → Int32), i ≤ 10 → 10 + 1 ≤ i + n_2 → (xi = nI i) → (h = mixf i (fun v => rsz (f v) (quoI (absI (f v)) x)) f) → ∀ (H : Heap) (locs : List Loc), va_P G.1 vwCl [(o, .inr (0, [.ref w, .int d, .int g])), (w, eI G 10 h)] H → va_D A [(o, .inr (0, [.ref w, .int d, .int g])), (w, eI G 10 h)] → va_S A s.heap H locs → ∀ ls : Array Slot, lv_has ls 3 [(0, .ref o), (1, .int x), (2, .int xi)] → W p l e rmX0_divideRoundingUp s m [.ref o, .int x].toArray below meth c H locs 0 0 (MQ below (mu_Q G none [(o, .inr (0, [.ref w, .int (quoI d x), .int g])), (w, eI G 10 (mixf 10 (fun v => rsz (f v) (quoI (absI (f v)) x)) f))] A) [.ref o, .int x].toArray s 0 0 A) (F0 m 2 ls []) := by
    intro n_2
    induction n_2 with
    | zero => intro i xi h h1 h2; exact absurd h2 (by omega)
    | succ n_2 ih_2 =>
      intro i xi h hi_2 hn_2 ei eh H locs hP hD hS ls hl
      refine lv_iload_n hx hb dX0_divideRoundingUp_2 rfl (lv_at hl 2 rfl) ?_
      refine lv_bipush (v := 10) hx hb dX0_divideRoundingUp_3 (by decide) ?_
      refine lv_icmp_ge (tgt := 28) hx hb dX0_divideRoundingUp_5 (by decide) (fun c_5 => ?_) (fun c_5 => ?_)
      · have hN : i = 10 := ge_ix ei (by decide) (by decide) c_5 hi_2
        refine lv_aload_n hx hb dX0_divideRoundingUp_28 rfl (lv_at hl 0 rfl) ?_
        refine lv_aload_n hx hb dX0_divideRoundingUp_29 rfl (lv_at hl 0 rfl) ?_
        refine va_get (D := G.1) (ci := 0) (v := .int d) (C := RX0) (T := TX0) (N := 3) hx hb hts hinX0 hown hK.1 hP 0 rfl rfl 1 (by decide) hw1 (fun _ h9 => h9) rfl dX0_divideRoundingUp_30 ?_
        refine lv_iload_n hx hb dX0_divideRoundingUp_33 rfl (lv_at hl 1 rfl) ?_
        refine ro_call (va_runS (As := [.int d, .int x]) (rest := [.ref o]) ⟨hx, hb, hml, hown, hts⟩ (c_X0_quotientRoundedUp l G d x hx0) (va_cwS 2 hts gX0_divideRoundingUp_X0_quotientRoundedUp rfl rfl rfl (by decide +kernel) ⟨Nat.le_of_ble_eq_true rfl, Nat.le_of_ble_eq_true rfl⟩) ⟨ro_blind, ro_pre _ (hP.sub [] rfl) hK⟩ rfl rfl hl.1 rfl (lv_room (Nat.le_of_ble_eq_true rfl)) dX0_divideRoundingUp_34 ⟨Nat.le_refl _, Nat.le_refl _⟩) ?_
        refine va_put (D := G.1) (ci := 0) (v := .int (quoI d x)) (ty := .int) (C := RX0) (T := TX0) (N := 3) hx hb hts hinX0 tyX0 tyX0_ok nmX0 hown hK.1 hP hD hS 0 rfl rfl 1 (by decide) hw1 (fun _ h9 => h9) rfl (by decide +kernel) rfl rfl (Nat.le_of_ble_eq_true rfl) dX0_divideRoundingUp_37 (fun H locs hP hD hS => ?_)
        have hP : va_P G.1 vwCl [(o, .inr (0, [.ref w, .int (quoI d x), .int g])), (w, eI G 10 h)] H := hP
        have hD : va_D A [(o, .inr (0, [.ref w, .int (quoI d x), .int g])), (w, eI G 10 h)] := hD
        rw [eh, hN] at hP hD
        have hP9 := hP.sub (ws' := [(o, .inr (0, [.ref w, .int (quoI d x), .int g])), (w, eI G 10 (mixf 10 (fun v => rsz (f v) (quoI (absI (f v)) x)) f))]) [0, 1] rfl
        have hD9 := hD.sub (ws' := [(o, .inr (0, [.ref w, .int (quoI d x), .int g])), (w, eI G 10 (mixf 10 (fun v => rsz (f v) (quoI (absI (f v)) x)) f))]) [0, 1] (by decide) rfl
        exact W.vret hx hb hr (fun t ht hW => ⟨rfl, by rw [ht]; exact hP9, hD9, hS.F ht⟩) hS.2.2 dX0_divideRoundingUp_40
      · have hlt : i < 10 := lt_ix ei (by decide) (by decide) c_5 hi_2
        refine lv_aload_n hx hb dX0_divideRoundingUp_8 rfl (lv_at hl 0 rfl) ?_
        refine lv_iload_n hx hb dX0_divideRoundingUp_9 rfl (lv_at hl 2 rfl) ?_
        refine lv_aload_n hx hb dX0_divideRoundingUp_10 rfl (lv_at hl 0 rfl) ?_
        refine lv_iload_n hx hb dX0_divideRoundingUp_11 rfl (lv_at hl 2 rfl) ?_
        refine ro_call (va_runV (As := [.int xi]) (rest := [.int xi, .ref o]) ⟨hx, hb, hml, hown, hts⟩ (c_X0_size l G o w d g h xi i ei (by omega)) (cwV 1 hts gX0_divideRoundingUp_X0_size rfl rfl rfl (by decide +kernel) ⟨Nat.le_of_ble_eq_true rfl, Nat.le_of_ble_eq_true rfl⟩) ⟨ro_blind, va_recv hK.1 hP (ci := 0) (q0 := 0) rfl rfl, ro_pre _ (hP.sub [0, 1] rfl) hK⟩ rfl rfl hl.1 rfl (lv_room (Nat.le_of_ble_eq_true rfl)) dX0_divideRoundingUp_12 ⟨Nat.le_refl _, Nat.le_refl _⟩) ?_
        refine lv_iload_n hx hb dX0_divideRoundingUp_15 rfl (lv_at hl 1 rfl) ?_
        refine ro_call (va_runS (As := [.int (absI (h i)), .int x]) (rest := [.int xi, .ref o]) ⟨hx, hb, hml, hown, hts⟩ (c_X0_quotientRoundedUp l G (absI (h i)) x hx0) (va_cwS 2 hts gX0_divideRoundingUp_X0_quotientRoundedUp rfl rfl rfl (by decide +kernel) ⟨Nat.le_of_ble_eq_true rfl, Nat.le_of_ble_eq_true rfl⟩) ⟨ro_blind, ro_pre _ (hP.sub [] rfl) hK⟩ rfl rfl hl.1 rfl (lv_room (Nat.le_of_ble_eq_true rfl)) dX0_divideRoundingUp_16 ⟨Nat.le_refl _, Nat.le_refl _⟩) ?_
        refine mu_call (va_runV (As := [.int xi, .int (quoI (absI (h i)) x)]) (rest := []) ⟨hx, hb, hml, hown, hts⟩ (c_X0_resize l G _ o w d g h xi (quoI (absI (h i)) x) i ei (by omega)) (cwV 2 hts gX0_divideRoundingUp_X0_resize rfl rfl rfl (by decide +kernel) ⟨Nat.le_of_ble_eq_true rfl, Nat.le_of_ble_eq_true rfl⟩) ⟨mu_blind, va_recv hK.1 hP (ci := 0) (q0 := 0) rfl rfl, mu_pre _ (hP.sub [0, 1] rfl) (hD.sub [0, 1] (by decide) rfl) hK⟩ rfl rfl hl.1 rfl (lv_room (Nat.le_of_ble_eq_true rfl)) dX0_divideRoundingUp_19 ⟨Nat.le_refl _, Nat.le_refl _⟩) hS (va_free hD hS hA [0, 1] rfl) (va_free hD hS hA [0, 1] rfl) (fun H1 locs hP1 hD1 hk1 hS => ?_)
        obtain ⟨hP, hD⟩ := rp_join (ws' := [(o, .inr (0, [.ref w, .int d, .int g])), (w, eI G 10 (upd h i (rsz (h i) (quoI (absI (h i)) x))))]) hP hD [0, 1] rfl hk1 hP1 (fun k q h => match k, q, h with | 0, q, h => Or.inl ⟨0, h⟩ | 1, q, h => Or.inl ⟨1, h⟩ | k + 2, q, h => nomatch h) rfl
        generalize H1 = H at hP hS ⊢
        have hP : va_P G.1 vwCl [(o, .inr (0, [.ref w, .int d, .int g])), (w, eI G 10 (upd h i (rsz (h i) (quoI (absI (h i)) x))))] H := hP
        have hD : va_D A [(o, .inr (0, [.ref w, .int d, .int g])), (w, eI G 10 (upd h i (rsz (h i) (quoI (absI (h i)) x))))] := hD
        refine lv_iinc (v := xi + 1) (lv' := [(2, .int (xi + 1)), (0, .ref o), (1, .int x)]) hx hb dX0_divideRoundingUp_22 hl (k := 2) rfl rfl (by decide) rfl (fun ls hl => ?_)
        refine lv_goto (tgt := 2) hx hb dX0_divideRoundingUp_25 (by decide) ?_
        exact ih_2 (i + 1) _ _ (by omega) (by omega) (by rw [ei]; exact nI_1 i) (by rw [eh, mixf_hi _ _ (Nat.le_refl i)]; exact mixf_s i (fun v => rsz (f v) (quoI (absI (f v)) x)) f) _ _ (hP.sub [0, 1] rfl) (hD.sub [0, 1] (by decide) rfl) hS ls (lv_sub hl [1, 2, 0] rfl)
  exact loop_2 (10 + 1) 0 _ _ (Nat.zero_le _) (by omega) (by exact nI_0.symm) (by exact (mixf_0 _ _).symm) _ _ (hP.sub [0, 1] rfl) (hD.sub [0, 1] (by decide) rfl) hS ls (lv_sub hl [1, 2, 0] rfl)

abbrev rmX0_become : Room := { frames := 1, cells := 0, slots := 0, locals := 48 }
set_option maxHeartbeats 4000000 in
set_option maxRecDepth 100000 in
theorem c_X0_become (l : Launch) (G : Gt) (sz : Nat) (o w : Nat) (d g : Int32) (f : Nat → Int32) (o2 w2 : Nat) (d2 g2 : Int32) (f2 : Nat → Int32) : Met l yX0_become wsX0_become rmX0_become (mu_P G sz [.ref o, .ref o2] [(o, .inr (0, [.ref w, .int d, .int g])), (w, eI G 10 f), (o2, .inr (0, [.ref w2, .int d2, .int g2])), (w2, eI G 10 f2)]) (mu_Q G none [(o, .inr (0, [.ref w, .int d2, .int g])), (w, eI G 10 (mixf 10 f2 f)), (o2, .inr (0, [.ref w2, .int d2, .int g2])), (w2, eI G 10 f2)] (va_A [(o, .inr (0, [.ref w, .int d, .int g])), (w, eI G 10 f), (o2, .inr (0, [.ref w2, .int d2, .int g2])), (w2, eI G 10 f2)] sz)) 0 0 (va_A [(o, .inr (0, [.ref w, .int d, .int g])), (w, eI G 10 f), (o2, .inr (0, [.ref w2, .int d2, .int g2])), (w2, eI G 10 f2)] sz) := by
  refine Met.ofW (cc := cX0_become) (maxL := 2) (ret := none) (by decide) rfl ?_
  intro p e s m args below meth c s₁ B hml hv
  obtain ⟨rfl, hsz, hP, hD0, hK⟩ := hv
  have hx := B.exec
  have hb := B.bytes
  have hr := B.returns
  have hts := atoms_spec (ws := wsX0_become) B.pre
  have hown : s.vm.findClass RX0 = some m.cls := findClass_of_methodNamed B.named
  have hlocks := B.notSynchronized
  subst hsz
  have hD := hD0.self (sz := s.heap.size)
  generalize hAe : va_A [(o, .inr (0, [.ref w, .int d, .int g])), (w, eI G 10 f), (o2, .inr (0, [.ref w2, .int d2, .int g2])), (w2, eI G 10 f2)] s.heap.size = A at hD ⊢
  have hA : ∀ q : Nat, s.heap.size ≤ q → A q := fun q h => by rw [← hAe]; exact Or.inr h
  have hS : va_S A s.heap s.heap [] := va_S.rf
  have hinX0 : ∀ w ∈ u_ws RX0 TX0 3, w ∈ wsX0_become := fun w h => List.mem_cons_of_mem _ (List.mem_append_right _ h)
  have hw1 := hts (.fieldLink RX0 9 "ChoiceBoard$Constraint" "weights" "[I") (by decide +kernel)
  have hw2 := hts (.methodLink RX0 23 arraycopyName) (by decide +kernel)
  have hw3 := hts (.native arraycopyName) (by decide +kernel)
  have hw4 := hts (.static arraycopyName) (by decide +kernel)
  have hw5 := hts (.initialized "java/lang/System") (by decide +kernel)
  have hw6 := hts (.fieldLink RX0 15 "ChoiceBoard$Constraint" "degree" "I") (by decide +kernel)
  have hl := lv_entry ([.ref o, .ref o2]) (n := 2) (Nat.le_of_ble_eq_true rfl)
  rw [lg_entry_eq]
  generalize (lg_sl ([.ref o, .ref o2]) ++ List.replicate (2 - (lg_sl ([.ref o, .ref o2])).length) Slot.unset).toArray = ls at hl ⊢
  have hl : lv_has ls 2 [(0, .ref o), (1, .ref o2)] := hl
  refine lv_aload_n hx hb dX0_become_0 rfl (lv_at hl 1 rfl) ?_
  refine va_get (D := G.1) (ci := 0) (v := .ref w2) (C := RX0) (T := TX0) (N := 3) hx hb hts hinX0 hown hK.1 hP 2 rfl rfl 0 (by decide) hw1 (fun _ h9 => h9) rfl dX0_become_1 ?_
  refine lv_iconst (v := 0) hx hb dX0_become_4 (by decide) ?_
  refine lv_aload_n hx hb dX0_become_5 rfl (lv_at hl 0 rfl) ?_
  refine va_get (D := G.1) (ci := 0) (v := .ref w) (C := RX0) (T := TX0) (N := 3) hx hb hts hinX0 hown hK.1 hP 0 rfl rfl 0 (by decide) hw1 (fun _ h9 => h9) rfl dX0_become_6 ?_
  refine lv_iconst (v := 0) hx hb dX0_become_9 (by decide) ?_
  refine lv_bipush (v := 10) hx hb dX0_become_10 (by decide) ?_
  refine ra_copy hx hb (hml.trans hl.1.symm) hown hw2 hw3 hw4 hw5 hK.1 hP hD hS 3 1 0 0 rfl rfl rfl rfl (n := 10) (N := 10) (by decide) (by decide) (by decide) (by decide) (Nat.le_of_ble_eq_true rfl) (Nat.le_of_ble_eq_true rfl) dX0_become_12 (fun H locs hP hD hS => ?_)
  have hP : va_P G.1 vwCl [(o, .inr (0, [.ref w, .int d, .int g])), (w, eI G 10 (va_cpy f2 f 0 0 10)), (o2, .inr (0, [.ref w2, .int d2, .int g2])), (w2, eI G 10 f2)] H := hP
  have hD : va_D A [(o, .inr (0, [.ref w, .int d, .int g])), (w, eI G 10 (va_cpy f2 f 0 0 10)), (o2, .inr (0, [.ref w2, .int d2, .int g2])), (w2, eI G 10 f2)] := hD
  have eA12 : va_cpy f2 f 0 0 10 = mixf 10 f2 f := cpy_mix f2 f 10
  rw [eA12] at hP hD
  refine lv_aload_n hx hb dX0_become_15 rfl (lv_at hl 0 rfl) ?_
  refine lv_aload_n hx hb dX0_become_16 rfl (lv_at hl 1 rfl) ?_
  refine va_get (D := G.1) (ci := 0) (v := .int d2) (C := RX0) (T := TX0) (N := 3) hx hb hts hinX0 hown hK.1 hP 2 rfl rfl 1 (by decide) hw6 (fun _ h9 => h9) rfl dX0_become_17 ?_
  refine va_put (D := G.1) (ci := 0) (v := .int d2) (ty := .int) (C := RX0) (T := TX0) (N := 3) hx hb hts hinX0 tyX0 tyX0_ok nmX0 hown hK.1 hP hD hS 0 rfl rfl 1 (by decide) hw6 (fun _ h9 => h9) rfl (by decide +kernel) rfl rfl (Nat.le_of_ble_eq_true rfl) dX0_become_20 (fun H locs hP hD hS => ?_)
  have hP : va_P G.1 vwCl [(o, .inr (0, [.ref w, .int d2, .int g])), (w, eI G 10 (mixf 10 f2 f)), (o2, .inr (0, [.ref w2, .int d2, .int g2])), (w2, eI G 10 f2)] H := hP
  have hD : va_D A [(o, .inr (0, [.ref w, .int d2, .int g])), (w, eI G 10 (mixf 10 f2 f)), (o2, .inr (0, [.ref w2, .int d2, .int g2])), (w2, eI G 10 f2)] := hD
  have hP9 := hP.sub (ws' := [(o, .inr (0, [.ref w, .int d2, .int g])), (w, eI G 10 (mixf 10 f2 f)), (o2, .inr (0, [.ref w2, .int d2, .int g2])), (w2, eI G 10 f2)]) [0, 1, 2, 3] rfl
  have hD9 := hD.sub (ws' := [(o, .inr (0, [.ref w, .int d2, .int g])), (w, eI G 10 (mixf 10 f2 f)), (o2, .inr (0, [.ref w2, .int d2, .int g2])), (w2, eI G 10 f2)]) [0, 1, 2, 3] (by decide) rfl
  exact W.vret hx hb hr (fun t ht hW => ⟨rfl, by rw [ht]; exact hP9, hD9, hS.F ht⟩) hS.2.2 dX0_become_23

abbrev rmX0_becomeMultiple : Room := { frames := 0, cells := 0, slots := 0, locals := 0 }
set_option maxHeartbeats 4000000 in
set_option maxRecDepth 100000 in
theorem c_X0_becomeMultiple (l : Launch) (G : Gt) (sz : Nat) (o w : Nat) (d g : Int32) (f : Nat → Int32) (o2 w2 : Nat) (d2 g2 : Int32) (f2 : Nat → Int32) (x : Int32) : Met l yX0_becomeMultiple wsX0_becomeMultiple rmX0_becomeMultiple (mu_P G sz [.ref o, .ref o2, .int x] [(o, .inr (0, [.ref w, .int d, .int g])), (w, eI G 10 f), (o2, .inr (0, [.ref w2, .int d2, .int g2])), (w2, eI G 10 f2)]) (mu_Q G none [(o, .inr (0, [.ref w, .int (x * d2), .int g])), (w, eI G 10 (mixf 10 (fun v => x * (f2 v)) f)), (o2, .inr (0, [.ref w2, .int d2, .int g2])), (w2, eI G 10 f2)] (va_A [(o, .inr (0, [.ref w, .int d, .int g])), (w, eI G 10 f), (o2, .inr (0, [.ref w2, .int d2, .int g2])), (w2, eI G 10 f2)] sz)) 0 0 (va_A [(o, .inr (0, [.ref w, .int d, .int g])), (w, eI G 10 f), (o2, .inr (0, [.ref w2, .int d2, .int g2])), (w2, eI G 10 f2)] sz) := by
  refine Met.ofW (cc := cX0_becomeMultiple) (maxL := 4) (ret := none) (by decide) rfl ?_
  intro p e s m args below meth c s₁ B hml hv
  obtain ⟨rfl, hsz, hP, hD0, hK⟩ := hv
  have hx := B.exec
  have hb := B.bytes
  have hr := B.returns
  have hts := atoms_spec (ws := wsX0_becomeMultiple) B.pre
  have hown : s.vm.findClass RX0 = some m.cls := findClass_of_methodNamed B.named
  have hlocks := B.notSynchronized
  subst hsz
  have hD := hD0.self (sz := s.heap.size)
  generalize hAe : va_A [(o, .inr (0, [.ref w, .int d, .int g])), (w, eI G 10 f), (o2, .inr (0, [.ref w2, .int d2, .int g2])), (w2, eI G 10 f2)] s.heap.size = A at hD ⊢
  have hA : ∀ q : Nat, s.heap.size ≤ q → A q := fun q h => by rw [← hAe]; exact Or.inr h
  have hS : va_S A s.heap s.heap [] := va_S.rf
  have hinX0 : ∀ w ∈ u_ws RX0 TX0 3, w ∈ wsX0_becomeMultiple := fun w h => List.mem_cons_of_mem _ (List.mem_append_right _ h)
  have hw1 := hts (.fieldLink RX0 15 "ChoiceBoard$Constraint" "degree" "I") (by decide +kernel)
  have hw2 := hts (.fieldLink RX0 9 "ChoiceBoard$Constraint" "weights" "[I") (by decide +kernel)
  have hl := lv_entry ([.ref o, .ref o2, .int x]) (n := 4) (Nat.le_of_ble_eq_true rfl)
  rw [lg_entry_eq]
  generalize (lg_sl ([.ref o, .ref o2, .int x]) ++ List.replicate (4 - (lg_sl ([.ref o, .ref o2, .int x])).length) Slot.unset).toArray = ls at hl ⊢
  have hl : lv_has ls 4 [(0, .ref o), (1, .ref o2), (2, .int x)] := hl
  refine lv_iconst (v := 0) hx hb dX0_becomeMultiple_0 (by decide) ?_
  refine lv_istore_n (lv' := [(3, .int 0), (0, .ref o), (1, .ref o2), (2, .int x)]) hx hb dX0_becomeMultiple_1 rfl hl (by decide) rfl (fun ls hl => ?_)
  have loop_2 : ∀ (n_2 i : Nat) (xi : Int32) (h : Nat → Int32), i ≤ 10 → 10 + 1 ≤ i + n_2 → (xi = nI i) → (h = mixf i (fun v => x * (f2 v)) f) → ∀ (H : Heap) (locs : List Loc), va_P G.1 vwCl [(o, .inr (0, [.ref w, .int d, .int g])), (w, eI G 10 h), (o2, .inr (0, [.ref w2, .int d2, .int g2])), (w2, eI G 10 f2)] H → va_D A [(o, .inr (0, [.ref w, .int d, .int g])), (w, eI G 10 h), (o2, .inr (0, [.ref w2, .int d2, .int g2])), (w2, eI G 10 f2)] → va_S A s.heap H locs → ∀ ls : Array Slot, lv_has ls 4 [(0, .ref o), (1, .ref o2), (2, .int x), (3, .int xi)] → W p l e rmX0_becomeMultiple s m [.ref o, .ref o2, .int x].toArray below meth c H locs 0 0 (MQ below (mu_Q G none [(o, .inr (0, [.ref w, .int (x * d2), .int g])), (w, eI G 10 (mixf 10 (fun v => x * (f2 v)) f)), (o2, .inr (0, [.ref w2, .int d2, .int g2])), (w2, eI G 10 f2)] A) [.ref o, .ref o2, .int x].toArray s 0 0 A) (F0 m 2 ls []) := by
    intro n_2
    induction n_2 with
    | zero => intro i xi h h1 h2; exact absurd h2 (by omega)
    | succ n_2 ih_2 =>
      intro i xi h hi_2 hn_2 ei eh H locs hP hD hS ls hl
      refine lv_iload_n hx hb dX0_becomeMultiple_2 rfl (lv_at hl 3 rfl) ?_
      refine lv_bipush (v := 10) hx hb dX0_becomeMultiple_3 (by decide) ?_
      refine lv_icmp_ge (tgt := 28) hx hb dX0_becomeMultiple_5 (by decide) (fun c_5 => ?_) (fun c_5 => ?_)
      · have hN : i = 10 := ge_ix ei (by decide) (by decide) c_5 hi_2
        refine lv_aload_n hx hb dX0_becomeMultiple_28 rfl (lv_at hl 0 rfl) ?_
        refine lv_iload_n hx hb dX0_becomeMultiple_29 rfl (lv_at hl 2 rfl) ?_
        refine lv_aload_n hx hb dX0_becomeMultiple_30 rfl (lv_at hl 1 rfl) ?_
        refine va_get (D := G.1) (ci := 0) (v := .int d2) (C := RX0) (T := TX0) (N := 3) hx hb hts hinX0 hown hK.1 hP 2 rfl rfl 1 (by decide) hw1 (fun _ h9 => h9) rfl dX0_becomeMultiple_31 ?_
        refine lv_imul hx hb dX0_becomeMultiple_34 ?_
        refine va_put (D := G.1) (ci := 0) (v := .int (x * d2)) (ty := .int) (C := RX0) (T := TX0) (N := 3) hx hb hts hinX0 tyX0 tyX0_ok nmX0 hown hK.1 hP hD hS 0 rfl rfl 1 (by decide) hw1 (fun _ h9 => h9) rfl (by decide +kernel) rfl rfl (Nat.le_of_ble_eq_true rfl) dX0_becomeMultiple_35 (fun H locs hP hD hS => ?_)
        have hP : va_P G.1 vwCl [(o, .inr (0, [.ref w, .int (x * d2), .int g])), (w, eI G 10 h), (o2, .inr (0, [.ref w2, .int d2, .int g2])), (w2, eI G 10 f2)] H := hP
        have hD : va_D A [(o, .inr (0, [.ref w, .int (x * d2), .int g])), (w, eI G 10 h), (o2, .inr (0, [.ref w2, .int d2, .int g2])), (w2, eI G 10 f2)] := hD
        rw [eh, hN] at hP hD
        have hP9 := hP.sub (ws' := [(o, .inr (0, [.ref w, .int (x * d2), .int g])), (w, eI G 10 (mixf 10 (fun v => x * (f2 v)) f)), (o2, .inr (0, [.ref w2, .int d2, .int g2])), (w2, eI G 10 f2)]) [0, 1, 2, 3] rfl
        have hD9 := hD.sub (ws' := [(o, .inr (0, [.ref w, .int (x * d2), .int g])), (w, eI G 10 (mixf 10 (fun v => x * (f2 v)) f)), (o2, .inr (0, [.ref w2, .int d2, .int g2])), (w2, eI G 10 f2)]) [0, 1, 2, 3] (by decide) rfl
        exact W.vret hx hb hr (fun t ht hW => ⟨rfl, by rw [ht]; exact hP9, hD9, hS.F ht⟩) hS.2.2 dX0_becomeMultiple_38
      · have hlt : i < 10 := lt_ix ei (by decide) (by decide) c_5 hi_2
        refine lv_aload_n hx hb dX0_becomeMultiple_8 rfl (lv_at hl 0 rfl) ?_
        refine va_get (D := G.1) (ci := 0) (v := .ref w) (C := RX0) (T := TX0) (N := 3) hx hb hts hinX0 hown hK.1 hP 0 rfl rfl 0 (by decide) hw2 (fun _ h9 => h9) rfl dX0_becomeMultiple_9 ?_
        refine lv_iload_n hx hb dX0_becomeMultiple_12 rfl (lv_at hl 3 rfl) ?_
        refine lv_iload_n hx hb dX0_becomeMultiple_13 rfl (lv_at hl 2 rfl) ?_
        refine lv_aload_n hx hb dX0_becomeMultiple_14 rfl (lv_at hl 1 rfl) ?_
        refine va_get (D := G.1) (ci := 0) (v := .ref w2) (C := RX0) (T := TX0) (N := 3) hx hb hts hinX0 hown hK.1 hP 2 rfl rfl 0 (by decide) hw2 (fun _ h9 => h9) rfl dX0_becomeMultiple_15 ?_
        refine lv_iload_n hx hb dX0_becomeMultiple_18 rfl (lv_at hl 3 rfl) ?_
        refine ra_iald (f := f2) (v := i) hx hb hK.1 hP 3 0 rfl rfl ei (by omega) (by decide) dX0_becomeMultiple_19 ?_
        refine lv_imul hx hb dX0_becomeMultiple_20 ?_
        refine ra_iast (v := i) hx hb hK.1 hP hD hS 1 0 rfl rfl ei (by omega) (by decide) dX0_becomeMultiple_21 (fun H locs hP hD hS => ?_)
        have hP : va_P G.1 vwCl [(o, .inr (0, [.ref w, .int d, .int g])), (w, eI G 10 (upd h i (x * (f2 i)))), (o2, .inr (0, [.ref w2, .int d2, .int g2])), (w2, eI G 10 f2)] H := hP
        have hD : va_D A [(o, .inr (0, [.ref w, .int d, .int g])), (w, eI G 10 (upd h i (x * (f2 i)))), (o2, .inr (0, [.ref w2, .int d2, .int g2])), (w2, eI G 10 f2)] := hD
        refine lv_iinc (v := xi + 1) (lv' := [(3, .int (xi + 1)), (0, .ref o), (1, .ref o2), (2, .int x)]) hx hb dX0_becomeMultiple_22 hl (k := 3) rfl rfl (by decide) rfl (fun ls hl => ?_)
        refine lv_goto (tgt := 2) hx hb dX0_becomeMultiple_25 (by decide) ?_
        exact ih_2 (i + 1) _ _ (by omega) (by omega) (by rw [ei]; exact nI_1 i) (by rw [eh]; exact mixf_s i (fun v => x * (f2 v)) f) _ _ (hP.sub [0, 1, 2, 3] rfl) (hD.sub [0, 1, 2, 3] (by decide) rfl) hS ls (lv_sub hl [1, 2, 3, 0] rfl)
  exact loop_2 (10 + 1) 0 _ _ (Nat.zero_le _) (by omega) (by exact nI_0.symm) (by exact (mixf_0 _ _).symm) _ _ (hP.sub [0, 1, 2, 3] rfl) (hD.sub [0, 1, 2, 3] (by decide) rfl) hS ls (lv_sub hl [1, 2, 3, 0] rfl)

abbrev rmX0_becomeSum : Room := { frames := 2, cells := 0, slots := 0, locals := 42 }
set_option maxHeartbeats 4000000 in
set_option maxRecDepth 100000 in
theorem c_X0_becomeSum (l : Launch) (G : Gt) (sz : Nat) (o w : Nat) (d g : Int32) (f : Nat → Int32) (o1 w1 : Nat) (d1 g1 : Int32) (f1 : Nat → Int32) (o2 w2 : Nat) (d2 g2 : Int32) (f2 : Nat → Int32) : Met l yX0_becomeSum wsX0_becomeSum rmX0_becomeSum (mu_P G sz [.ref o, .ref o1, .ref o2] [(o, .inr (0, [.ref w, .int d, .int g])), (w, eI G 10 f), (o1, .inr (0, [.ref w1, .int d1, .int g1])), (w1, eI G 10 f1), (o2, .inr (0, [.ref w2, .int d2, .int g2])), (w2, eI G 10 f2)]) (mu_Q G none [(o, .inr (0, [.ref w, .int (smD f1 f2 d1 d2), .int g])), (w, eI G 10 (mixf 10 (fun v => (f1 v) + (f2 v)) f)), (o1, .inr (0, [.ref w1, .int d1, .int g1])), (w1, eI G 10 f1), (o2, .inr (0, [.ref w2, .int d2, .int g2])), (w2, eI G 10 f2)] (va_A [(o, .inr (0, [.ref w, .int d, .int g])), (w, eI G 10 f), (o1, .inr (0, [.ref w1, .int d1, .int g1])), (w1, eI G 10 f1), (o2, .inr (0, [.ref w2, .int d2, .int g2])), (w2, eI G 10 f2)] sz)) 0 0 (va_A [(o, .inr (0, [.ref w, .int d, .int g])), (w, eI G 10 f), (o1, .inr (0, [.ref w1, .int d1, .int g1])), (w1, eI G 10 f1), (o2, .inr (0, [.ref w2, .int d2, .int g2])), (w2, eI G 10 f2)] sz) := by
  refine Met.ofW (cc := cX0_becomeSum) (maxL := 5) (ret := none) (by decide) rfl ?_
  intro p e s m args below meth c s₁ B hml hv
  obtain ⟨rfl, hsz, hP, hD0, hK⟩ := hv
  have hx := B.exec
  have hb := B.bytes
  have hr := B.returns
  have hts := atoms_spec (ws := wsX0_becomeSum) B.pre
  have hown : s.vm.findClass RX0 = some m.cls := findClass_of_methodNamed B.named
  have hlocks := B.notSynchronized
  subst hsz
  have hD := hD0.self (sz := s.heap.size)
  generalize hAe : va_A [(o, .inr (0, [.ref w, .int d, .int g])), (w, eI G 10 f), (o1, .inr (0, [.ref w1, .int d1, .int g1])), (w1, eI G 10 f1), (o2, .inr (0, [.ref w2, .int d2, .int g2])), (w2, eI G 10 f2)] s.heap.size = A at hD ⊢
  have hA : ∀ q : Nat, s.heap.size ≤ q → A q := fun q h => by rw [← hAe]; exact Or.inr h
  have hS : va_S A s.heap s.heap [] := va_S.rf
  have hinX0 : ∀ w ∈ u_ws RX0 TX0 3, w ∈ wsX0_becomeSum := fun w h => List.mem_cons_of_mem _ (List.mem_append_right _ h)
  have hw1 := hts (.fieldLink RX0 15 "ChoiceBoard$Constraint" "degree" "I") (by decide +kernel)
  have hw2 := hts (.methodLink RX0 37 Lib.Math.max.name) (by decide +kernel)
  have hw3 := hts (.static Lib.Math.max.name) (by decide +kernel)
  have hw4 := hts (.initialized "java/lang/Math") (by decide +kernel)
  have hw5 := hts (.code Lib.Math.max.name Lib.Math.max.code 2 (some .int)) (by decide +kernel)
  have hw6 := hts (.fieldLink RX0 9 "ChoiceBoard$Constraint" "weights" "[I") (by decide +kernel)
  have hw7 := hts (.methodLink RX0 53 Lib.Math.min.name) (by decide +kernel)
  have hw8 := hts (.static Lib.Math.min.name) (by decide +kernel)
  have hw9 := hts (.code Lib.Math.min.name Lib.Math.min.code 2 (some .int)) (by decide +kernel)
  have hl := lv_entry ([.ref o, .ref o1, .ref o2]) (n := 5) (Nat.le_of_ble_eq_true rfl)
  rw [lg_entry_eq]
  generalize (lg_sl ([.ref o, .ref o1, .ref o2]) ++ List.replicate (5 - (lg_sl ([.ref o, .ref o1, .ref o2])).length) Slot.unset).toArray = ls at hl ⊢
  have hl : lv_has ls 5 [(0, .ref o), (1, .ref o1), (2, .ref o2)] := hl
  refine lv_aload_n hx hb dX0_becomeSum_0 rfl (lv_at hl 1 rfl) ?_
  refine va_get (D := G.1) (ci := 0) (v := .int d1) (C := RX0) (T := TX0) (N := 3) hx hb hts hinX0 hown hK.1 hP 2 rfl rfl 1 (by decide) hw1 (fun _ h9 => h9) rfl dX0_becomeSum_1 ?_
  refine lv_aload_n hx hb dX0_becomeSum_4 rfl (lv_at hl 2 rfl) ?_
  refine va_get (D := G.1) (ci := 0) (v := .int d2) (C := RX0) (T := TX0) (N := 3) hx hb hts hinX0 hown hK.1 hP 4 rfl rfl 1 (by decide) hw1 (fun _ h9 => h9) rfl dX0_becomeSum_5 ?_
  refine lv_iadd hx hb dX0_becomeSum_8 ?_
  refine lv_istore_n (lv' := [(3, .int (d1 + d2)), (0, .ref o), (1, .ref o1), (2, .ref o2)]) hx hb dX0_becomeSum_9 rfl hl (by decide) rfl (fun ls hl => ?_)
  refine lv_iconst (v := 0) hx hb dX0_becomeSum_10 (by decide) ?_
  refine lv_istore (lv' := [(4, .int 0), (3, .int (d1 + d2)), (0, .ref o), (1, .ref o1), (2, .ref o2)]) hx hb dX0_becomeSum_11 hl (by decide) rfl (fun ls hl => ?_)
  have loop_13 : ∀ (n_13 i : Nat) (xi : Int32) (h : Nat → Int32) (xs : Int32), i ≤ 10 → 10 + 1 ≤ i + n_13 → (xi = nI i) → (h = mixf i (fun v => (f1 v) + (f2 v)) f) → (xs = sgm (d1 + d2) (smT f1 f2) i) → ∀ (H : Heap) (locs : List Loc), va_P G.1 vwCl [(o, .inr (0, [.ref w, .int d, .int g])), (w, eI G 10 h), (o1, .inr (0, [.ref w1, .int d1, .int g1])), (w1, eI G 10 f1), (o2, .inr (0, [.ref w2, .int d2, .int g2])), (w2, eI G 10 f2)] H → va_D A [(o, .inr (0, [.ref w, .int d, .int g])), (w, eI G 10 h), (o1, .inr (0, [.ref w1, .int d1, .int g1])), (w1, eI G 10 f1), (o2, .inr (0, [.ref w2, .int d2, .int g2])), (w2, eI G 10 f2)] → va_S A s.heap H locs → ∀ ls : Array Slot, lv_has ls 5 [(0, .ref o), (1, .ref o1), (2, .ref o2), (3, .int xs), (4, .int xi)] → W p l e rmX0_becomeSum s m [.ref o, .ref o1, .ref o2].toArray below meth c H locs 0 0 (MQ below (mu_Q G none [(o, .inr (0, [.ref w, .int (smD f1 f2 d1 d2), .int g])), (w, eI G 10 (mixf 10 (fun v => (f1 v) + (f2 v)) f)), (o1, .inr (0, [.ref w1, .int d1, .int g1])), (w1, eI G 10 f1), (o2, .inr (0, [.ref w2, .int d2, .int g2])), (w2, eI G 10 f2)] A) [.ref o, .ref o1, .ref o2].toArray s 0 0 A) (F0 m 13 ls []) := by
    intro n_13
    induction n_13 with
    | zero => intro i xi h xs h1 h2; exact absurd h2 (by omega)
    | succ n_13 ih_13 =>
      intro i xi h xs hi_13 hn_13 ei eh es H locs hP hD hS ls hl
      refine lv_iload hx hb dX0_becomeSum_13 (lv_at hl 4 rfl) ?_
      refine lv_bipush (v := 10) hx hb dX0_becomeSum_15 (by decide) ?_
      refine lv_icmp_ge (tgt := 76) hx hb dX0_becomeSum_17 (by decide) (fun c_17 => ?_) (fun c_17 => ?_)
      · have hN : i = 10 := ge_ix ei (by decide) (by decide) c_17 hi_13
        refine lv_aload_n hx hb dX0_becomeSum_76 rfl (lv_at hl 0 rfl) ?_
        refine lv_iload_n hx hb dX0_becomeSum_77 rfl (lv_at hl 3 rfl) ?_
        refine lv_iconst (v := 0) hx hb dX0_becomeSum_78 (by decide) ?_
        refine va_mmax hx hb (hml.trans hl.1.symm) hown hw2 hw3 hw4 hw5 (Nat.le_of_ble_eq_true rfl) (Nat.le_of_ble_eq_true rfl) (Nat.le_refl _) (Nat.le_refl _) dX0_becomeSum_79 ?_
        refine va_put (D := G.1) (ci := 0) (v := .int (maxI xs 0)) (ty := .int) (C := RX0) (T := TX0) (N := 3) hx hb hts hinX0 tyX0 tyX0_ok nmX0 hown hK.1 hP hD hS 0 rfl rfl 1 (by decide) hw1 (fun _ h9 => h9) rfl (by decide +kernel) rfl rfl (Nat.le_of_ble_eq_true rfl) dX0_becomeSum_82 (fun H locs hP hD hS => ?_)
        have hP : va_P G.1 vwCl [(o, .inr (0, [.ref w, .int (maxI xs 0), .int g])), (w, eI G 10 h), (o1, .inr (0, [.ref w1, .int d1, .int g1])), (w1, eI G 10 f1), (o2, .inr (0, [.ref w2, .int d2, .int g2])), (w2, eI G 10 f2)] H := hP
        have hD : va_D A [(o, .inr (0, [.ref w, .int (maxI xs 0), .int g])), (w, eI G 10 h), (o1, .inr (0, [.ref w1, .int d1, .int g1])), (w1, eI G 10 f1), (o2, .inr (0, [.ref w2, .int d2, .int g2])), (w2, eI G 10 f2)] := hD
        rw [eh, es, hN] at hP hD
        have hP9 := hP.sub (ws' := [(o, .inr (0, [.ref w, .int (smD f1 f2 d1 d2), .int g])), (w, eI G 10 (mixf 10 (fun v => (f1 v) + (f2 v)) f)), (o1, .inr (0, [.ref w1, .int d1, .int g1])), (w1, eI G 10 f1), (o2, .inr (0, [.ref w2, .int d2, .int g2])), (w2, eI G 10 f2)]) [0, 1, 2, 3, 4, 5] rfl
        have hD9 := hD.sub (ws' := [(o, .inr (0, [.ref w, .int (smD f1 f2 d1 d2), .int g])), (w, eI G 10 (mixf 10 (fun v => (f1 v) + (f2 v)) f)), (o1, .inr (0, [.ref w1, .int d1, .int g1])), (w1, eI G 10 f1), (o2, .inr (0, [.ref w2, .int d2, .int g2])), (w2, eI G 10 f2)]) [0, 1, 2, 3, 4, 5] (by decide) rfl
        exact W.vret hx hb hr (fun t ht hW => ⟨rfl, by rw [ht]; exact hP9, hD9, hS.F ht⟩) hS.2.2 dX0_becomeSum_85
      · have hlt : i < 10 := lt_ix ei (by decide) (by decide) c_17 hi_13
        refine lv_aload_n hx hb dX0_becomeSum_20 rfl (lv_at hl 0 rfl) ?_
        refine va_get (D := G.1) (ci := 0) (v := .ref w) (C := RX0) (T := TX0) (N := 3) hx hb hts hinX0 hown hK.1 hP 0 rfl rfl 0 (by decide) hw6 (fun _ h9 => h9) rfl dX0_becomeSum_21 ?_
        refine lv_iload hx hb dX0_becomeSum_24 (lv_at hl 4 rfl) ?_
        refine lv_aload_n hx hb dX0_becomeSum_26 rfl (lv_at hl 1 rfl) ?_
        refine va_get (D := G.1) (ci := 0) (v := .ref w1) (C := RX0) (T := TX0) (N := 3) hx hb hts hinX0 hown hK.1 hP 2 rfl rfl 0 (by decide) hw6 (fun _ h9 => h9) rfl dX0_becomeSum_27 ?_
        refine lv_iload hx hb dX0_becomeSum_30 (lv_at hl 4 rfl) ?_
        refine ra_iald (f := f1) (v := i) hx hb hK.1 hP 3 0 rfl rfl ei (by omega) (by decide) dX0_becomeSum_32 ?_
        refine lv_aload_n hx hb dX0_becomeSum_33 rfl (lv_at hl 2 rfl) ?_
        refine va_get (D := G.1) (ci := 0) (v := .ref w2) (C := RX0) (T := TX0) (N := 3) hx hb hts hinX0 hown hK.1 hP 4 rfl rfl 0 (by decide) hw6 (fun _ h9 => h9) rfl dX0_becomeSum_34 ?_
        refine lv_iload hx hb dX0_becomeSum_37 (lv_at hl 4 rfl) ?_
        refine ra_iald (f := f2) (v := i) hx hb hK.1 hP 5 0 rfl rfl ei (by omega) (by decide) dX0_becomeSum_39 ?_
        refine lv_iadd hx hb dX0_becomeSum_40 ?_
        refine ra_iast (v := i) hx hb hK.1 hP hD hS 1 0 rfl rfl ei (by omega) (by decide) dX0_becomeSum_41 (fun H locs hP hD hS => ?_)
        have hP : va_P G.1 vwCl [(o, .inr (0, [.ref w, .int d, .int g])), (w, eI G 10 (upd h i ((f1 i) + (f2 i)))), (o1, .inr (0, [.ref w1, .int d1, .int g1])), (w1, eI G 10 f1), (o2, .inr (0, [.ref w2, .int d2, .int g2])), (w2, eI G 10 f2)] H := hP
        have hD : va_D A [(o, .inr (0, [.ref w, .int d, .int g])), (w, eI G 10 (upd h i ((f1 i) + (f2 i)))), (o1, .inr (0, [.ref w1, .int d1, .int g1])), (w1, eI G 10 f1), (o2, .inr (0, [.ref w2, .int d2, .int g2])), (w2, eI G 10 f2)] := hD
        have eA41 : upd h i ((f1 i) + (f2 i)) = mixf (i + 1) (fun v => (f1 v) + (f2 v)) f := by rw [eh]; exact mixf_s i (fun v => (f1 v) + (f2 v)) f
        rw [eA41] at hP hD
        refine lv_aload_n hx hb dX0_becomeSum_42 rfl (lv_at hl 1 rfl) ?_
        refine lv_aload_n hx hb dX0_becomeSum_43 rfl (lv_at hl 2 rfl) ?_
        refine lv_iload hx hb dX0_becomeSum_44 (lv_at hl 4 rfl) ?_
        refine ro_call (va_runV (As := [.ref o2, .int xi]) (rest := []) ⟨hx, hb, hml, hown, hts⟩ (c_X0_isOpposed l G o1 w1 d1 g1 f1 o2 w2 d2 g2 f2 xi i ei (by omega)) (cwV 2 hts gX0_becomeSum_X0_isOpposed rfl rfl rfl (by decide +kernel) ⟨Nat.le_of_ble_eq_true rfl, Nat.le_of_ble_eq_true rfl⟩) ⟨ro_blind, va_recv hK.1 hP (ci := 0) (q0 := 2) rfl rfl, ro_pre _ (hP.sub [2, 3, 4, 5] rfl) hK⟩ rfl rfl hl.1 rfl (lv_room (Nat.le_of_ble_eq_true rfl)) dX0_becomeSum_46 ⟨Nat.le_refl _, Nat.le_refl _⟩) ?_
        refine lv_if_eq (tgt := 70) hx hb dX0_becomeSum_49 (by decide) (fun c_49 => ?_) (fun c_49 => ?_)
        · refine lv_iinc (v := xi + 1) (lv' := [(4, .int (xi + 1)), (0, .ref o), (1, .ref o1), (2, .ref o2), (3, .int xs)]) hx hb dX0_becomeSum_70 hl (k := 4) rfl rfl (by decide) rfl (fun ls hl => ?_)
          refine lv_goto (tgt := 13) hx hb dX0_becomeSum_73 (by decide) ?_
          exact ih_13 (i + 1) _ _ _ (by omega) (by omega) (by rw [ei]; exact nI_1 i) (by rfl) (by show _ = sgm (d1 + d2) (smT f1 f2) i - smT f1 f2 i; rw [es]; unfold smT; (rw [if_pos c_49]; exact sub0 _)) _ _ (hP.sub [0, 1, 2, 3, 4, 5] rfl) (hD.sub [0, 1, 2, 3, 4, 5] (by decide) rfl) hS ls (lv_sub hl [1, 2, 3, 4, 0] rfl)
        · refine lv_iload_n hx hb dX0_becomeSum_52 rfl (lv_at hl 3 rfl) ?_
          refine lv_aload_n hx hb dX0_becomeSum_53 rfl (lv_at hl 1 rfl) ?_
          refine lv_iload hx hb dX0_becomeSum_54 (lv_at hl 4 rfl) ?_
          refine ro_call (va_runV (As := [.int xi]) (rest := [.int xs]) ⟨hx, hb, hml, hown, hts⟩ (c_X0_size l G o1 w1 d1 g1 f1 xi i ei (by omega)) (cwV 1 hts gX0_becomeSum_X0_size rfl rfl rfl (by decide +kernel) ⟨Nat.le_of_ble_eq_true rfl, Nat.le_of_ble_eq_true rfl⟩) ⟨ro_blind, va_recv hK.1 hP (ci := 0) (q0 := 2) rfl rfl, ro_pre _ (hP.sub [2, 3] rfl) hK⟩ rfl rfl hl.1 rfl (lv_room (Nat.le_of_ble_eq_true rfl)) dX0_becomeSum_56 ⟨Nat.le_refl _, Nat.le_refl _⟩) ?_
          refine lv_aload_n hx hb dX0_becomeSum_59 rfl (lv_at hl 2 rfl) ?_
          refine lv_iload hx hb dX0_becomeSum_60 (lv_at hl 4 rfl) ?_
          refine ro_call (va_runV (As := [.int xi]) (rest := [.int (absI (f1 i)), .int xs]) ⟨hx, hb, hml, hown, hts⟩ (c_X0_size l G o2 w2 d2 g2 f2 xi i ei (by omega)) (cwV 1 hts gX0_becomeSum_X0_size rfl rfl rfl (by decide +kernel) ⟨Nat.le_of_ble_eq_true rfl, Nat.le_of_ble_eq_true rfl⟩) ⟨ro_blind, va_recv hK.1 hP (ci := 0) (q0 := 4) rfl rfl, ro_pre _ (hP.sub [4, 5] rfl) hK⟩ rfl rfl hl.1 rfl (lv_room (Nat.le_of_ble_eq_true rfl)) dX0_becomeSum_62 ⟨Nat.le_refl _, Nat.le_refl _⟩) ?_
          refine va_mmin hx hb (hml.trans hl.1.symm) hown hw7 hw8 hw4 hw9 (Nat.le_of_ble_eq_true rfl) (Nat.le_of_ble_eq_true rfl) (Nat.le_refl _) (Nat.le_refl _) dX0_becomeSum_65 ?_
          refine lv_isub hx hb dX0_becomeSum_68 ?_
          refine lv_istore_n (lv' := [(3, .int (xs - (minI (absI (f1 i)) (absI (f2 i))))), (0, .ref o), (1, .ref o1), (2, .ref o2), (4, .int xi)]) hx hb dX0_becomeSum_69 rfl hl (by decide) rfl (fun ls hl => ?_)
          refine lv_iinc (v := xi + 1) (lv' := [(4, .int (xi + 1)), (3, .int (xs - (minI (absI (f1 i)) (absI (f2 i))))), (0, .ref o), (1, .ref o1), (2, .ref o2)]) hx hb dX0_becomeSum_70 hl (k := 4) rfl rfl (by decide) rfl (fun ls hl => ?_)
          refine lv_goto (tgt := 13) hx hb dX0_becomeSum_73 (by decide) ?_
          exact ih_13 (i + 1) _ _ _ (by omega) (by omega) (by rw [ei]; exact nI_1 i) (by rfl) (by show _ = sgm (d1 + d2) (smT f1 f2) i - smT f1 f2 i; rw [es]; unfold smT; rw [if_neg c_49]) _ _ (hP.sub [0, 1, 2, 3, 4, 5] rfl) (hD.sub [0, 1, 2, 3, 4, 5] (by decide) rfl) hS ls (lv_sub hl [2, 3, 4, 1, 0] rfl)
  exact loop_13 (10 + 1) 0 _ _ _ (Nat.zero_le _) (by omega) (by exact nI_0.symm) (by exact (mixf_0 _ _).symm) (by rfl) _ _ (hP.sub [0, 1, 2, 3, 4, 5] rfl) (hD.sub [0, 1, 2, 3, 4, 5] (by decide) rfl) hS ls (lv_sub hl [2, 3, 4, 1, 0] rfl)

abbrev rmX0_normalize : Room := { frames := 2, cells := 0, slots := 0, locals := 42 }
set_option maxHeartbeats 4000000 in
set_option maxRecDepth 100000 in
theorem c_X0_normalize (l : Launch) (G : Gt) (sz : Nat) (o w : Nat) (d g : Int32) (f : Nat → Int32) (q : Nat) (fac : Nat → Int32) (sn b : Int32) : Met l yX0_normalize wsX0_normalize rmX0_normalize (mu_P G sz [.ref o, .ref q, .int sn, .int b] [(o, .inr (0, [.ref w, .int d, .int g])), (w, eI G 10 f), (q, eI G 10 fac)]) (mu_Q G none [(o, .inr (0, [.ref w, .int (nrD fac sn b), .int g])), (w, eI G 10 (mixf 10 (nrW fac sn) f)), (q, eI G 10 fac)] (va_A [(o, .inr (0, [.ref w, .int d, .int g])), (w, eI G 10 f), (q, eI G 10 fac)] sz)) 0 0 (va_A [(o, .inr (0, [.ref w, .int d, .int g])), (w, eI G 10 f), (q, eI G 10 fac)] sz) := by
  refine Met.ofW (cc := cX0_normalize) (maxL := 6) (ret := none) (by decide) rfl ?_
  intro p e s m args below meth c s₁ B hml hv
  obtain ⟨rfl, hsz, hP, hD0, hK⟩ := hv
  have hx := B.exec
  have hb := B.bytes
  have hr := B.returns
  have hts := atoms_spec (ws := wsX0_normalize) B.pre
  have hown : s.vm.findClass RX0 = some m.cls := findClass_of_methodNamed B.named
  have hlocks := B.notSynchronized
  subst hsz
  have hD := hD0.self (sz := s.heap.size)
  generalize hAe : va_A [(o, .inr (0, [.ref w, .int d, .int g])), (w, eI G 10 f), (q, eI G 10 fac)] s.heap.size = A at hD ⊢
  have hA : ∀ q : Nat, s.heap.size ≤ q → A q := fun q h => by rw [← hAe]; exact Or.inr h
  have hS : va_S A s.heap s.heap [] := va_S.rf
  have hinX0 : ∀ w ∈ u_ws RX0 TX0 3, w ∈ wsX0_normalize := fun w h => List.mem_cons_of_mem _ (List.mem_append_right _ h)
  have hw0 := hts (.methodLink RX0 37 Lib.Math.max.name) (by decide +kernel)
  have hw1 := hts (.static Lib.Math.max.name) (by decide +kernel)
  have hw2 := hts (.initialized "java/lang/Math") (by decide +kernel)
  have hw3 := hts (.code Lib.Math.max.name Lib.Math.max.code 2 (some .int)) (by decide +kernel)
  have hw5 := hts (.fieldLink RX0 15 "ChoiceBoard$Constraint" "degree" "I") (by decide +kernel)
  have hw6 := hts (.fieldLink RX0 9 "ChoiceBoard$Constraint" "weights" "[I") (by decide +kernel)
  have hl := lv_entry ([.ref o, .ref q, .int sn, .int b]) (n := 6) (Nat.le_of_ble_eq_true rfl)
  rw [lg_entry_eq]
  generalize (lg_sl ([.ref o, .ref q, .int sn, .int b]) ++ List.replicate (6 - (lg_sl ([.ref o, .ref q, .int sn, .int b])).length) Slot.unset).toArray = ls at hl ⊢
  have hl : lv_has ls 6 [(0, .ref o), (1, .ref q), (2, .int sn), (3, .int b)] := hl
  refine lv_iload_n hx hb dX0_normalize_0 rfl (lv_at hl 3 rfl) ?_
  refine lv_istore (lv' := [(4, .int b), (0, .ref o), (1, .ref q), (2, .int sn), (3, .int b)]) hx hb dX0_normalize_1 hl (by decide) rfl (fun ls hl => ?_)
  refine lv_iconst (v := 0) hx hb dX0_normalize_3 (by decide) ?_
  refine lv_istore (lv' := [(5, .int 0), (4, .int b), (0, .ref o), (1, .ref q), (2, .int sn), (3, .int b)]) hx hb dX0_normalize_4 hl (by decide) rfl (fun ls hl => ?_)
  have loop_6 : ∀ (n_6 i : Nat) (xi : Int32) (h : Nat → Int32) (xs : Int32), i ≤ 10 → 10 + 1 ≤ i + n_6 → (xi = nI i) → (h = mixf i (nrW fac sn) f) → (xs = sg b (nrT fac sn) i) → ∀ (H : Heap) (locs : List Loc), va_P G.1 vwCl [(o, .inr (0, [.ref w, .int d, .int g])), (w, eI G 10 h), (q, eI G 10 fac)] H → va_D A [(o, .inr (0, [.ref w, .int d, .int g])), (w, eI G 10 h), (q, eI G 10 fac)] → va_S A s.heap H locs → ∀ ls : Array Slot, lv_has ls 6 [(0, .ref o), (1, .ref q), (2, .int sn), (4, .int xs), (5, .int xi)] → W p l e rmX0_normalize s m [.ref o, .ref q, .int sn, .int b].toArray below meth c H locs 0 0 (MQ below (mu_Q G none [(o, .inr (0, [.ref w, .int (nrD fac sn b), .int g])), (w, eI G 10 (mixf 10 (nrW fac sn) f)), (q, eI G 10 fac)] A) [.ref o, .ref q, .int sn, .int b].toArray s 0 0 A) (F0 m 6 ls []) := by
    intro n_6
    induction n_6 with
    | zero => intro i xi h xs h1 h2; exact absurd h2 (by omega)
    | succ n_6 ih_6 =>
      intro i xi h xs hi_6 hn_6 ei eh es H locs hP hD hS ls hl
      refine lv_iload hx hb dX0_normalize_6 (lv_at hl 4 rfl) ?_
      refine lv_bipush (v := 10) hx hb dX0_normalize_8 (by decide) ?_
      refine lv_icmp_ge (tgt := 53) hx hb dX0_normalize_10 (by decide) (fun c_10 => ?_) (fun c_10 => ?_)
      · have hN : i = 10 := ge_ix ei (by decide) (by decide) c_10 hi_6
        refine lv_aload_n hx hb dX0_normalize_53 rfl (lv_at hl 0 rfl) ?_
        refine lv_iload hx hb dX0_normalize_54 (lv_at hl 3 rfl) ?_
        refine lv_iconst (v := 0) hx hb dX0_normalize_56 (by decide) ?_
        refine va_mmax hx hb (hml.trans hl.1.symm) hown hw0 hw1 hw2 hw3 (Nat.le_of_ble_eq_true rfl) (Nat.le_of_ble_eq_true rfl) (Nat.le_refl _) (Nat.le_refl _) dX0_normalize_57 ?_
        refine va_put (D := G.1) (ci := 0) (v := .int (maxI xs 0)) (ty := .int) (C := RX0) (T := TX0) (N := 3) hx hb hts hinX0 tyX0 tyX0_ok nmX0 hown hK.1 hP hD hS 0 rfl rfl 1 (by decide) hw5 (fun _ h9 => h9) rfl (by decide +kernel) rfl rfl (Nat.le_of_ble_eq_true rfl) dX0_normalize_60 (fun H locs hP hD hS => ?_)
        have hP : va_P G.1 vwCl [(o, .inr (0, [.ref w, .int (maxI xs 0), .int g])), (w, eI G 10 h), (q, eI G 10 fac)] H := hP
        have hD : va_D A [(o, .inr (0, [.ref w, .int (maxI xs 0), .int g])), (w, eI G 10 h), (q, eI G 10 fac)] := hD
        rw [eh, es, hN] at hP hD
        have hP9 := hP.sub (ws' := [(o, .inr (0, [.ref w, .int (nrD fac sn b), .int g])), (w, eI G 10 (mixf 10 (nrW fac sn) f)), (q, eI G 10 fac)]) [0, 1, 2] rfl
        have hD9 := hD.sub (ws' := [(o, .inr (0, [.ref w, .int (nrD fac sn b), .int g])), (w, eI G 10 (mixf 10 (nrW fac sn) f)), (q, eI G 10 fac)]) [0, 1, 2] (by decide) rfl
        exact W.vret hx hb hr (fun t ht hW => ⟨rfl, by rw [ht]; exact hP9, hD9, hS.F ht⟩) hS.2.2 dX0_normalize_63
      · have hlt : i < 10 := lt_ix ei (by decide) (by decide) c_10 hi_6
        refine lv_aload_n hx hb dX0_normalize_13 rfl (lv_at hl 0 rfl) ?_
        refine va_get (D := G.1) (ci := 0) (v := .ref w) (C := RX0) (T := TX0) (N := 3) hx hb hts hinX0 hown hK.1 hP 0 rfl rfl 0 (by decide) hw6 (fun _ h9 => h9) rfl dX0_normalize_14 ?_
        refine lv_iload hx hb dX0_normalize_17 (lv_at hl 4 rfl) ?_
        refine lv_iload_n hx hb dX0_normalize_19 rfl (lv_at hl 2 rfl) ?_
        refine lv_aload_n hx hb dX0_normalize_20 rfl (lv_at hl 1 rfl) ?_
        refine lv_iload hx hb dX0_normalize_21 (lv_at hl 4 rfl) ?_
        refine ra_iald (f := fac) (v := i) hx hb hK.1 hP 2 0 rfl rfl ei (by omega) (by decide) dX0_normalize_23 ?_
        refine lv_imul hx hb dX0_normalize_24 ?_
        refine ra_iast (v := i) hx hb hK.1 hP hD hS 1 0 rfl rfl ei (by omega) (by decide) dX0_normalize_25 (fun H locs hP hD hS => ?_)
        have hP : va_P G.1 vwCl [(o, .inr (0, [.ref w, .int d, .int g])), (w, eI G 10 (upd h i (sn * (fac i)))), (q, eI G 10 fac)] H := hP
        have hD : va_D A [(o, .inr (0, [.ref w, .int d, .int g])), (w, eI G 10 (upd h i (sn * (fac i)))), (q, eI G 10 fac)] := hD
        have eA25 : upd h i (sn * (fac i)) = mixf (i + 1) (nrW fac sn) f := by rw [eh]; exact mixf_s i (nrW fac sn) f
        rw [eA25] at hP hD
        refine lv_aload_n hx hb dX0_normalize_26 rfl (lv_at hl 0 rfl) ?_
        refine va_get (D := G.1) (ci := 0) (v := .ref w) (C := RX0) (T := TX0) (N := 3) hx hb hts hinX0 hown hK.1 hP 0 rfl rfl 0 (by decide) hw6 (fun _ h9 => h9) rfl dX0_normalize_27 ?_
        refine lv_iload hx hb dX0_normalize_30 (lv_at hl 4 rfl) ?_
        refine ra_iald (f := (mixf (i + 1) (nrW fac sn) f)) (v := i) hx hb hK.1 hP 1 0 rfl rfl ei (by omega) (by decide) dX0_normalize_32 ?_
        refine lv_if_ge (tgt := 47) hx hb dX0_normalize_33 (by decide) (fun c_33 => ?_) (fun c_33 => ?_)
        · refine lv_iinc (v := xi + 1) (lv' := [(5, .int (xi + 1)), (0, .ref o), (1, .ref q), (2, .int sn), (4, .int xs)]) hx hb dX0_normalize_47 hl (k := 4) rfl rfl (by decide) rfl (fun ls hl => ?_)
          refine lv_goto (tgt := 6) hx hb dX0_normalize_50 (by decide) ?_
          exact ih_6 (i + 1) _ _ _ (by omega) (by omega) (by rw [ei]; exact nI_1 i) (by rfl) (by rw [mixf_lo _ _ (Nat.lt_succ_self i)] at c_33; show _ = sg b (nrT fac sn) i + nrT fac sn i; rw [es]; unfold nrT; (rw [if_neg (Int32.not_lt.mpr c_33)]; exact add0 _)) _ _ (hP.sub [0, 1, 2] rfl) (hD.sub [0, 1, 2] (by decide) rfl) hS ls (lv_sub hl [1, 2, 3, 4, 0] rfl)
        · refine lv_iload hx hb dX0_normalize_36 (lv_at hl 3 rfl) ?_
          refine lv_aload_n hx hb dX0_normalize_38 rfl (lv_at hl 0 rfl) ?_
          refine lv_iload hx hb dX0_normalize_39 (lv_at hl 4 rfl) ?_
          refine ro_call (va_runV (As := [.int xi]) (rest := [.int xs]) ⟨hx, hb, hml, hown, hts⟩ (c_X0_size l G o w d g (mixf (i + 1) (nrW fac sn) f) xi i ei (by omega)) (cwV 1 hts gX0_normalize_X0_size rfl rfl rfl (by decide +kernel) ⟨Nat.le_of_ble_eq_true rfl, Nat.le_of_ble_eq_true rfl⟩) ⟨ro_blind, va_recv hK.1 hP (ci := 0) (q0 := 0) rfl rfl, ro_pre _ (hP.sub [0, 1] rfl) hK⟩ rfl rfl hl.1 rfl (lv_room (Nat.le_of_ble_eq_true rfl)) dX0_normalize_41 ⟨Nat.le_refl _, Nat.le_refl _⟩) ?_
          refine lv_iadd hx hb dX0_normalize_44 ?_
          refine lv_istore (lv' := [(4, .int (xs + (absI ((mixf (i + 1) (nrW fac sn) f) i)))), (0, .ref o), (1, .ref q), (2, .int sn), (5, .int xi)]) hx hb dX0_normalize_45 hl (by decide) rfl (fun ls hl => ?_)
          refine lv_iinc (v := xi + 1) (lv' := [(5, .int (xi + 1)), (4, .int (xs + (absI ((mixf (i + 1) (nrW fac sn) f) i)))), (0, .ref o), (1, .ref q), (2, .int sn)]) hx hb dX0_normalize_47 hl (k := 4) rfl rfl (by decide) rfl (fun ls hl => ?_)
          refine lv_goto (tgt := 6) hx hb dX0_normalize_50 (by decide) ?_
          exact ih_6 (i + 1) _ _ _ (by omega) (by omega) (by rw [ei]; exact nI_1 i) (by rfl) (by rw [mixf_lo _ _ (Nat.lt_succ_self i)] at c_33; show _ = sg b (nrT fac sn) i + nrT fac sn i; rw [es]; unfold nrT; (rw [mixf_lo _ _ (Nat.lt_succ_self i), if_pos (Int32.not_le.mp c_33)])) _ _ (hP.sub [0, 1, 2] rfl) (hD.sub [0, 1, 2] (by decide) rfl) hS ls (lv_sub hl [2, 3, 4, 1, 0] rfl)
  exact loop_6 (10 + 1) 0 _ _ _ (Nat.zero_le _) (by omega) (by exact nI_0.symm) (by exact (mixf_0 _ _).symm) (by rfl) _ _ (hP.sub [0, 1, 2] rfl) (hD.sub [0, 1, 2] (by decide) rfl) hS ls (lv_sub hl [2, 3, 4, 1, 0] rfl)

abbrev rmX0_becomeAtLeast : Room := { frames := 3, cells := 0, slots := 0, locals := 67 }
set_option maxHeartbeats 4000000 in
set_option maxRecDepth 100000 in
theorem c_X0_becomeAtLeast (l : Launch) (G : Gt) (sz : Nat) (o w : Nat) (d g : Int32) (f : Nat → Int32) (q : Nat) (fac : Nat → Int32) (b : Int32) : Met l yX0_becomeAtLeast wsX0_becomeAtLeast rmX0_becomeAtLeast (mu_P G sz [.ref o, .ref q, .int b] [(o, .inr (0, [.ref w, .int d, .int g])), (w, eI G 10 f), (q, eI G 10 fac)]) (mu_Q G none [(o, .inr (0, [.ref w, .int (nrD fac 1 b), .int g])), (w, eI G 10 (mixf 10 (nrW fac 1) f)), (q, eI G 10 fac)] (va_A [(o, .inr (0, [.ref w, .int d, .int g])), (w, eI G 10 f), (q, eI G 10 fac)] sz)) 0 0 (va_A [(o, .inr (0, [.ref w, .int d, .int g])), (w, eI G 10 f), (q, eI G 10 fac)] sz) := by
  refine Met.ofW (cc := cX0_becomeAtLeast) (maxL := 3) (ret := none) (by decide) rfl ?_
  intro p e s m args below meth c s₁ B hml hv
  obtain ⟨rfl, hsz, hP, hD0, hK⟩ := hv
  have hx := B.exec
  have hb := B.bytes
  have hr := B.returns
  have hts := atoms_spec (ws := wsX0_becomeAtLeast) B.pre
  have hown : s.vm.findClass RX0 = some m.cls := findClass_of_methodNamed B.named
  have hlocks := B.notSynchronized
  subst hsz
  have hD := hD0.self (sz := s.heap.size)
  generalize hAe : va_A [(o, .inr (0, [.ref w, .int d, .int g])), (w, eI G 10 f), (q, eI G 10 fac)] s.heap.size = A at hD ⊢
  have hA : ∀ q : Nat, s.heap.size ≤ q → A q := fun q h => by rw [← hAe]; exact Or.inr h
  have hS : va_S A s.heap s.heap [] := va_S.rf
  have hl := lv_entry ([.ref o, .ref q, .int b]) (n := 3) (Nat.le_of_ble_eq_true rfl)
  rw [lg_entry_eq]
  generalize (lg_sl ([.ref o, .ref q, .int b]) ++ List.replicate (3 - (lg_sl ([.ref o, .ref q, .int b])).length) Slot.unset).toArray = ls at hl ⊢
  have hl : lv_has ls 3 [(0, .ref o), (1, .ref q), (2, .int b)] := hl
  refine lv_aload_n hx hb dX0_becomeAtLeast_0 rfl (lv_at hl 0 rfl) ?_
  refine lv_aload_n hx hb dX0_becomeAtLeast_1 rfl (lv_at hl 1 rfl) ?_
  refine lv_iconst (v := 1) hx hb dX0_becomeAtLeast_2 (by decide) ?_
  refine lv_iload_n hx hb dX0_becomeAtLeast_3 rfl (lv_at hl 2 rfl) ?_
  refine mu_call (va_runV (As := [.ref q, .int 1, .int b]) (rest := []) ⟨hx, hb, hml, hown, hts⟩ (c_X0_normalize l G _ o w d g f q fac 1 b) (cwV 3 hts gX0_becomeAtLeast_X0_normalize rfl rfl rfl (by decide +kernel) ⟨Nat.le_of_ble_eq_true rfl, Nat.le_of_ble_eq_true rfl⟩) ⟨mu_blind, va_recv hK.1 hP (ci := 0) (q0 := 0) rfl rfl, mu_pre _ (hP.sub [0, 1, 2] rfl) (hD.sub [0, 1, 2] (by decide) rfl) hK⟩ rfl rfl hl.1 rfl (lv_room (Nat.le_of_ble_eq_true rfl)) dX0_becomeAtLeast_4 ⟨Nat.le_refl _, Nat.le_refl _⟩) hS (va_free hD hS hA [0, 1, 2] rfl) (va_free hD hS hA [0, 1, 2] rfl) (fun H1 locs hP1 hD1 hk1 hS => ?_)
  obtain ⟨hP, hD⟩ := rp_join (ws' := [(o, .inr (0, [.ref w, .int (nrD fac 1 b), .int g])), (w, eI G 10 (mixf 10 (nrW fac 1) f)), (q, eI G 10 fac)]) hP hD [0, 1, 2] rfl hk1 hP1 (fun k q h => match k, q, h with | 0, q, h => Or.inl ⟨0, h⟩ | 1, q, h => Or.inl ⟨1, h⟩ | 2, q, h => Or.inl ⟨2, h⟩ | k + 3, q, h => nomatch h) rfl
  generalize H1 = H at hP hS ⊢
  have hP : va_P G.1 vwCl [(o, .inr (0, [.ref w, .int (nrD fac 1 b), .int g])), (w, eI G 10 (mixf 10 (nrW fac 1) f)), (q, eI G 10 fac)] H := hP
  have hD : va_D A [(o, .inr (0, [.ref w, .int (nrD fac 1 b), .int g])), (w, eI G 10 (mixf 10 (nrW fac 1) f)), (q, eI G 10 fac)] := hD
  have hP9 := hP.sub (ws' := [(o, .inr (0, [.ref w, .int (nrD fac 1 b), .int g])), (w, eI G 10 (mixf 10 (nrW fac 1) f)), (q, eI G 10 fac)]) [0, 1, 2] rfl
  have hD9 := hD.sub (ws' := [(o, .inr (0, [.ref w, .int (nrD fac 1 b), .int g])), (w, eI G 10 (mixf 10 (nrW fac 1) f)), (q, eI G 10 fac)]) [0, 1, 2] (by decide) rfl
  exact W.vret hx hb hr (fun t ht hW => ⟨rfl, by rw [ht]; exact hP9, hD9, hS.F ht⟩) hS.2.2 dX0_becomeAtLeast_7

abbrev rmX0_becomeAtMost : Room := { frames := 3, cells := 0, slots := 0, locals := 67 }
set_option maxHeartbeats 4000000 in
set_option maxRecDepth 100000 in
theorem c_X0_becomeAtMost (l : Launch) (G : Gt) (sz : Nat) (o w : Nat) (d g : Int32) (f : Nat → Int32) (q : Nat) (fac : Nat → Int32) (b : Int32) : Met l yX0_becomeAtMost wsX0_becomeAtMost rmX0_becomeAtMost (mu_P G sz [.ref o, .ref q, .int b] [(o, .inr (0, [.ref w, .int d, .int g])), (w, eI G 10 f), (q, eI G 10 fac)]) (mu_Q G none [(o, .inr (0, [.ref w, .int (nrD fac (-1) (-b)), .int g])), (w, eI G 10 (mixf 10 (nrW fac (-1)) f)), (q, eI G 10 fac)] (va_A [(o, .inr (0, [.ref w, .int d, .int g])), (w, eI G 10 f), (q, eI G 10 fac)] sz)) 0 0 (va_A [(o, .inr (0, [.ref w, .int d, .int g])), (w, eI G 10 f), (q, eI G 10 fac)] sz) := by
  refine Met.ofW (cc := cX0_becomeAtMost) (maxL := 3) (ret := none) (by decide) rfl ?_
  intro p e s m args below meth c s₁ B hml hv
  obtain ⟨rfl, hsz, hP, hD0, hK⟩ := hv
  have hx := B.exec
  have hb := B.bytes
  have hr := B.returns
  have hts := atoms_spec (ws := wsX0_becomeAtMost) B.pre
  have hown : s.vm.findClass RX0 = some m.cls := findClass_of_methodNamed B.named
  have hlocks := B.notSynchronized
  subst hsz
  have hD := hD0.self (sz := s.heap.size)
  generalize hAe : va_A [(o, .inr (0, [.ref w, .int d, .int g])), (w, eI G 10 f), (q, eI G 10 fac)] s.heap.size = A at hD ⊢
  have hA : ∀ q : Nat, s.heap.size ≤ q → A q := fun q h => by rw [← hAe]; exact Or.inr h
  have hS : va_S A s.heap s.heap [] := va_S.rf
  have hl := lv_entry ([.ref o, .ref q, .int b]) (n := 3) (Nat.le_of_ble_eq_true rfl)
  rw [lg_entry_eq]
  generalize (lg_sl ([.ref o, .ref q, .int b]) ++ List.replicate (3 - (lg_sl ([.ref o, .ref q, .int b])).length) Slot.unset).toArray = ls at hl ⊢
  have hl : lv_has ls 3 [(0, .ref o), (1, .ref q), (2, .int b)] := hl
  refine lv_aload_n hx hb dX0_becomeAtMost_0 rfl (lv_at hl 0 rfl) ?_
  refine lv_aload_n hx hb dX0_becomeAtMost_1 rfl (lv_at hl 1 rfl) ?_
  refine lv_iconst (v := (-1)) hx hb dX0_becomeAtMost_2 (by decide) ?_
  refine lv_iload_n hx hb dX0_becomeAtMost_3 rfl (lv_at hl 2 rfl) ?_
  refine lv_ineg hx hb dX0_becomeAtMost_4 ?_
  refine mu_call (va_runV (As := [.ref q, .int (-1), .int (-b)]) (rest := []) ⟨hx, hb, hml, hown, hts⟩ (c_X0_normalize l G _ o w d g f q fac (-1) (-b)) (cwV 3 hts gX0_becomeAtMost_X0_normalize rfl rfl rfl (by decide +kernel) ⟨Nat.le_of_ble_eq_true rfl, Nat.le_of_ble_eq_true rfl⟩) ⟨mu_blind, va_recv hK.1 hP (ci := 0) (q0 := 0) rfl rfl, mu_pre _ (hP.sub [0, 1, 2] rfl) (hD.sub [0, 1, 2] (by decide) rfl) hK⟩ rfl rfl hl.1 rfl (lv_room (Nat.le_of_ble_eq_true rfl)) dX0_becomeAtMost_5 ⟨Nat.le_refl _, Nat.le_refl _⟩) hS (va_free hD hS hA [0, 1, 2] rfl) (va_free hD hS hA [0, 1, 2] rfl) (fun H1 locs hP1 hD1 hk1 hS => ?_)
  obtain ⟨hP, hD⟩ := rp_join (ws' := [(o, .inr (0, [.ref w, .int (nrD fac (-1) (-b)), .int g])), (w, eI G 10 (mixf 10 (nrW fac (-1)) f)), (q, eI G 10 fac)]) hP hD [0, 1, 2] rfl hk1 hP1 (fun k q h => match k, q, h with | 0, q, h => Or.inl ⟨0, h⟩ | 1, q, h => Or.inl ⟨1, h⟩ | 2, q, h => Or.inl ⟨2, h⟩ | k + 3, q, h => nomatch h) rfl
  generalize H1 = H at hP hS ⊢
  have hP : va_P G.1 vwCl [(o, .inr (0, [.ref w, .int (nrD fac (-1) (-b)), .int g])), (w, eI G 10 (mixf 10 (nrW fac (-1)) f)), (q, eI G 10 fac)] H := hP
  have hD : va_D A [(o, .inr (0, [.ref w, .int (nrD fac (-1) (-b)), .int g])), (w, eI G 10 (mixf 10 (nrW fac (-1)) f)), (q, eI G 10 fac)] := hD
  have hP9 := hP.sub (ws' := [(o, .inr (0, [.ref w, .int (nrD fac (-1) (-b)), .int g])), (w, eI G 10 (mixf 10 (nrW fac (-1)) f)), (q, eI G 10 fac)]) [0, 1, 2] rfl
  have hD9 := hD.sub (ws' := [(o, .inr (0, [.ref w, .int (nrD fac (-1) (-b)), .int g])), (w, eI G 10 (mixf 10 (nrW fac (-1)) f)), (q, eI G 10 fac)]) [0, 1, 2] (by decide) rfl
  exact W.vret hx hb hr (fun t ht hW => ⟨rfl, by rw [ht]; exact hP9, hD9, hS.F ht⟩) hS.2.2 dX0_becomeAtMost_8

abbrev rmJ7_fill_53178 : Room := { frames := 0, cells := 0, slots := 0, locals := 0 }
set_option maxHeartbeats 4000000 in
set_option maxRecDepth 100000 in
theorem c_J7_fill_53178 (l : Launch) (G : Gt) (sz : Nat) (w : Nat) (f : Nat → Int32) (x : Int32) : Met l yJ7_fill_53178 wsJ7_fill_53178 rmJ7_fill_53178 (mu_P G sz [.ref w, .int x] [(w, eI G 10 f)]) (mu_Q G none [(w, eI G 10 (mixf 10 (fun _ => x) f))] (va_A [(w, eI G 10 f)] sz)) 0 0 (va_A [(w, eI G 10 f)] sz) := by
  refine Met.ofW (cc := cJ7_fill_53178) (maxL := 4) (ret := none) (by decide) rfl ?_
  intro p e s m args below meth c s₁ B hml hv
  obtain ⟨rfl, hsz, hP, hD0, hK⟩ := hv
  have hx := B.exec
  have hb := B.bytes
  have hr := B.returns
  have hts := atoms_spec (ws := wsJ7_fill_53178) B.pre
  have hown : s.vm.findClass RJ7 = some m.cls := findClass_of_methodNamed B.named
  have hlocks := B.notSynchronized
  subst hsz
  have hD := hD0.self (sz := s.heap.size)
  generalize hAe : va_A [(w, eI G 10 f)] s.heap.size = A at hD ⊢
  have hA : ∀ q : Nat, s.heap.size ≤ q → A q := fun q h => by rw [← hAe]; exact Or.inr h
  have hS : va_S A s.heap s.heap [] := va_S.rf
  have hl := lv_entry ([.ref w, .int x]) (n := 4) (Nat.le_of_ble_eq_true rfl)
  rw [lg_entry_eq]
  generalize (lg_sl ([.ref w, .int x]) ++ List.replicate (4 - (lg_sl ([.ref w, .int x])).length) Slot.unset).toArray = ls at hl ⊢
  have hl : lv_has ls 4 [(0, .ref w), (1, .int x)] := hl
  refine lv_iconst (v := 0) hx hb dJ7_fill_53178_0 (by decide) ?_
  refine lv_istore_n (lv' := [(2, .int 0), (0, .ref w), (1, .int x)]) hx hb dJ7_fill_53178_1 rfl hl (by decide) rfl (fun ls hl => ?_)
  refine lv_aload_n hx hb dJ7_fill_53178_2 rfl (lv_at hl 1 rfl) ?_
  refine va_alen (v := 10) hx hb hK.1 hP 0 0 rfl rfl rfl dJ7_fill_53178_3 ?_
  refine lv_istore_n (lv' := [(3, .int 10), (2, .int 0), (0, .ref w), (1, .int x)]) hx hb dJ7_fill_53178_4 rfl hl (by decide) rfl (fun ls hl => ?_)
  have loop_5 : ∀ (n_5 i : Nat) (xi : Int32) (h : Nat → Int32), i ≤ 10 → 10 + 1 ≤ i + n_5 → (xi = nI i) → (h = mixf i (fun _ => x) f) → ∀ (H : Heap) (locs : List Loc), va_P G.1 vwCl [(w, eI G 10 h)] H → va_D A [(w, eI G 10 h)] → va_S A s.heap H locs → ∀ ls : Array Slot, lv_has ls 4 [(0, .ref w), (1, .int x), (2, .int xi), (3, .int 10)] → W p l e rmJ7_fill_53178 s m [.ref w, .int x].toArray below meth c H locs 0 0 (MQ below (mu_Q G none [(w, eI G 10 (mixf 10 (fun _ => x) f))] A) [.ref w, .int x].toArray s 0 0 A) (F0 m 5 ls []) := by
    intro n_5
    induction n_5 with
    | zero => intro i xi h h1 h2; exact absurd h2 (by omega)
    | succ n_5 ih_5 =>
      intro i xi h hi_5 hn_5 ei eh H locs hP hD hS ls hl
      refine lv_iload_n hx hb dJ7_fill_53178_5 rfl (lv_at hl 2 rfl) ?_
      refine lv_iload_n hx hb dJ7_fill_53178_6 rfl (lv_at hl 3 rfl) ?_
      refine lv_icmp_ge (tgt := 20) hx hb dJ7_fill_53178_7 (by decide) (fun c_7 => ?_) (fun c_7 => ?_)
      · have hN : i = 10 := ge_ix ei (by decide) (by decide) c_7 hi_5
        rw [eh, hN] at hP hD
        have hP9 := hP.sub (ws' := [(w, eI G 10 (mixf 10 (fun _ => x) f))]) [0] rfl
        have hD9 := hD.sub (ws' := [(w, eI G 10 (mixf 10 (fun _ => x) f))]) [0] (by decide) rfl
        exact W.vret hx hb hr (fun t ht hW => ⟨rfl, by rw [ht]; exact hP9, hD9, hS.F ht⟩) hS.2.2 dJ7_fill_53178_20
      · have hlt : i < 10 := lt_ix ei (by decide) (by decide) c_7 hi_5
        refine lv_aload_n hx hb dJ7_fill_53178_10 rfl (lv_at hl 0 rfl) ?_
        refine lv_iload_n hx hb dJ7_fill_53178_11 rfl (lv_at hl 2 rfl) ?_
        refine lv_iload_n hx hb dJ7_fill_53178_12 rfl (lv_at hl 1 rfl) ?_
        refine ra_iast (v := i) hx hb hK.1 hP hD hS 0 0 rfl rfl ei (by omega) (by decide) dJ7_fill_53178_13 (fun H locs hP hD hS => ?_)
        have hP : va_P G.1 vwCl [(w, eI G 10 (upd h i x))] H := hP
        have hD : va_D A [(w, eI G 10 (upd h i x))] := hD
        refine lv_iinc (v := xi + 1) (lv' := [(2, .int (xi + 1)), (0, .ref w), (1, .int x), (3, .int 10)]) hx hb dJ7_fill_53178_14 hl (k := 2) rfl rfl (by decide) rfl (fun ls hl => ?_)
        refine lv_goto (tgt := 5) hx hb dJ7_fill_53178_17 (by decide) ?_
        exact ih_5 (i + 1) _ _ (by omega) (by omega) (by rw [ei]; exact nI_1 i) (by rw [eh]; exact mixf_s i (fun _ => x) f) _ _ (hP.sub [0] rfl) (hD.sub [0] (by decide) rfl) hS ls (lv_sub hl [1, 2, 0, 3] rfl)
  exact loop_5 (10 + 1) 0 _ _ (Nat.zero_le _) (by omega) (by exact nI_0.symm) (by exact (mixf_0 _ _).symm) _ _ (hP.sub [0] rfl) (hD.sub [0] (by decide) rfl) hS ls (lv_sub hl [2, 3, 1, 0] rfl)

abbrev rmX0_becomeAxiom : Room := { frames := 1, cells := 0, slots := 0, locals := 23 }
set_option maxHeartbeats 4000000 in
set_option maxRecDepth 100000 in
theorem c_X0_becomeAxiom (l : Launch) (G : Gt) (sz : Nat) (o w : Nat) (d g : Int32) (f : Nat → Int32) (x y : Int32) (v : Nat) (ex : x = nI v) (hv : v < 10) : Met l yX0_becomeAxiom wsX0_becomeAxiom rmX0_becomeAxiom (mu_P G sz [.ref o, .int x, .int y] [(o, .inr (0, [.ref w, .int d, .int g])), (w, eI G 10 f)]) (mu_Q G none [(o, .inr (0, [.ref w, .int 0, .int g])), (w, eI G 10 (upd (mixf 10 (fun _ => 0) f) v (if y = 0 then -1 else 1)))] (va_A [(o, .inr (0, [.ref w, .int d, .int g])), (w, eI G 10 f)] sz)) 0 0 (va_A [(o, .inr (0, [.ref w, .int d, .int g])), (w, eI G 10 f)] sz) := by
  refine Met.ofW (cc := cX0_becomeAxiom) (maxL := 3) (ret := none) (by decide) rfl ?_
  intro p e s m args below meth c s₁ B hml hv
  obtain ⟨rfl, hsz, hP, hD0, hK⟩ := hv
  have hx := B.exec
  have hb := B.bytes
  have hr := B.returns
  have hts := atoms_spec (ws := wsX0_becomeAxiom) B.pre
  have hown : s.vm.findClass RX0 = some m.cls := findClass_of_methodNamed B.named
  have hlocks := B.notSynchronized
  subst hsz
  have hD := hD0.self (sz := s.heap.size)
  generalize hAe : va_A [(o, .inr (0, [.ref w, .int d, .int g])), (w, eI G 10 f)] s.heap.size = A at hD ⊢
  have hA : ∀ q : Nat, s.heap.size ≤ q → A q := fun q h => by rw [← hAe]; exact Or.inr h
  have hS : va_S A s.heap s.heap [] := va_S.rf
  have hinX0 : ∀ w ∈ u_ws RX0 TX0 3, w ∈ wsX0_becomeAxiom := fun w h => List.mem_cons_of_mem _ (List.mem_append_right _ h)
  have hw1 := hts (.fieldLink RX0 9 "ChoiceBoard$Constraint" "weights" "[I") (by decide +kernel)
  have hw2 := hts (.fieldLink RX0 15 "ChoiceBoard$Constraint" "degree" "I") (by decide +kernel)
  have hl := lv_entry ([.ref o, .int x, .int y]) (n := 3) (Nat.le_of_ble_eq_true rfl)
  rw [lg_entry_eq]
  generalize (lg_sl ([.ref o, .int x, .int y]) ++ List.replicate (3 - (lg_sl ([.ref o, .int x, .int y])).length) Slot.unset).toArray = ls at hl ⊢
  have hl : lv_has ls 3 [(0, .ref o), (1, .int x), (2, .int y)] := hl
  refine lv_aload_n hx hb dX0_becomeAxiom_0 rfl (lv_at hl 0 rfl) ?_
  refine va_get (D := G.1) (ci := 0) (v := .ref w) (C := RX0) (T := TX0) (N := 3) hx hb hts hinX0 hown hK.1 hP 0 rfl rfl 0 (by decide) hw1 (fun _ h9 => h9) rfl dX0_becomeAxiom_1 ?_
  refine lv_iconst (v := 0) hx hb dX0_becomeAxiom_4 (by decide) ?_
  refine mu_call (va_runS (As := [.ref w, .int 0]) (rest := []) ⟨hx, hb, hml, hown, hts⟩ (c_J7_fill_53178 l G _ w f 0) (va_cwS 2 hts gX0_becomeAxiom_J7_fill_53178 rfl rfl rfl (by decide +kernel) ⟨Nat.le_of_ble_eq_true rfl, Nat.le_of_ble_eq_true rfl⟩) ⟨mu_blind, mu_pre _ (hP.sub [1] rfl) (hD.sub [1] (by decide) rfl) hK⟩ rfl rfl hl.1 rfl (lv_room (Nat.le_of_ble_eq_true rfl)) dX0_becomeAxiom_5 ⟨Nat.le_refl _, Nat.le_refl _⟩) hS (va_free hD hS hA [1] rfl) (va_free hD hS hA [1] rfl) (fun H1 locs hP1 hD1 hk1 hS => ?_)
  obtain ⟨hP, hD⟩ := rp_join (ws' := [(o, .inr (0, [.ref w, .int d, .int g])), (w, eI G 10 (mixf 10 (fun _ => 0) f))]) hP hD [1] rfl hk1 hP1 (fun k q h => match k, q, h with | 0, q, h => Or.inr ⟨by decide, h⟩ | 1, q, h => Or.inl ⟨0, h⟩ | k + 2, q, h => nomatch h) rfl
  generalize H1 = H at hP hS ⊢
  have hP : va_P G.1 vwCl [(o, .inr (0, [.ref w, .int d, .int g])), (w, eI G 10 (mixf 10 (fun _ => 0) f))] H := hP
  have hD : va_D A [(o, .inr (0, [.ref w, .int d, .int g])), (w, eI G 10 (mixf 10 (fun _ => 0) f))] := hD
  refine lv_aload_n hx hb dX0_becomeAxiom_8 rfl (lv_at hl 0 rfl) ?_
  refine va_get (D := G.1) (ci := 0) (v := .ref w) (C := RX0) (T := TX0) (N := 3) hx hb hts hinX0 hown hK.1 hP 0 rfl rfl 0 (by decide) hw1 (fun _ h9 => h9) rfl dX0_becomeAxiom_9 ?_
  refine lv_iload_n hx hb dX0_becomeAxiom_12 rfl (lv_at hl 1 rfl) ?_
  refine lv_iload_n hx hb dX0_becomeAxiom_13 rfl (lv_at hl 2 rfl) ?_
  refine lv_if_eq (tgt := 21) hx hb dX0_becomeAxiom_14 (by decide) (fun c_14 => ?_) (fun c_14 => ?_)
  · refine lv_iconst (v := (-1)) hx hb dX0_becomeAxiom_21 (by decide) ?_
    refine ra_iast (v := v) hx hb hK.1 hP hD hS 1 0 rfl rfl ex (by omega) (by decide) dX0_becomeAxiom_22 (fun H locs hP hD hS => ?_)
    have hP : va_P G.1 vwCl [(o, .inr (0, [.ref w, .int d, .int g])), (w, eI G 10 (upd (mixf 10 (fun _ => 0) f) v (-1)))] H := hP
    have hD : va_D A [(o, .inr (0, [.ref w, .int d, .int g])), (w, eI G 10 (upd (mixf 10 (fun _ => 0) f) v (-1)))] := hD
    have eA22 : upd (mixf 10 (fun _ => 0) f) v (-1) = upd (mixf 10 (fun _ => 0) f) v (if y = 0 then -1 else 1) := by rw [if_pos c_14]
    rw [eA22] at hP hD
    refine lv_aload_n hx hb dX0_becomeAxiom_23 rfl (lv_at hl 0 rfl) ?_
    refine lv_iconst (v := 0) hx hb dX0_becomeAxiom_24 (by decide) ?_
    refine va_put (D := G.1) (ci := 0) (v := .int 0) (ty := .int) (C := RX0) (T := TX0) (N := 3) hx hb hts hinX0 tyX0 tyX0_ok nmX0 hown hK.1 hP hD hS 0 rfl rfl 1 (by decide) hw2 (fun _ h9 => h9) rfl (by decide +kernel) rfl rfl (Nat.le_of_ble_eq_true rfl) dX0_becomeAxiom_25 (fun H locs hP hD hS => ?_)
    have hP : va_P G.1 vwCl [(o, .inr (0, [.ref w, .int 0, .int g])), (w, eI G 10 (upd (mixf 10 (fun _ => 0) f) v (if y = 0 then -1 else 1)))] H := hP
    have hD : va_D A [(o, .inr (0, [.ref w, .int 0, .int g])), (w, eI G 10 (upd (mixf 10 (fun _ => 0) f) v (if y = 0 then -1 else 1)))] := hD
    have hP9 := hP.sub (ws' := [(o, .inr (0, [.ref w, .int 0, .int g])), (w, eI G 10 (upd (mixf 10 (fun _ => 0) f) v (if y = 0 then -1 else 1)))]) [0, 1] rfl
    have hD9 := hD.sub (ws' := [(o, .inr (0, [.ref w, .int 0, .int g])), (w, eI G 10 (upd (mixf 10 (fun _ => 0) f) v (if y = 0 then -1 else 1)))]) [0, 1] (by decide) rfl
    exact W.vret hx hb hr (fun t ht hW => ⟨rfl, by rw [ht]; exact hP9, hD9, hS.F ht⟩) hS.2.2 dX0_becomeAxiom_28
  · refine lv_iconst (v := 1) hx hb dX0_becomeAxiom_17 (by decide) ?_
    refine lv_goto (tgt := 22) hx hb dX0_becomeAxiom_18 (by decide) ?_
    refine ra_iast (v := v) hx hb hK.1 hP hD hS 1 0 rfl rfl ex (by omega) (by decide) dX0_becomeAxiom_22 (fun H locs hP hD hS => ?_)
    have hP : va_P G.1 vwCl [(o, .inr (0, [.ref w, .int d, .int g])), (w, eI G 10 (upd (mixf 10 (fun _ => 0) f) v 1))] H := hP
    have hD : va_D A [(o, .inr (0, [.ref w, .int d, .int g])), (w, eI G 10 (upd (mixf 10 (fun _ => 0) f) v 1))] := hD
    have eA22 : upd (mixf 10 (fun _ => 0) f) v 1 = upd (mixf 10 (fun _ => 0) f) v (if y = 0 then -1 else 1) := by rw [if_neg c_14]
    rw [eA22] at hP hD
    refine lv_aload_n hx hb dX0_becomeAxiom_23 rfl (lv_at hl 0 rfl) ?_
    refine lv_iconst (v := 0) hx hb dX0_becomeAxiom_24 (by decide) ?_
    refine va_put (D := G.1) (ci := 0) (v := .int 0) (ty := .int) (C := RX0) (T := TX0) (N := 3) hx hb hts hinX0 tyX0 tyX0_ok nmX0 hown hK.1 hP hD hS 0 rfl rfl 1 (by decide) hw2 (fun _ h9 => h9) rfl (by decide +kernel) rfl rfl (Nat.le_of_ble_eq_true rfl) dX0_becomeAxiom_25 (fun H locs hP hD hS => ?_)
    have hP : va_P G.1 vwCl [(o, .inr (0, [.ref w, .int 0, .int g])), (w, eI G 10 (upd (mixf 10 (fun _ => 0) f) v (if y = 0 then -1 else 1)))] H := hP
    have hD : va_D A [(o, .inr (0, [.ref w, .int 0, .int g])), (w, eI G 10 (upd (mixf 10 (fun _ => 0) f) v (if y = 0 then -1 else 1)))] := hD
    have hP9 := hP.sub (ws' := [(o, .inr (0, [.ref w, .int 0, .int g])), (w, eI G 10 (upd (mixf 10 (fun _ => 0) f) v (if y = 0 then -1 else 1)))]) [0, 1] rfl
    have hD9 := hD.sub (ws' := [(o, .inr (0, [.ref w, .int 0, .int g])), (w, eI G 10 (upd (mixf 10 (fun _ => 0) f) v (if y = 0 then -1 else 1)))]) [0, 1] (by decide) rfl
    exact W.vret hx hb hr (fun t ht hW => ⟨rfl, by rw [ht]; exact hP9, hD9, hS.F ht⟩) hS.2.2 dX0_becomeAxiom_28
end
