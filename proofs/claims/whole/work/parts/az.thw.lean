/-! THE WORDS that a thrown NoSuchElementException wants -/
def thW : List Cond := [.laysStatic Bundle.tN "UNASSIGNED_STACK" Bundle.steD, .laysStatic Bundle.tN "SUPPRESSED_SENTINEL" Bundle.listD, .declares (Bundle.init0 "java/lang/RuntimeException"), .declares (Bundle.init0 "java/lang/Exception"), .declares (Bundle.init0 Bundle.tN), .castable "java/util/NoSuchElementException" "java/util/NoSuchElementException", .isRef (.static Bundle.tN "UNASSIGNED_STACK" Bundle.steD), .isRef (.static Bundle.tN "SUPPRESSED_SENTINEL" Bundle.listD)]
theorem kt_0 : Cond.initialized Bundle.tN ∈ gw := gw_t1 12 (by decide +kernel) (by decide +kernel)
theorem kt_1 : Cond.superclass Bundle.tN "java/lang/Object" ∈ gw := gw_t5 53 (by decide +kernel) (by decide +kernel)
theorem kt_2 : Cond.instanceMethod Bundle.tFill ∈ gw := gw_t5 62 (by decide +kernel) (by decide +kernel)
theorem kt_3 : Cond.codeSync Bundle.tFill LibCode.Throwable.Fill.code 1 (some (.object Bundle.tN)) ∈ gw := gw_t5 64 (by decide +kernel) (by decide +kernel)
theorem kt_4 : Cond.instanceMethod Bundle.tFill0 ∈ gw := gw_t5 67 (by decide +kernel) (by decide +kernel)
theorem kt_5 : Cond.native Bundle.tFill0 ∈ gw := gw_t5 69 (by decide +kernel) (by decide +kernel)
theorem kt_6 : Cond.instanceMethod Bundle.tInit0 ∈ gw := gw_t5 54 (by decide +kernel) (by decide +kernel)
theorem kt_7 : Cond.code Bundle.tInit0 LibCode.Throwable.Init0.code 1 none ∈ gw := gw_t5 55 (by decide +kernel) (by decide +kernel)
theorem kt_8 : Cond.instanceMethod Bundle.oInit ∈ gw := gw_t1 23 (by decide +kernel) (by decide +kernel)
theorem kt_9 : Cond.code Bundle.oInit ⟨#[0xb1]⟩ 1 none ∈ gw := gw_t1 24 (by decide +kernel) (by decide +kernel)
theorem kt_10 : Cond.methodLink Bundle.tN 1 Bundle.oInit ∈ gw := gw_t5 56 (by decide +kernel) (by decide +kernel)
theorem kt_11 : Cond.methodLink Bundle.tN 27 Bundle.tFill ∈ gw := gw_t5 61 (by decide +kernel) (by decide +kernel)
theorem kt_12 : Cond.methodLink Bundle.tN 202 Bundle.tFill0 ∈ gw := gw_t5 65 (by decide +kernel) (by decide +kernel)
theorem kt_13 : Cond.fieldLink Bundle.tN 7 Bundle.tN "cause" "Ljava/lang/Throwable;" ∈ gw := gw_t5 81 (by decide +kernel) (by decide +kernel)
theorem kt_14 : Cond.lays Bundle.tN Bundle.tN "cause" "Ljava/lang/Throwable;" ∈ gw := gw_t5 43 (by decide +kernel) (by decide +kernel)
theorem kt_15 : Cond.fieldLink Bundle.tN 17 Bundle.tN "stackTrace" Bundle.steD ∈ gw := gw_t5 82 (by decide +kernel) (by decide +kernel)
theorem kt_16 : Cond.lays Bundle.tN Bundle.tN "stackTrace" Bundle.steD ∈ gw := gw_t5 45 (by decide +kernel) (by decide +kernel)
theorem kt_17 : Cond.fieldLink Bundle.tN 24 Bundle.tN "suppressedExceptions" Bundle.listD ∈ gw := gw_t5 83 (by decide +kernel) (by decide +kernel)
theorem kt_18 : Cond.lays Bundle.tN Bundle.tN "suppressedExceptions" Bundle.listD ∈ gw := gw_t5 47 (by decide +kernel) (by decide +kernel)
theorem kt_19 : Cond.fieldLink Bundle.tN 13 Bundle.tN "UNASSIGNED_STACK" Bundle.steD ∈ gw := gw_t5 57 (by decide +kernel) (by decide +kernel)
theorem kt_21 : Cond.fieldLink Bundle.tN 20 Bundle.tN "SUPPRESSED_SENTINEL" Bundle.listD ∈ gw := gw_t5 59 (by decide +kernel) (by decide +kernel)
theorem kt_23 : Cond.lays Bundle.tN Bundle.tN "detailMessage" "Ljava/lang/String;" ∈ gw := gw_t5 49 (by decide +kernel) (by decide +kernel)
theorem kt_24 : Cond.instanceMethod (Bundle.init0 "java/util/NoSuchElementException") ∈ gw := gw_t5 71 (by decide +kernel) (by decide +kernel)
theorem kt_25 : Cond.code (Bundle.init0 "java/util/NoSuchElementException") Bundle.five 1 none ∈ gw := gw_t5 72 (by decide +kernel) (by decide +kernel)
theorem kt_26 : Cond.methodLink "java/util/NoSuchElementException" 1 (Bundle.init0 "java/lang/RuntimeException") ∈ gw := gw_t5 73 (by decide +kernel) (by decide +kernel)
theorem kt_27 : Cond.instanceMethod (Bundle.init0 "java/lang/RuntimeException") ∈ gw := gw_t5 74 (by decide +kernel) (by decide +kernel)
theorem kt_29 : Cond.instanceMethod (Bundle.init0 "java/lang/RuntimeException") ∈ gw := gw_t5 74 (by decide +kernel) (by decide +kernel)
theorem kt_30 : Cond.code (Bundle.init0 "java/lang/RuntimeException") Bundle.five 1 none ∈ gw := gw_t5 75 (by decide +kernel) (by decide +kernel)
theorem kt_31 : Cond.methodLink "java/lang/RuntimeException" 1 (Bundle.init0 "java/lang/Exception") ∈ gw := gw_t5 76 (by decide +kernel) (by decide +kernel)
theorem kt_32 : Cond.instanceMethod (Bundle.init0 "java/lang/Exception") ∈ gw := gw_t5 77 (by decide +kernel) (by decide +kernel)
theorem kt_34 : Cond.instanceMethod (Bundle.init0 "java/lang/Exception") ∈ gw := gw_t5 77 (by decide +kernel) (by decide +kernel)
theorem kt_35 : Cond.code (Bundle.init0 "java/lang/Exception") Bundle.five 1 none ∈ gw := gw_t5 78 (by decide +kernel) (by decide +kernel)
theorem kt_36 : Cond.methodLink "java/lang/Exception" 1 (Bundle.init0 Bundle.tN) ∈ gw := gw_t5 79 (by decide +kernel) (by decide +kernel)
theorem kt_37 : Cond.instanceMethod (Bundle.init0 Bundle.tN) ∈ gw := gw_t5 54 (by decide +kernel) (by decide +kernel)
theorem kt_39 : Cond.methodLink "CosetHouse" 266 (Bundle.init0 "java/util/NoSuchElementException") ∈ gw := gw_t5 70 (by decide +kernel) (by decide +kernel)
theorem kt_40 : Cond.instantiable "java/util/NoSuchElementException" 6 ∈ gw := gw_t5 32 (by decide +kernel) (by decide +kernel)
theorem kt_42 : Cond.selects "java/util/NoSuchElementException" Bundle.tFill0 Bundle.tFill0 ∈ gw := gw_t5 40 (by decide +kernel) (by decide +kernel)
theorem kt_43 : Cond.selects "java/util/NoSuchElementException" Bundle.tFill Bundle.tFill ∈ gw := gw_t5 41 (by decide +kernel) (by decide +kernel)
theorem kt_44 : Cond.lays "java/util/NoSuchElementException" Bundle.tN "cause" "Ljava/lang/Throwable;" ∈ gw := gw_t5 42 (by decide +kernel) (by decide +kernel)
theorem kt_45 : Cond.lays "java/util/NoSuchElementException" Bundle.tN "stackTrace" Bundle.steD ∈ gw := gw_t5 44 (by decide +kernel) (by decide +kernel)
theorem kt_46 : Cond.lays "java/util/NoSuchElementException" Bundle.tN "suppressedExceptions" Bundle.listD ∈ gw := gw_t5 46 (by decide +kernel) (by decide +kernel)
theorem kt_47 : Cond.lays "java/util/NoSuchElementException" Bundle.tN "detailMessage" "Ljava/lang/String;" ∈ gw := gw_t5 48 (by decide +kernel) (by decide +kernel)
theorem kt_48 : Cond.fieldLink Bundle.tN 198 Bundle.tN "backtrace" "Ljava/lang/Object;" ∈ gw := gw_t5 52 (by decide +kernel) (by decide +kernel)
theorem kt_49 : Cond.lays Bundle.tN Bundle.tN "backtrace" "Ljava/lang/Object;" ∈ gw := gw_t5 51 (by decide +kernel) (by decide +kernel)
theorem kt_50 : Cond.lays "java/util/NoSuchElementException" Bundle.tN "backtrace" "Ljava/lang/Object;" ∈ gw := gw_t5 50 (by decide +kernel) (by decide +kernel)
theorem kt_51 : Cond.classLink "CosetHouse" 264 "java/util/NoSuchElementException" ∈ gw := gw_t5 31 (by decide +kernel) (by decide +kernel)
theorem kt_52 : Cond.initialized "java/util/NoSuchElementException" ∈ gw := gw_t1 15 (by decide +kernel) (by decide +kernel)
theorem kt_53 : Cond.classLink "CosetHouseLaw" 13 "java/util/NoSuchElementException" ∈ gw := gw_t5 26 (by decide +kernel) (by decide +kernel)
def upNs : List String := ["java/lang/RuntimeException", "java/lang/Exception"]
def nN : String := "java/util/NoSuchElementException"
theorem kt_A : ∀ a ∈ Bundle.throwableAtoms, a ∈ gw ∨ a ∈ thW := List.forall_mem_cons.mpr ⟨Or.inl kt_0, List.forall_mem_cons.mpr ⟨Or.inl kt_1, List.forall_mem_cons.mpr ⟨Or.inl kt_2, List.forall_mem_cons.mpr ⟨Or.inl kt_3, List.forall_mem_cons.mpr ⟨Or.inl kt_4, List.forall_mem_cons.mpr ⟨Or.inl kt_5, List.forall_mem_cons.mpr ⟨Or.inl kt_6, List.forall_mem_cons.mpr ⟨Or.inl kt_7, List.forall_mem_cons.mpr ⟨Or.inl kt_8, List.forall_mem_cons.mpr ⟨Or.inl kt_9, List.forall_mem_cons.mpr ⟨Or.inl kt_10, List.forall_mem_cons.mpr ⟨Or.inl kt_11, List.forall_mem_cons.mpr ⟨Or.inl kt_12, List.forall_mem_cons.mpr ⟨Or.inl kt_13, List.forall_mem_cons.mpr ⟨Or.inl kt_14, List.forall_mem_cons.mpr ⟨Or.inl kt_15, List.forall_mem_cons.mpr ⟨Or.inl kt_16, List.forall_mem_cons.mpr ⟨Or.inl kt_17, List.forall_mem_cons.mpr ⟨Or.inl kt_18, List.forall_mem_cons.mpr ⟨Or.inl kt_19, List.forall_mem_cons.mpr ⟨Or.inr (List.mem_of_getElem? (i := 0) rfl), List.forall_mem_cons.mpr ⟨Or.inl kt_21, List.forall_mem_cons.mpr ⟨Or.inr (List.mem_of_getElem? (i := 1) rfl), List.forall_mem_cons.mpr ⟨Or.inl kt_23, fun a h => nomatch h⟩⟩⟩⟩⟩⟩⟩⟩⟩⟩⟩⟩⟩⟩⟩⟩⟩⟩⟩⟩⟩⟩⟩⟩
theorem kt_B0 : ∀ a ∈ Bundle.passAtoms nN "java/lang/RuntimeException" 1 Bundle.five, a ∈ gw ∨ a ∈ thW := List.forall_mem_cons.mpr ⟨Or.inl kt_24, List.forall_mem_cons.mpr ⟨Or.inl kt_25, List.forall_mem_cons.mpr ⟨Or.inl kt_26, List.forall_mem_cons.mpr ⟨Or.inl kt_27, List.forall_mem_cons.mpr ⟨Or.inr (List.mem_of_getElem? (i := 2) rfl), fun a h => nomatch h⟩⟩⟩⟩⟩
theorem kt_B1 : ∀ a ∈ Bundle.passAtoms "java/lang/RuntimeException" "java/lang/Exception" 1 Bundle.five, a ∈ gw ∨ a ∈ thW := List.forall_mem_cons.mpr ⟨Or.inl kt_29, List.forall_mem_cons.mpr ⟨Or.inl kt_30, List.forall_mem_cons.mpr ⟨Or.inl kt_31, List.forall_mem_cons.mpr ⟨Or.inl kt_32, List.forall_mem_cons.mpr ⟨Or.inr (List.mem_of_getElem? (i := 3) rfl), fun a h => nomatch h⟩⟩⟩⟩⟩
theorem kt_B2 : ∀ a ∈ Bundle.passAtoms "java/lang/Exception" Bundle.tN 1 Bundle.five, a ∈ gw ∨ a ∈ thW := List.forall_mem_cons.mpr ⟨Or.inl kt_34, List.forall_mem_cons.mpr ⟨Or.inl kt_35, List.forall_mem_cons.mpr ⟨Or.inl kt_36, List.forall_mem_cons.mpr ⟨Or.inl kt_37, List.forall_mem_cons.mpr ⟨Or.inr (List.mem_of_getElem? (i := 4) rfl), fun a h => nomatch h⟩⟩⟩⟩⟩
theorem kt_all : ∀ a ∈ Bundle.ownAtoms0 "CosetHouse" 266 nN upNs, a ∈ gw ∨ a ∈ thW := by
  intro a ha
  unfold Bundle.ownAtoms0 at ha
  rcases List.mem_append.mp ha with ha | ha
  · rcases List.mem_append.mp ha with ha | ha
    · exact kt_A a ha
    · rcases List.mem_append.mp ha with ha | ha
      · exact kt_B0 a ha
      · rcases List.mem_append.mp ha with ha | ha
        · exact kt_B1 a ha
        · exact kt_B2 a ha
  · exact (show ∀ a ∈ [Cond.methodLink "CosetHouse" 266 (Bundle.init0 "java/util/NoSuchElementException"), Cond.instantiable "java/util/NoSuchElementException" 6, Cond.castable "java/util/NoSuchElementException" "java/util/NoSuchElementException", Cond.selects "java/util/NoSuchElementException" Bundle.tFill0 Bundle.tFill0, Cond.selects "java/util/NoSuchElementException" Bundle.tFill Bundle.tFill, Cond.lays "java/util/NoSuchElementException" Bundle.tN "cause" "Ljava/lang/Throwable;", Cond.lays "java/util/NoSuchElementException" Bundle.tN "stackTrace" Bundle.steD, Cond.lays "java/util/NoSuchElementException" Bundle.tN "suppressedExceptions" Bundle.listD, Cond.lays "java/util/NoSuchElementException" Bundle.tN "detailMessage" "Ljava/lang/String;", Cond.isRef (.static Bundle.tN "UNASSIGNED_STACK" Bundle.steD), Cond.isRef (.static Bundle.tN "SUPPRESSED_SENTINEL" Bundle.listD), Cond.fieldLink Bundle.tN 198 Bundle.tN "backtrace" "Ljava/lang/Object;", Cond.lays Bundle.tN Bundle.tN "backtrace" "Ljava/lang/Object;", Cond.lays "java/util/NoSuchElementException" Bundle.tN "backtrace" "Ljava/lang/Object;"], a ∈ gw ∨ a ∈ thW from List.forall_mem_cons.mpr ⟨Or.inl kt_39, List.forall_mem_cons.mpr ⟨Or.inl kt_40, List.forall_mem_cons.mpr ⟨Or.inr (List.mem_of_getElem? (i := 5) rfl), List.forall_mem_cons.mpr ⟨Or.inl kt_42, List.forall_mem_cons.mpr ⟨Or.inl kt_43, List.forall_mem_cons.mpr ⟨Or.inl kt_44, List.forall_mem_cons.mpr ⟨Or.inl kt_45, List.forall_mem_cons.mpr ⟨Or.inl kt_46, List.forall_mem_cons.mpr ⟨Or.inl kt_47, List.forall_mem_cons.mpr ⟨Or.inr (List.mem_of_getElem? (i := 6) rfl), List.forall_mem_cons.mpr ⟨Or.inr (List.mem_of_getElem? (i := 7) rfl), List.forall_mem_cons.mpr ⟨Or.inl kt_48, List.forall_mem_cons.mpr ⟨Or.inl kt_49, List.forall_mem_cons.mpr ⟨Or.inl kt_50, fun a h => nomatch h⟩⟩⟩⟩⟩⟩⟩⟩⟩⟩⟩⟩⟩⟩) a ha
theorem kt_cl : Cond.classLink "CosetHouse" 264 nN ∈ gw := kt_51
theorem kt_in : Cond.initialized nN ∈ gw := kt_52
theorem kt_lw : Cond.classLink "CosetHouseLaw" 13 nN ∈ gw := kt_53
theorem ls_heap {o n d : String} {args args' : Array Value} {s U : State} (hv : U.vm = s.vm) (hh : ∀ (q : Nat) (cell : Cell), s.heap[q]? = some cell → U.heap[q]? = some cell) (h : (Cond.laysStatic o n d).before args s = true) : (Cond.laysStatic o n d).before args' U = true := by
  have ef : ∀ a b c, U.fieldFound? a b c = s.fieldFound? a b c := fun a b c => by unfold State.fieldFound?; rw [hv]
  unfold Cond.before Cond.holds Cond.value at h ⊢
  rw [hv, ef]
  cases h1 : s.vm.findClass o with
  | none => rw [h1] at h; simp at h
  | some c =>
    rw [h1] at h
    cases h2 : s.fieldFound? o n d with
    | none => rw [h2] at h; simp at h
    | some q =>
      rw [h2] at h
      obtain ⟨c', k, i, f⟩ := q
      simp only at h ⊢
      cases h3 : k.statics with
      | none => rw [h3] at h; simp at h
      | some a =>
        rw [h3] at h
        cases h4 : s.heap[a]? with
        | none => simp [h4] at h
        | some cell => simp only [Option.bind_some, h4] at h; simp only [Option.bind_some, hh a cell h4]; exact h
theorem sr_heap {o n d : String} {args args' : Array Value} {s U : State} (hv : U.vm = s.vm) (hh : ∀ (q : Nat) (cell : Cell), s.heap[q]? = some cell → U.heap[q]? = some cell) (h : (Cond.isRef (.static o n d)).before args s = true) : (Cond.isRef (.static o n d)).before args' U = true := by
  have ef : ∀ a b c e, U.fieldNamed? a b c e = s.fieldNamed? a b c e := fun a b c e => by unfold State.fieldNamed? State.fieldFound?; rw [hv]
  unfold Cond.before Cond.holds Cond.value at h ⊢
  unfold Term.eval at h ⊢
  rw [ef]
  cases h1 : s.fieldNamed? o n d true with
  | none => rw [h1] at h; simp at h
  | some q =>
    rw [h1] at h
    obtain ⟨c', k, sl⟩ := q
    cases h3 : k.statics with
    | none => simp [h3] at h
    | some a =>
      cases h4 : s.heap[a]? with
      | none => simp [h3, h4] at h
      | some cell => simp [h3, h4] at h; simp [h3, hh a cell h4]; exact h
theorem thW_warm {args args' : Array Value} {s U : State} (hW : s.WarmedH U.vm) (hh : ∀ (q : Nat) (cell : Cell), s.heap[q]? = some cell → U.heap[q]? = some cell) (h : ∀ w ∈ thW, w.before args s = true) : ∀ w ∈ thW, w.before args' U = true := by
  have sh : ∀ c : Cond, c.keepsFace = true → c.before args s = true → c.before args (s.setVm U.vm) = true := fun c hk hc => Cond.before_shiftedFace (State.Shifted.of_warmed hW) c hk hc
  have ot : ∀ c : Cond, c.keepsFace = true → c.onTables = true → c.before args s = true → c.before args' U = true := fun c hk ho hc => by
    have e := Cond.onTables_vm (A := args') (A' := args) (U := U) (U' := s) U.vm c ho
    rw [State.setVm_self] at e
    rw [e]
    exact sh c hk hc
  exact List.forall_mem_cons.mpr ⟨ls_heap (s := s.setVm U.vm) rfl hh (sh _ (by decide) (h _ (List.mem_of_getElem? (i := 0) rfl))), List.forall_mem_cons.mpr ⟨ls_heap (s := s.setVm U.vm) rfl hh (sh _ (by decide) (h _ (List.mem_of_getElem? (i := 1) rfl))), List.forall_mem_cons.mpr ⟨(ot _ (by decide) (by decide) (h _ (List.mem_of_getElem? (i := 2) rfl))), List.forall_mem_cons.mpr ⟨(ot _ (by decide) (by decide) (h _ (List.mem_of_getElem? (i := 3) rfl))), List.forall_mem_cons.mpr ⟨(ot _ (by decide) (by decide) (h _ (List.mem_of_getElem? (i := 4) rfl))), List.forall_mem_cons.mpr ⟨(ot _ (by decide) (by decide) (h _ (List.mem_of_getElem? (i := 5) rfl))), List.forall_mem_cons.mpr ⟨sr_heap (s := s.setVm U.vm) rfl hh (sh _ (by decide) (h _ (List.mem_of_getElem? (i := 6) rfl))), List.forall_mem_cons.mpr ⟨sr_heap (s := s.setVm U.vm) rfl hh (sh _ (by decide) (h _ (List.mem_of_getElem? (i := 7) rfl))), fun a h => nomatch h⟩⟩⟩⟩⟩⟩⟩⟩
