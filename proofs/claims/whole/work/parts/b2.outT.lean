/-! THE HOUSE's out, where it throws -/
abbrev mdOT : MD := (R_Ho, b_Ho_out, 2, some .int, 8, 200, false)
def PcO (D : va_G) (dA : Nat → ClassId) (ad : Nat → Nat) (h : PH) (i : Int) (args : Array Value) (s : State) : Prop := args = #[Value.ref (ad pHo), Value.int (Int32.ofInt i)] ∧ va_P D classes (wo dA ad h) s.heap ∧ va_K D classes (tysOf dA) s ∧ ∀ w ∈ thW, w.before args s = true
def QtO (_ : Array Value) (st : State) (o : Outcome) (t : State) : Prop := ∃ (x : Nat) (ce : Cell), o = .threw x ∧ st.heap.size ≤ x ∧ st.WarmedH t.vm ∧ st.sameButNew ({ t with vm := st.vm } : State) [] 1 6 ∧ t.heap[x]? = some ce ∧ ce.vm.isStatics = false ∧ st.vm.findClass nN = some ce.cls
set_option maxHeartbeats 4000000 in
theorem thr_Ho_out (l : Launch) {D : va_G} {dA : Nat → ClassId} {ad : Nat → Nat} {h : PH} {i : Int} (hH : okH h) (ho : isO h pHo 8) (hi : inR i) (hb : ¬ (0 ≤ i ∧ i < gI h pHo 14)) :
    MetFree l y_Ho_out (headSpec (Cond.code y_Ho_out b_Ho_out 2 (some .int) :: gw) (rmOf mdOT 1 6)) (PcO D dA ad h i) (fun _ e _ _ _ => e.platform.stackTraces = false) QtO := by
  refine MetFree.of_bodyS (code := b_Ho_out) (maxLocals := 2) (ret := some .int) (by decide) ?_ ?_
  · intro args s m h hn
    obtain ⟨meth, c, h1, h2, h3, h4, h5, h6, -, -⟩ := Cond.code_spec hn (atoms_spec (ws := Cond.code y_Ho_out b_Ho_out 2 (some .int) :: gw) h _ List.mem_cons_self)
    exact ⟨meth, c, h1, h2, h3, h4, h5, h6⟩
  · intro p e s m args below meth c s₁ B hml hP htr
    obtain ⟨rfl, hP, hK, hth⟩ := hP
    have hall : ∀ w ∈ (Cond.code y_Ho_out b_Ho_out 2 (some .int) :: gw), w.before #[Value.ref (ad pHo), Value.int (Int32.ofInt i)] s = true := atoms_spec (ws := Cond.code y_Ho_out b_Ho_out 2 (some .int) :: gw) B.pre
    have hts : ∀ w ∈ gw, w.before #[Value.ref (ad pHo), Value.int (Int32.ofInt i)] s = true := fun w hw => hall w (List.mem_cons_of_mem _ hw)
    have hcode := hall _ List.mem_cons_self
    have hheap : s₁.heap = s.heap := by rw [B.state]; rfl
    have hown : s.vm.findClass "CosetHouse" = some m.cls := findClass_of_methodNamed B.named
    have hnoH := B.noHandlers hcode
    have core : ∀ lsA : Array Slot, lsA.size = 2 → W p l e (rmOf mdOT 1 6) s m #[Value.ref (ad pHo), Value.int (Int32.ofInt i)] below meth c s.heap [] 0 0 (fun t => ∃ o, t.status = .running ∧ Ended t below o ∧ QtO #[Value.ref (ad pHo), Value.int (Int32.ofInt i)] s o t) (F0 m 12 lsA []) := by
      intro lsA hsz T hT X
      obtain ⟨vm₁, cX, kX, hfX, hkX, -, -, X₁, st1⟩ := X.newCold B.exec (own := "CosetHouse") (C := nN) (index := 264) (n := 6) hown (hts _ kt_cl) (hts _ kt_40) (hts _ kt_in) (g := F0 m 12 lsA []) rfl (by rw [B.bytes]; exact dget dd_Ho_out 6 rfl) (by decide) (by decide)
      generalize hT1 : (T.setVm vm₁).pushCell { cls := cX, slots := kX.instanceTypes.map defaultValue, vm := .none } = T1 at X₁ st1
      have hcellA : T1.heap[T.heap.size]? = some (freshCell cX kX) := by rw [← hT1]; exact State.heap_pushCell_size _ _
      obtain ⟨U, hsteps, hrun, hend, hW, hsame, ce, hce, KK⟩ := X₁.ctorThrow0 B.exec htr (own := "CosetHouse") (cls := nN) (names := upNs) (ic := 266) hown (by decide +kernel) (by decide +kernel)
        (fun a ha => (kt_all a ha).elim (fun z => hts a z) (fun z => hth a z)) (fun y hy => by cases hy) hfX hkX hcellA (by rw [hT]; exact Nat.le_refl _)
        (g := F0 m 16 lsA [.ref T.heap.size, .ref T.heap.size]) rfl (by rw [hml]; exact hsz) rfl rfl (rest := []) rfl
        (by rw [B.bytes]; exact dget dd_Ho_out 8 rfl) (by rw [B.bytes]; exact dget dd_Ho_out 9 rfl) (covers_of_empty hnoH _) (by decide) (by simp [upNs, Value.category, rmOf])
      refine ⟨U, ?_, .threw T.heap.size, hrun, hend, T.heap.size, ce, rfl, by rw [hT]; exact Nat.le_refl _, hW, hsame, hce, by rw [KK.vm]; rfl, KK.cls⟩
      refine st1 _ ?_
      show Steps p.tables e below (T1.setTop (F0 m 15 lsA [.ref T.heap.size])) _
      jvm_step X₁.here [X₁.here.top, B.exec, B.bytes, dget dd_Ho_out 7 rfl, Value.category]
      exact hsteps
    have hy : inR (gI h pHo 14) := okH_int hH (isLg_obj ho.2) _
    have K : W p l e (rmOf mdOT 1 6) s m #[Value.ref (ad pHo), Value.int (Int32.ofInt i)] below meth c s.heap [] 0 0 (fun t => ∃ o, t.status = .running ∧ Ended t below o ∧ QtO #[Value.ref (ad pHo), Value.int (Int32.ofInt i)] s o t) (F0 m 0 #[Slot.val (Value.ref (ad pHo)), Slot.val (Value.int (Int32.ofInt i))] []) := by
      refine lv_iload_n B.exec B.bytes (dget dd_Ho_out 0 rfl) rfl rfl ?_
      refine lv_if_lt (tgt := 12) B.exec B.bytes (dget dd_Ho_out 1 rfl) rfl (fun q => core _ rfl) (fun q => ?_)
      refine lv_iload_n B.exec B.bytes (dget dd_Ho_out 2 rfl) rfl rfl ?_
      refine lv_aload_n B.exec B.bytes (dget dd_Ho_out 3 rfl) rfl rfl ?_
      obtain ⟨C, T, hc, hin, hk, hlk, hty, hnm, hfin⟩ := fd_Ho_80
      have hw := wo_get (dA := dA) (ad := ad) ho.1
      rw [cE_obj ho.2] at hw
      refine va_get (own := R_Ho) (v := .int (Int32.ofInt (gI h pHo 14))) B.exec B.bytes hts hin hown hK hP pHo hw hc 14 hk (hts _ hlk) (fun _ h9 => h9) ?_ (dget dd_Ho_out 4 rfl) ?_
      · rw [fV_get hk]; simp [fV]; exact fun z => absurd z (by decide)
      · refine lv_icmp_lt (tgt := 20) B.exec B.bytes (dget dd_Ho_out 5 rfl) rfl (fun q2 => ?_) (fun q2 => core _ rfl)
        refine absurd ?_ hb
        have a1 : ¬ i < 0 := fun z => q ((i32_lt hi inR_0).mpr z)
        have a2 := (i32_lt hi hy).mp q2
        omega
    obtain ⟨t, a1, o, b1, b2, b3⟩ := K s₁ hheap (Stand.of_body B)
    exact ⟨t, o, a1, b1, b2, b3⟩
