/-! THE LAW's out, where the House's throws -/
def PcL (D : va_G) (dA : Nat → ClassId) (ad : Nat → Nat) (h : PH) (sz : Nat) (av : List PV) : Array Value → State → Prop := va_Pc (av.map (dV ad)) (fun U => U.heap.size = sz ∧ va_P D classes (wo dA ad h) U.heap ∧ va_K D classes (tysOf dA) U ∧ va_D (fun _ => True) (wo dA ad h) ∧ va_AO "CosetHouse$Word" U ∧ ∀ w ∈ thW, w.before #[] U = true)
def MtT (l : Launch) (Ct : CtT) : Prop := ∀ (D : va_G) (dA : Nat → ClassId) (ad : Nat → Nat) (h : PH) (sz : Nat) (av : List PV) (post : TR), Ct av h post → okH h → (∀ v ∈ av, okV (hN h) v) →
    Met l y_La_out (Cond.codeWith y_La_out b_La_out 4 (some .int) hh_La :: gw) (rmOf md_La_out 1 6) (PcL D dA ad h sz av)
      (fun _ st oc t => QB D dA ad (hN h) (hC h + 1) (hZ h + 6) (va_A (wo dA ad h) sz) post oc t ∧ va_F (va_A (wo dA ad h) sz) st t) 1 6 (va_A (wo dA ad h) sz)
def Ct_La_thr : CtT := fun av h post => match av with
  | [.inr (.inl (some p)), .inl i, .inr (.inl (some q))] => p = pHo ∧ q = pLong ∧ isO h pHo 8 ∧ ¬ (0 ≤ i ∧ i < gI h pHo 14) ∧ post (some (.inl 1)) (bmp h 1 6)
  | _ => False
theorem as_refl (vm : Vm) (c : ClassId) : vm.assignable c c = true := by
  show vm.assignableAux (255 + 1) c c = true
  rw [Vm.assignableAux]
  simp
theorem same_heap {s t : State} {k n : Nat} (h : s.sameButNew t [] k n) {a : Nat} {c : Cell} (ha : s.heap[a]? = some c) : t.heap[a]? = some c := by
  obtain ⟨c', h1, h2, h3, h4⟩ := h.2.2.2.2.2 a c ha
  have : c'.slots = c.slots := by
    apply Array.ext_getElem?
    intro i
    exact h4 i (by simp)
  rw [h1, h2, this]
set_option maxHeartbeats 8000000 in
theorem met_La_thr (l : Launch) (hl : ∀ e, l.admits e → e.platform.stackTraces = false) : MtT l Ct_La_thr := by
  intro D dA ad h sz av post hct hH hav
  unfold Ct_La_thr at hct
  split at hct
  rotate_left
  · exact hct.elim
  rename_i p0 i q0
  obtain ⟨rfl, rfl, o1, hb, hp⟩ := hct
  have hi : inR i := hav (.inl i) (by simp)
  refine va_MetW (hh := hh_La) (cc := b_La_out) (maxL := 4) (ret := some .int) (by decide) rfl ?_
  intro p e s m args below meth c s₁ B hml hv
  obtain ⟨rfl, hsz, hP, hK, hD0, hO, hth⟩ := hv
  subst hsz
  have htr := hl e B.admits
  have hall : ∀ w ∈ (Cond.codeWith y_La_out b_La_out 4 (some .int) hh_La :: gw), w.before (List.map (dV ad) [.inr (.inl (some pHo)), .inl i, .inr (.inl (some pLong))]).toArray s = true := atoms_spec (ws := Cond.codeWith y_La_out b_La_out 4 (some .int) hh_La :: gw) B.pre
  have hts : ∀ w ∈ gw, w.before (List.map (dV ad) [.inr (.inl (some pHo)), .inl i, .inr (.inl (some pLong))]).toArray s = true := fun w hw => hall w (List.mem_cons_of_mem _ hw)
  obtain ⟨m9, meth9, c9, hn9, q1, q2, q3, q4, q5, q6, q7, q8⟩ := Cond.codeWith_spec (hall _ List.mem_cons_self)
  cases B.named.symm.trans hn9
  cases B.method.symm.trans q1
  have X0 := Stand.of_body B
  cases X0.code.symm.trans q2
  obtain ⟨x0, hx0, hxs⟩ : ∃ x : ExceptionTableEntry, c.exceptionTable.toList = [x] ∧ (x.startPc, x.endPc, x.handlerPc, x.catchType) = (0, 9, 12, 13) := by
    cases hL : c.exceptionTable.toList with
    | nil => rw [hL] at q5; cases q5
    | cons x t =>
      rw [hL] at q5
      cases t with
      | nil => exact ⟨x, rfl, List.head_eq_of_cons_eq q5⟩
      | cons y t => exact absurd (congrArg List.length q5) (by simp)
  have hown : s.vm.findClass "CosetHouseLaw" = some m.cls := findClass_of_methodNamed B.named
  have hw := wo_get (dA := dA) (ad := ad) o1.1
  rw [cE_obj o1.2] at hw
  obtain ⟨cellB, hcB, hoB, hclB⟩ := va_recv hK hP (show classes[8]? = some _ from rfl) hw
  have hD := hD0.self (sz := s.heap.size)
  have core : ∀ lsA : Array Slot, lv_has lsA 4 (lD ad [some (.inr (.inl (some pHo))), some (.inl i), some (.inr (.inl (some pLong))), none]) → W p l e (rmOf md_La_out 1 6) s m (List.map (dV ad) [.inr (.inl (some pHo)), .inl i, .inr (.inl (some pLong))]).toArray below meth c s.heap [] 0 0
      (MQ below (fun _ st oc t => QB D dA ad (hN h) (hC h + 1) (hZ h + 6) (va_A (wo dA ad h) s.heap.size) post oc t ∧ va_F (va_A (wo dA ad h) s.heap.size) st t) (List.map (dV ad) [.inr (.inl (some pHo)), .inl i, .inr (.inl (some pLong))]).toArray s 1 6 (va_A (wo dA ad h) s.heap.size))
      (F0 m 4 lsA [Value.int (Int32.ofInt i), Value.ref (ad pHo), Value.int (Int32.ofInt 0), Value.ref (ad pLong)]) := by
    intro lsA hv T hT X
    obtain ⟨mk, methM, hnamed, hmethM, hstM, habM⟩ := Cond.instanceMethod_spec (hts _ ki_Ho_out)
    obtain ⟨methM', cM, hmethM', hcM, -, hlY, -, -, -, hsigM⟩ := Cond.code_spec hnamed (hts _ mi_Ho_out.2.1)
    cases hmethM.symm.trans hmethM'
    obtain ⟨c2, r2, m2, u1, u2, u3, u4, kP, hkP, hkPi⟩ := Cond.selects_spec (hts _ kv_Ho_out)
    cases hclB.symm.trans u1
    have hy : y_Ho_out.cls ≠ "java/lang/invoke/MethodHandle" ∧ y_Ho_out.cls ≠ "java/lang/invoke/VarHandle" := by decide
    cases (State.methodFound?_of_named hnamed hy).symm.trans u2
    cases hnamed.symm.trans u3
    have hselP : selectMethod e.platform s.vm cellB.cls mk = .method mk := by rw [Launch.admits_selectMethod X.admits]; exact u4
    have hlen : ([Value.int (Int32.ofInt i)] : List Value).length = methM.sig.parameters.length := by
      have : parseMethodDescriptor "(I)I" = some methM.sig := hsigM
      rw [← Option.some.inj ((show parseMethodDescriptor "(I)I" = some ⟨[.int], some .int⟩ from rfl).symm.trans this)]; rfl
    obtain ⟨vm₁, X₁, hstep₁⟩ := X.invokevirtual B.exec hown (hts _ ml_La_7) hnamed hmethM hstM hkP hkPi hy (a := ad pHo) (cell := cellB) (by rw [hT]; exact hcB)
      (fun z hz => by rw [hz] at hoB; cases hoB) hselP hmethM habM hkP hkPi (g := F0 m 4 lsA [Value.int (Int32.ofInt i), Value.ref (ad pHo), Value.int (Int32.ofInt 0), Value.ref (ad pLong)]) rfl
      (argsL := [Value.int (Int32.ofInt i)]) (rest := [Value.int (Int32.ofInt 0), Value.ref (ad pLong)]) hlen rfl (by rw [B.bytes]; exact dget dd_La_out 4 rfl)
    have hpay := pay_in hts (good_ws mi_Ho_out.2.1)
    have hnU := X₁.named hnamed
    obtain ⟨methY, cY, hmY, hcY, -, hlY2, -⟩ := Cond.code_spec hnU (hpay _ List.mem_cons_self #[] (T.setVm vm₁) X₁.warmed)
    obtain ⟨kY, hkY, -⟩ := className_of_methodNamed hnU
    have hinitY : kY.init = .initialized := Cond.initialized_spec (findClass_of_methodNamed hnU) hkY (hpay _ (List.mem_cons_of_mem _ mi_Ho_out.2.2.1) #[] (T.setVm vm₁) X₁.warmed)
    generalize hg : F0 m 4 lsA [Value.int (Int32.ofInt 0), Value.ref (ad pLong)] = g at hstep₁
    have hgm : g.method = m := by rw [← hg]
    have hgs : g.locals.size = 4 := by rw [← hg]; exact hv.1
    have hgp : g.pc = 4 := by rw [← hg]
    have hdg : decode c.code g.pc = .ok (.invokevirtual 7, 3) := by rw [hgp, B.bytes]; exact dget dd_La_out 4 rfl
    have hAt : At (T.setVm vm₁) g.method c below := by rw [hgm]; exact X₁.here
    obtain ⟨mid, hmid⟩ := hAt.above
    have hfr : ((T.setVm vm₁).setTop g).frames = (.java g :: mid) ++ below := by rw [State.frames_setTop' g hAt.top, hmid]; rfl
    have happ : (headSpec (Cond.code y_Ho_out b_Ho_out 2 (some .int) :: gw) (rmOf mdOT 1 6)).appliesLoose y_Ho_out e.platform ((T.setVm vm₁).calling g mk #[Value.ref (ad pHo), Value.int (Int32.ofInt i)]) = true := by
      refine Spec.appliesLoose_calling (g := g) hAt hdg hnU hkY hinitY (X₁.room_calling (g := g) (R' := rmOf mdOT 1 6) (by rw [hgs, hml]) hmY hcY (by decide) ?_ (by decide) (by decide)) (atoms_intro fun w hw => hpay w hw _ _ X₁.warmed)
      rw [hlY2, ← hg]
      show 2 * 0 + _ + (2 + 11) + 200 ≤ 400
      simp [Value.category]
    have hpo : PcO D dA ad h i #[Value.ref (ad pHo), Value.int (Int32.ofInt i)] ((T.setVm vm₁).calling g mk #[Value.ref (ad pHo), Value.int (Int32.ofInt i)]) := by
      have hTh : (T.setVm vm₁).heap = s.heap := hT
      refine ⟨rfl, ?_, va_K.moved (u := s) X₁.warmed.alike hK, thW_warm (s := s) X₁.warmed (fun q cell hq => ?_) hth⟩
      · show va_P D classes (wo dA ad h) (T.setVm vm₁).heap
        rw [hTh]; exact hP
      · show (T.setVm vm₁).heap[q]? = some cell
        rw [hTh]; exact hq
    obtain ⟨o, s₂, hsteps, -, hend, hq⟩ := Steps.callFree (thr_Ho_out l hH o1 hi hb (D := D) (dA := dA) (ad := ad)) p X₁.admits X₁.cas X₁.clock (acts := []) hfr happ hpo htr
    obtain ⟨x, ce, rfl, hx, hW₂, hsame, hce, hst, hcl⟩ := hq
    have hframes : s₂.frames = .throwing x :: ((T.setVm vm₁).setTop g).frames := hend
    rw [State.frames_setTop' g hAt.top] at hframes
    have hW' : (T.setVm vm₁).WarmedH s₂.vm := hW₂
    obtain ⟨e2, q2', q3', q4', q5', q6'⟩ := id hsame
    generalize hU : T.setVm vm₁ = U at *
    have hTh : U.heap = s.heap := by rw [← hU]; exact hT
    have e3 : s₂ = ({ (U.calling g mk #[Value.ref (ad pHo), Value.int (Int32.ofInt i)]).setFrames s₂.frames with heap := s₂.heap, slotsUsed := s₂.slotsUsed } : State).setVm s₂.vm := by
      have h9 : s₂ = ({ s₂ with vm := (U.calling g mk #[Value.ref (ad pHo), Value.int (Int32.ofInt i)]).vm } : State).setVm s₂.vm := rfl
      rw [show ({ s₂ with vm := (U.calling g mk #[Value.ref (ad pHo), Value.int (Int32.ofInt i)]).vm } : State) = _ from e2] at h9
      exact h9
    obtain ⟨g₀, hg0⟩ := Option.isSome_iff_exists.mp hAt.top
    obtain ⟨r, hr⟩ := State.topJava?_eq_some.mp hg0
    generalize hV : (({ U with heap := s₂.heap, slotsUsed := s₂.slotsUsed } : State).setVm s₂.vm) = V
    have hVr : V.frames = .java g₀ :: r := by rw [← hV]; exact hr
    have hVh : V.heap = s₂.heap := by rw [← hV]; rfl
    have hVv : V.vm = s₂.vm := by rw [← hV]; rfl
    have hs₂ : s₂ = (V.setTop g).pushFrame (.throwing x) := by
      rw [State.pushFrame, State.setTop_of_frames _ hVr, State.setFrames_setFrames, State.frames_setFrames _ (State.cur_lt_of_frames hVr)]
      refine e3.trans ?_
      rw [hframes, State.calling_eq hAt.top, State.setFrames_setFrames, hr, ← hV]
      rfl
    have X₂ : Stand p l e (rmOf md_La_out 1 6) s m (List.map (dV ad) [.inr (.inl (some pHo)), .inl i, .inr (.inl (some pLong))]).toArray below meth c V ([] ++ []) (0 + 1) (0 + 6) := by
      have hsm : U.sameButNew ({ U with heap := s₂.heap, slotsUsed := s₂.slotsUsed } : State) [] 1 6 := by
        refine ⟨?_, q2', q3', q4', q5', q6'⟩
        obtain ⟨t, ht, -⟩ := State.frames_cons hr
        show ({ U with heap := s₂.heap, slotsUsed := s₂.slotsUsed } : State) = { U.setFrames U.frames with heap := s₂.heap, slotsUsed := s₂.slotsUsed }
        rw [State.setFrames_self ht]
      rw [← hV]
      exact ⟨X₁.admits, X₁.cas, X₁.clock, X₁.frames, X₁.room, X₁.hears, X₁.method, X₁.code, (X₁.here.setHeapUsed s₂.heap s₂.slotsUsed).setVm hW'.alike, X₁.tail, State.WarmedH.trans X₁.warmed hW', X₁.limits, X₁.bytes, X₁.same.trans (hsm.setVm s.vm)⟩
    have hpl : e.platform.magicAccessors = ({} : Platform).magicAccessors := by rw [X.admits.platform]
    obtain ⟨cT, hcT, hcl2⟩ := Cond.classLink_spec hown (hts _ kt_lw) e.platform hpl
    obtain ⟨dk, _, _, kt, hd, _, _, _, _, hkt, _, hopen⟩ := hcl2.here
    have hcl₀ := X₂.warmed.classLinks hcl2
    have hW3 : s.WarmedH (V.vm.noted m.cls 13 (.cls cT)) := X₂.warmed.noted hd hopen (State.rightAt_cls hcl2)
    have hct : ce.cls = cT := by
      have h1 : U.vm.findClass nN = some ce.cls := hcl
      have h2 : U.vm.findClass nN = s.vm.findClass nN := X₁.warmed.alike.findClass nN _
      rw [h2, hcT] at h1
      exact (Option.some.inj h1).symm
    obtain ⟨kt', hkt', -⟩ := X₂.warmed.alike.2.2 _ _ hkt
    have hstart : x0.startPc = 0 := congrArg (·.1) hxs
    have hend0 : x0.endPc = 9 := congrArg (·.2.1) hxs
    have hhand : x0.handlerPc = 12 := congrArg (·.2.2.1) hxs
    have hcatch : x0.catchType = 13 := congrArg (·.2.2.2) hxs
    have K12 : W p l e (rmOf md_La_out 1 6) s m (List.map (dV ad) [.inr (.inl (some pHo)), .inl i, .inr (.inl (some pLong))]).toArray below meth c V.heap ([] ++ []) (0 + 1) (0 + 6)
        (MQ below (fun _ st oc t => QB D dA ad (hN h) (hC h + 1) (hZ h + 6) (va_A (wo dA ad h) s.heap.size) post oc t ∧ va_F (va_A (wo dA ad h) s.heap.size) st t) (List.map (dV ad) [.inr (.inl (some pHo)), .inl i, .inr (.inl (some pLong))]).toArray s 1 6 (va_A (wo dA ad h) s.heap.size)) (F0 m 12 lsA [.ref x]) := by
      have hkeep : ∀ (q : Nat), q < s.heap.size → V.heap[q]? = s.heap[q]? := by
        intro q hq
        have h1 : s.heap[q]? = some s.heap[q] := Array.getElem?_eq_getElem hq
        rw [hVh, h1]
        exact same_heap hsame (show U.heap[q]? = some s.heap[q] by rw [hTh]; exact h1)
      have hsize : s.heap.size ≤ V.heap.size := by rw [hVh]; have := q2'; rw [← hTh]; exact this
      have hPV : va_P D classes (wo dA ad h) V.heap := fun k q hq => (hP k q hq).kept (hkeep q.1 ((hP k q hq).lt))
      refine lv_astore_n B.exec B.bytes (dget dd_La_out 8 rfl) rfl hv (by decide) rfl (fun ls' hv' => ?_)
      refine lv_iconst B.exec B.bytes (dget dd_La_out 9 rfl) rfl ?_
      refine W.iret B.exec B.bytes B.returns (fun t ht _ => ⟨⟨some (.inl 1), bmp h 1 6, ad, rfl, hp, fun _ _ => rfl, Nat.le_refl _, by rw [ht]; exact hPV, hD, hH, fun v hv9 => by cases hv9; exact ⟨by decide, by decide⟩, rfl, rfl⟩, by rw [ht]; exact hsize, fun q hq _ => by rw [ht]; exact hkeep q hq⟩) (fun q hq => by cases hq) (dget dd_La_out 10 rfl)
    obtain ⟨t, a1, b1⟩ := K12 (V.setVm (V.vm.noted m.cls 13 (.cls cT))) rfl (X₂.noted hW3)
    refine ⟨t, ?_, b1⟩
    refine hstep₁ _ fun acts => ?_
    rw [doInvoke_state]
    rw [← hg] at hsteps
    refine Steps.trans hsteps ?_
    rw [hs₂]
    refine la_caught (s := V) (g := g) (pc := 12) (vm1 := V.vm.noted m.cls 13 (.cls cT)) (by rw [hgm]; exact X₂.here) ?_ ?_
    · intro Q E d acts
      have hvm : ((V.setTop g).pushFrame (.throwing x)).vm = V.vm := by simp [State.pushFrame, State.setFrames, State.setTop, State.modifyTopJava]
      have hhp : ((V.setTop g).pushFrame (.throwing x)).heap = V.heap := by simp [State.pushFrame, State.setFrames, State.setTop, State.modifyTopJava]
      have h9 := la_find (e := e) (s := (V.setTop g).pushFrame (.throwing x)) (f := g) (a := x) (meth := meth) (code := c) (x := x0) (c := cT) (cell := ce) (by rw [hvm, hgm]; exact X₂.method') X₂.code hx0 (by simp [covers, hstart, hend0, hgp]) (by rw [hcatch]; decide) (by rw [hvm, hgm, hcatch]; exact hcl₀) (by rw [hhp, hVh]; exact hce) (VmData.ne_statics_of hst) (by rw [hvm, hct]; exact ⟨_, hkt'⟩) (by rw [hvm]; exact ⟨_, hkt'⟩) (by rw [hvm, hct]; exact as_refl _ _) Q E d acts
      rw [hhand, hcatch, hvm, hgm] at h9
      exact h9
    · have hgF : ({ g with pc := 12, stack := [Value.ref x] } : JFrame) = F0 m 12 lsA [.ref x] := by rw [← hg]
      rw [hgF]
      exact a1
  rw [lg_entry_eq]
  have hl0 := lv_entry (List.map (dV ad) [.inr (.inl (some pHo)), .inl i, .inr (.inl (some pLong))]) (n := 4) (by rw [entA_len]; exact Nat.le_of_ble_eq_true rfl)
  have hl2 : lv_has ((lg_sl (List.map (dV ad) [.inr (.inl (some pHo)), .inl i, .inr (.inl (some pLong))]) ++ List.replicate (4 - (lg_sl (List.map (dV ad) [.inr (.inl (some pHo)), .inl i, .inr (.inl (some pLong))])).length) Slot.unset).toArray) 4 (lD ad [some (.inr (.inl (some pHo))), some (.inl i), some (.inr (.inl (some pLong))), none]) := by
    refine ⟨hl0.1, hl0.2.1, fun q hq => hl0.2.2 q ?_⟩
    obtain ⟨v, h1, h2⟩ := lD_mem.mp hq
    have h3 := entA_args (ad := ad) (k := 0) (fitL_nth (n := 4) (ls := entA [.inr (.inl (some pHo)), .inl i, .inr (.inl (some pLong))]) h1)
    rw [Nat.zero_add] at h3
    obtain ⟨a, b⟩ := q
    simp only at h2
    rw [h2]
    exact h3
  generalize (lg_sl (List.map (dV ad) [.inr (.inl (some pHo)), .inl i, .inr (.inl (some pLong))]) ++ List.replicate (4 - (lg_sl (List.map (dV ad) [.inr (.inl (some pHo)), .inl i, .inr (.inl (some pLong))])).length) Slot.unset).toArray = lsA at hl2 ⊢
  refine lv_aload_n B.exec B.bytes (dget dd_La_out 0 rfl) rfl (lD_at hl2 (n := 2) (v := .inr (.inl (some pLong))) rfl) ?_
  refine lv_iconst B.exec B.bytes (dget dd_La_out 1 rfl) rfl ?_
  refine lv_aload_n B.exec B.bytes (dget dd_La_out 2 rfl) rfl (lD_at hl2 (n := 0) (v := .inr (.inl (some pHo))) rfl) ?_
  refine lv_iload_n B.exec B.bytes (dget dd_La_out 3 rfl) rfl (lD_at hl2 (n := 1) (v := .inl i) rfl) ?_
  exact core lsA hl2
