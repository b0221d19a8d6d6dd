/-! THE LAW calls its out -/
theorem met_La_in2 (l : Launch) : MtT l Ct_La_in := fun D dA ad h sz av post hct hH hav p e ha hc hk s m args below hf happ hP hK => met_La_in l D dA ad h sz av post hct hH hav p e ha hc hk s m args below hf happ ⟨hP.1, hP.2.1, hP.2.2.1, hP.2.2.2.1, hP.2.2.2.2.1, hP.2.2.2.2.2.1⟩ hK
def Ct_La_out : CtT := fun av h post => Ct_La_in av h post ∨ Ct_La_thr av h post
theorem met_La_out (l : Launch) (hl : ∀ e, l.admits e → e.platform.stackTraces = false) : MtT l Ct_La_out := fun D dA ad h sz av post hct => hct.elim (fun x => met_La_in2 l D dA ad h sz av post x) (fun x => met_La_thr l hl D dA ad h sz av post x)
theorem pcL_blind {D : va_G} {dA : Nat → ClassId} {ad : Nat → Nat} {h : PH} {sz : Nat} {av : List PV} : FrameBlind (PcL D dA ad h sz av) := by
  intro a U g mk q
  obtain ⟨q0, q1, qP, qK, qD, qO, qT⟩ := q
  exact ⟨q0, q1, qP, va_K.moved (u := U) (U := U.calling g mk a) (Vm.Alike.refl U.vm) qK, qD, va_AO.moved (u := U) (U := U.calling g mk a) (Vm.Alike.refl U.vm) qO, thW_warm (s := U) (U := U.calling g mk a) (State.WarmedH.refl U) (fun _ _ z => z) qT⟩
def tt_cL (lc lz : Nat) (Ct : CtT) (nx : TT) : TT := fun K R ls st h => 3 ≤ st.length ∧ (st.drop 3).length ≤ 4 ∧ hC h + 1 ≤ lc ∧ hZ h + 6 ≤ lz ∧ Ct (st.take 3).reverse h (fun r h' => nx K R ls (r.toList ++ st.drop 3) h')
theorem la_run {p : Program} {l : Launch} {e : Env} {R : Room} {s : State} {m : MethodId} {args : Array Value} {below : List Frame} {meth : Method} {c : Code} {H : Heap} {locs : List Loc} {cells slots nL : Nat} {cc : ByteArray} {Pc : Array Value → State → Prop} {Qc : Array Value → State → Outcome → State → Prop} {free : Addr → Prop} {As rest : List Value} {g : JFrame}
    (S : CallFix p m c cc nL s args gw "CosetHouseLaw") (hM : Met l y_La_out (Cond.codeWith y_La_out b_La_out 4 (some .int) hh_La :: gw) (rmOf md_La_out 1 6) Pc Qc 1 6 free) (hp : PreS s H Pc As) (hR : (rmOf md_La_out 1 6).frames + 1 ≤ R.frames ∧ 8 + (4 + 11) + (rmOf md_La_out 1 6).locals ≤ R.locals)
    (hg : g.method = m) (hn : As.length = 3) (hsize : g.locals.size = nL) (hstack : g.stack = As.reverse ++ rest) (hW : 2 * g.monitorRoom + (rest.map fun v => v.category).sum ≤ 8) (hdg : decode cc g.pc = .ok (.invokestatic 127, 3)) (hf : cells + 1 ≤ R.cells ∧ slots + 6 ≤ R.slots) :
    va_Run p l e R s m args below meth c H locs cells slots 1 6 g rest (Qc As.toArray) free := by
  obtain ⟨hx, hb, hml, ho, hts⟩ := S
  have hpay := pay_in hts (good_ws kc_La_out)
  have hK : Back l R p e below s args y_La_out 3 8 (PreOf R 1 6 Pc) (PostOf Qc 1 6 free) := va_backW (hh := hh_La) (bytes := b_La_out) (maxL := 4) (ret := some .int) hM hp.1 rfl rfl hR.1 hR.2 hpay List.mem_cons_self (fun a' U hW => hpay _ (List.mem_cons_of_mem _ kn_La) a' U hW)
  intro T hT X
  obtain ⟨mk, methM, cM, hnamed, hmethM, -, -, -, -, -, -, hsigM⟩ := Cond.codeWith_spec (hts _ kc_La_out)
  have hstatic : methM.isStatic = true := Cond.static_spec hnamed hmethM (hts _ ks_La_out)
  obtain ⟨kP, hkP, -⟩ := className_of_methodNamed hnamed
  have hinitP : kP.init = .initialized := Cond.initialized_spec (findClass_of_methodNamed hnamed) hkP (hts _ kn_La)
  have hlen : As.length = methM.sig.parameters.length := by
    have h1 : parseMethodDescriptor "(LCosetHouse;I[J)I" = some methM.sig := hsigM
    have h2 : (parseMethodDescriptor "(LCosetHouse;I[J)I").map (fun d => d.parameters.length) = some 3 := by decide
    rw [h1] at h2
    rw [hn]; exact (Option.some.inj h2).symm
  obtain ⟨vm₁, X₁, hstep₁⟩ := X.invokestatic hx ho (hts _ ml_La_127) hnamed hmethM hstatic hkP hinitP (by decide) (g := g) hg (argsL := As) (rest := rest) hlen hstack (by rw [hb]; exact hdg)
  obtain ⟨v, ⟨U', l2, c2, s2⟩, X', ⟨g', mk', t, L, e1, e2, hq, h1, hL, h2, h3⟩, st⟩ := hK m meth c ⟨T.setVm vm₁, locs, cells, slots⟩ { g with stack := rest } (.invokestatic 127) mk As.toArray X₁ hg (hsize.trans hml.symm) (by rw [hb]; exact hdg) hW (X₁.named hnamed) ⟨hf.1, hf.2, hp.2 (T.setVm vm₁) hT X₁.warmed⟩
  dsimp only [Pt.U, Pt.locs, Pt.cells, Pt.slots] at X' e1 e2 h1 h2 h3 st
  subst h1; subst h2; subst h3
  exact ⟨v, (T.setVm vm₁).calling g' mk' As.toArray, t, U', L, hT, X', hL, e1, e2, hq, fun target h => hstep₁ _ fun acts => by rw [doInvoke_state]; exact st.trans h⟩
theorem sl_cL {xs : Nat → Int32} {SL : Nat} {md : MD} {lc lz pc : Nat} {nx : TT} (hm1 : md.1 = "CosetHouseLaw") (hrm : rmOK md md_La_out = true) (hd : decode md.2.1 pc = .ok (.invokestatic 127, 3)) (hn : SnL xs SL md lc lz (pc + 3) nx) : SnL xs SL md lc lz pc (tt_cL lc lz Ct_La_out nx) := by
  intro p l e s m args below meth c D dA A mc' ms' c0 z0 ad0 n0 post Q F L HR EX K hK ls st h ht
  have hn := hn p l e s m args below meth c D dA A mc' ms' c0 z0 ad0 n0 post Q F L HR EX K hK
  obtain ⟨hlen, h4, hc1, hz1, hct⟩ := ht
  intro ad H locs lsA e1 e2 e3 e4 hP hD hS hH hF hl hv
  have hrest : ∀ v ∈ st.drop 3, okV (hN h) v := fun v q => hF.2 v (List.mem_of_mem_drop q)
  have hav' : ∀ v ∈ (st.take 3).reverse, okV (hN h) v := fun v q => hF.2 v (List.mem_of_mem_take (List.mem_reverse.mp q))
  have hM1 := met_La_out l EX.1 D dA ad h H.size (st.take 3).reverse _ hct hH hav'
  refine W.back (post := fun r h' => nx K post ls (r.toList ++ st.drop 3) h') (cy := 1) (sy := 6) (rest := st.drop 3) F.2.2.2.2.2.2.2.2.1 e1 e2 e3 e4 hD hS hF hrest hl hv (by omega) (by omega) ?_ (fun r h' hp => hn ls _ h' hp)
  have Fc : s.vm.findClass "CosetHouseLaw" = some m.cls := hm1 ▸ F.2.2.2.2.2.1
  refine la_run (As := (st.take 3).reverse.map (dV ad)) (nL := md.2.2.1) ⟨F.1, F.2.1, F.2.2.1, Fc, F.2.2.2.2.2.2.1⟩ hM1 ⟨pcL_blind, fun U hU hW => ⟨rfl, by rw [hU], by rw [hU]; exact hP, va_K.moved hW.alike F.2.2.2.2.2.2.2.1, hD.weaken (fun _ _ _ _ => trivial), va_AO.moved hW.alike F.2.2.2.2.2.2.2.2.2.2, thW_warm (s := s) hW (fun q cell hq => ?_) EX.2.2.2.2.2⟩⟩ (rmOK_s hrm) rfl ?_ hv.1 ?_ (lv_room (sum8 h4)) hd ⟨by show hC h - c0 + _ ≤ mc'; omega, by show hZ h - z0 + _ ≤ ms'; omega⟩
  · have hlt : q < s.heap.size := (Array.getElem?_eq_some_iff.mp hq).1
    rw [hU, hS.2.1 q hlt (fun z => by have := EX.2.1 q z; omega)]
    exact hq
  · rw [List.length_map, List.length_reverse, List.length_take]; omega
  · exact take_map
