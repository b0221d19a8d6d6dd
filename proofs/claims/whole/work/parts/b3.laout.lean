/-! THE LAW's out, where the House's returns -/
theorem met_ofW (hh : List (Nat × Nat × Nat × Nat)) {y : MethodName} {md : MD} {mc ms : List PV → Nat} {Ct : CtT} {body : Nat → Nat → TT} {cs : Nat → Nat → List (Nat × TT)} (hy : plainName y.cls = true) (hown : md.1 = y.cls) (hin : md.2.2.2.2.2.2 = true → y.name = "<init>") (hb : ∀ lc lz, Snd md lc lz 0 (body lc lz)) (hcs : ∀ lc lz, ∀ q ∈ cs lc lz, Snd md lc lz q.1 q.2)
    (vc : ∀ (av : List PV) (h : PH) (post : TR), Ct av h post → okH h → (∀ v ∈ av, okV (hN h) v) → (entA av).length ≤ md.2.2.1 ∧ ∃ (I : Nat → LSt → PH → Prop) (μ : Nat → LSt → PH → Nat), (∀ pc ls h', I pc ls h' → ∃ q ∈ cs (hC h + mc av) (hZ h + ms av), q.1 = pc) ∧
      (∀ q ∈ cs (hC h + mc av) (hZ h + ms av), ∀ ls h', I q.1 ls h' → q.2 (fun pc' ls' h'' => I pc' ls' h'' ∧ μ pc' ls' h'' < μ q.1 ls h') (fun r h'' => post r h'' ∧ hC h'' = hC h + mc av ∧ hZ h'' = hZ h + ms av) ls [] h') ∧
      body (hC h + mc av) (hZ h + ms av) I (fun r h'' => post r h'' ∧ hC h'' = hC h + mc av ∧ hZ h'' = hZ h + ms av) (fitL md.2.2.1 (entA av)) [] h) :
    ∀ (l : Launch) (D : va_G) (dA : Nat → ClassId) (ad : Nat → Nat) (h : PH) (sz : Nat) (av : List PV) (post : TR), Ct av h post → okH h → (∀ v ∈ av, okV (hN h) v) →
    Met l y (Cond.codeWith y md.2.1 md.2.2.1 md.2.2.2.1 hh :: gw) (rmOf md (mc av) (ms av))
      (va_Pc (av.map (dV ad)) (fun U => U.heap.size = sz ∧ va_P D classes (wo dA ad h) U.heap ∧ va_K D classes (tysOf dA) U ∧ va_D (fun _ => True) (wo dA ad h) ∧ va_AO "CosetHouse$Word" U))
      (fun _ st oc t => QB D dA ad (hN h) (hC h + mc av) (hZ h + ms av) (va_A (wo dA ad h) sz) post oc t ∧ va_F (va_A (wo dA ad h) sz) st t)
      (mc av) (ms av) (va_A (wo dA ad h) sz) := by
  intro l D dA ad h sz av post hct hH hav
  obtain ⟨hlen, I, μ, hI, hvc, hbody⟩ := vc av h post hct hH hav
  refine va_MetW (hh := hh) (cc := md.2.1) (maxL := md.2.2.1) (ret := md.2.2.2.1) hy rfl ?_
  intro p e s m args below meth c s₁ B hml hv
  obtain ⟨rfl, hsz, hP, hK, hD0, hO⟩ := hv
  subst hsz
  have hD := hD0.self (sz := s.heap.size)
  have hts : ∀ w ∈ gw, w.before (av.map (dV ad)).toArray s = true := fun w hw => atoms_spec (ws := Cond.codeWith y md.2.1 md.2.2.1 md.2.2.2.1 hh :: gw) B.pre w (List.mem_cons_of_mem _ hw)
  have F : Fx md p s m (av.map (dV ad)).toArray meth c D dA (va_A (wo dA ad h) s.heap.size) := ⟨B.exec, B.bytes, hml, B.returns, B.notSynchronized, by rw [hown]; exact findClass_of_methodNamed B.named, hts, hK, fun q hq => Or.inr hq, fun hi => by rw [← hin hi]; exact (name_of_methodNamed B.named B.method).1, hO⟩
  have HR : ∀ pc ls r h', isRet md pc r → (post r h' ∧ hC h' = hC h + mc av ∧ hZ h' = hZ h + ms av) → Wm md p l e s m (av.map (dV ad)).toArray below meth c D dA (va_A (wo dA ad h) s.heap.size) (mc av) (ms av) (hC h) (hZ h) ad (hN h) (MQ below (fun _ st oc t => QB D dA ad (hN h) (hC h + mc av) (hZ h + ms av) (va_A (wo dA ad h) s.heap.size) post oc t ∧ va_F (va_A (wo dA ad h) s.heap.size) st t) (av.map (dV ad)).toArray s (mc av) (ms av) (va_A (wo dA ad h) s.heap.size)) pc ls r.toList h' := by
    intro pc ls r h' hret hp
    intro ad' H locs lsA e1 e2 e3 e4 hP' hD' hS' hH' hF' hl' hv'
    have hq : ∀ t : State, t.heap = H → s.WarmedH t.vm → QB D dA ad (hN h) (hC h + mc av) (hZ h + ms av) (va_A (wo dA ad h) s.heap.size) post (.returned (r.map (dV ad'))) t ∧ va_F (va_A (wo dA ad h) s.heap.size) s t := fun t ht _ => ⟨⟨r, h', ad', rfl, hp.1, e1, e2, by rw [ht]; exact hP', hD', hH', fun v hv9 => hF'.2 v (by rw [hv9]; simp), hp.2.1, hp.2.2⟩, hS'.F ht⟩
    have ec : hC h' - hC h = mc av := by rw [hp.2.1]; omega
    have ez : hZ h' - hZ h = ms av := by rw [hp.2.2]; omega
    rw [ec, ez]
    rcases hret with ⟨rfl, hr, hd⟩ | ⟨z, rfl, hd, hr⟩ | ⟨z, rfl, hd, hr⟩ | ⟨o, rfl, hd, n, hr⟩
    · exact W.vret F.1 F.2.1 (F.2.2.2.1.trans hr) hq hS'.2.2 hd F.2.2.2.2.1
    · rcases hr with hr | ⟨hr, hz⟩ | ⟨hr, hz⟩
      · exact W.iret F.1 F.2.1 (F.2.2.2.1.trans hr) hq hS'.2.2 hd F.2.2.2.2.1
      · exact W.zret F.1 F.2.1 (F.2.2.2.1.trans hr) (by rcases hz with rfl | rfl <;> decide) hq hS'.2.2 hd F.2.2.2.2.1
      · refine W.zret F.1 F.2.1 (F.2.2.2.1.trans hr) ?_ hq hS'.2.2 hd F.2.2.2.2.1
        have := nar_byte hz.1 hz.2
        rw [vp_nar_byte] at this
        have e9 := pk_nb (Int32.ofInt z)
        rw [this] at e9
        exact e9
    · exact W.lret F.1 F.2.1 (F.2.2.2.1.trans hr) hq hS'.2.2 hd F.2.2.2.2.1
    · refine W.aret F.1 F.2.1 (F.2.2.2.1.trans hr) (Or.inl ⟨n, rfl⟩) ?_ hq hS'.2.2 hd F.2.2.2.2.1
      cases o with
      | none => exact Or.inl rfl
      | some k => exact Or.inr ⟨_, rfl⟩
  rw [lg_entry_eq]
  have hl := lv_entry (av.map (dV ad)) (n := md.2.2.1) (by rw [entA_len]; exact hlen)
  have hl2 : lv_has ((lg_sl (av.map (dV ad)) ++ List.replicate (md.2.2.1 - (lg_sl (av.map (dV ad))).length) Slot.unset).toArray) md.2.2.1 (lD ad (fitL md.2.2.1 (entA av))) := by
    refine ⟨hl.1, hl.2.1, fun q hq => hl.2.2 q ?_⟩
    obtain ⟨v, h1, h2⟩ := lD_mem.mp hq
    have h3 := entA_args (ad := ad) (k := 0) (fitL_nth h1)
    rw [Nat.zero_add] at h3
    obtain ⟨a, b⟩ := q
    simp only at h2
    rw [h2]
    exact h3
  have g := hb (hC h + mc av) (hZ h + ms av) p l e s m (av.map (dV ad)).toArray below meth c D dA (va_A (wo dA ad h) s.heap.size) (mc av) (ms av) (hC h) (hZ h) ad (hN h) _ _ F ⟨Nat.le_refl _, Nat.le_refl _⟩ HR I (fun pc ls h' hi => floyd (hcs _ _) F ⟨Nat.le_refl _, Nat.le_refl _⟩ HR hI hvc _ pc ls h' (Nat.lt_succ_self _) hi) _ [] h hbody ad s.heap [] _ (fun _ _ => rfl) (Nat.le_refl _) ⟨Nat.le_refl _, Nat.le_add_right _ _⟩ ⟨Nat.le_refl _, Nat.le_add_right _ _⟩ hP hD va_S.rf hH ⟨fun j v hj => entA_ok hav (fitL_nth hj), fun v hv => by cases hv⟩ (fitL_len _ _) hl2
  rw [Nat.sub_self, Nat.sub_self] at g
  exact g
def bmp (h : PH) (c z : Nat) : PH := (h.1, h.2.1, h.2.2.1, h.2.2.2.1 + c, h.2.2.2.2 + z)
theorem wo_bmp {dA : Nat → ClassId} {ad : Nat → Nat} {h : PH} {c z : Nat} : wo dA ad (bmp h c z) = wo dA ad h := rfl
def tt_wid (c z lc lz : Nat) (nx : TT) : TT := fun K R ls st h => hC h + c ≤ lc ∧ hZ h + z ≤ lz ∧ nx K R ls st (bmp h c z)
theorem snd_wid {md : MD} {lc lz pc cc zz : Nat} {nx : TT} (hn : Snd md lc lz pc nx) : Snd md lc lz pc (tt_wid cc zz lc lz nx) := by
  intro p l e s m args below meth c D dA A mc ms c0 z0 ad0 n0 post Q F L HR K hK ls st h ht
  have hn := hn p l e s m args below meth c D dA A mc ms c0 z0 ad0 n0 post Q F L HR K hK
  obtain ⟨h1, h2, ht⟩ := ht
  intro ad H locs lsA e1 e2 e3 e4 hP hD hS hH hF hl hv
  have g := hn ls st (bmp h cc zz) ht ad H locs lsA e1 e2 ⟨by show c0 ≤ hC h + cc; omega, by show hC h + cc ≤ _; omega⟩ ⟨by show z0 ≤ hZ h + zz; omega, by show hZ h + zz ≤ _; omega⟩ hP hD hS hH hF hl hv
  exact W.widen (by show hC h - c0 ≤ hC h + cc - c0; omega) (by show hZ h - z0 ≤ hZ h + zz - z0; omega) g
def Ct_Ho_out : CtT := fun av h post => match av with
  | [.inr (.inl (some p)), .inl i] => p = pHo ∧ isO h pHo 8 ∧ gR h pHo 13 = some pHo_told ∧ isAr h pHo_told 1 ∧ 0 ≤ i ∧ i < gI h pHo 14 ∧ gI h pHo 14 ≤ 300 ∧ post (some (.inl (gI h pHo_told i))) h
  | _ => False
def B_Ho_out_20 : TT := tt_al 0 (tt_gR 8 13 (tt_il 1 (tt_ba tt_ir)))
def B_Ho_out_0 : TT := tt_il 1 (tt_zlt (tt_cut 12) (tt_il 1 (tt_al 0 (tt_gI 8 14 (tt_clt B_Ho_out_20 (tt_cut 12))))))
theorem S_Ho_out_20 (lc lz : Nat) : Snd md_Ho_out lc lz 20 B_Ho_out_20 := snd_al_n (n := 0) (dget dd_Ho_out 10 rfl) rfl (snd_gR (kn := 13) fd_Ho_77 rfl (dget dd_Ho_out 11 rfl) (snd_il_n (n := 1) (dget dd_Ho_out 12 rfl) rfl (snd_ba (dget dd_Ho_out 13 rfl) (snd_ir (dget dd_Ho_out 14 rfl) rfl))))
theorem S_Ho_out_0 (lc lz : Nat) : Snd md_Ho_out lc lz 0 B_Ho_out_0 := snd_il_n (n := 1) (dget dd_Ho_out 0 rfl) rfl (snd_zlt (tg := 12) (dget dd_Ho_out 1 rfl) rfl snd_cut (snd_il_n (n := 1) (dget dd_Ho_out 2 rfl) rfl (snd_al_n (n := 0) (dget dd_Ho_out 3 rfl) rfl (snd_gI (kn := 14) fd_Ho_80 rfl (dget dd_Ho_out 4 rfl) (snd_clt (tg := 20) (dget dd_Ho_out 5 rfl) rfl (S_Ho_out_20 lc lz) snd_cut)))))
theorem met_Ho_out : MetP y_Ho_out md_Ho_out (fun _ => 0) (fun _ => 0) Ct_Ho_out := by
  refine met_of (body := fun _ _ => B_Ho_out_0) (cs := fun _ _ => []) (by decide) rfl (fun z => by cases z) (fun lc lz => S_Ho_out_0 lc lz) (fun lc lz q hq => by cases hq) ?_
  intro av h post hc hH hav
  unfold Ct_Ho_out at hc
  split at hc
  rotate_left
  · exact hc.elim
  rename_i p i
  obtain ⟨rfl, o1, r1, a1, i0, i1, i2, hp⟩ := hc
  refine ⟨Nat.le_of_ble_eq_true rfl, fun _ _ _ => False, fun _ _ _ => 0, fun _ _ _ x => x.elim, fun q hq => (by cases hq), ?_⟩
  have l1 : lnA pHo_told = 300 := rfl
  have i3 : ¬ i < 0 := by omega
  have i4 : i < 300 := by omega
  simp (decide := true) only [B_Ho_out_0, B_Ho_out_20, tt_ci, tt_cl, tt_nul, tt_il, tt_al, tt_ll, tt_is, tt_as, tt_ls, tt_inc, tt_add, tt_sub, tt_mul, tt_div, tt_rem, tt_ladd, tt_lmul, tt_ldiv, tt_lrem, tt_zeq, tt_zne, tt_zlt, tt_zge, tt_zgt, tt_zle, tt_ceq, tt_cne, tt_clt, tt_cge, tt_cgt, tt_cle, tt_nn, tt_cut, tt_pop, tt_dup, tt_dup2, tt_gI, tt_gR, tt_pI, tt_pZ, tt_pR, tt_ia, tt_ba, tt_za, tt_iS, tt_bS, tt_zS, tt_aa, tt_aS, tt_len, tt_and, tt_xor, tt_shr, tt_ushr, tt_lcmp, tt_i2b, tt_i2l, tt_l2i, tt_sw, swG, tt_ir, tt_zr, tt_br, tt_lr, tt_ar, tt_vr, tt_cV, tt_cS, tt_min, tt_max, tt_acp, pI, pII, pO, pA, pIA, pIIA, pOA, pOIA, pL, pLL, pLIA, pV, pCP, lI, lO, lL, nth, stL, clL, entA, fitL, rcv, List.take_succ_cons, List.take_zero, List.drop_succ_cons, List.drop_zero, List.reverse_cons, List.reverse_nil, List.nil_append, List.cons_append, List.length_cons, List.length_nil, Option.toList_some, Option.toList_none, true_and, and_true, true_or, or_true, and_self, forall_const, imp_self, implies_true, if_true, if_false, false_and, and_false, false_or, or_false, not_false_eq_true, not_true_eq_false, sI_sI, gI_sI, gI_sA, gR_sI, gR_sA, gI_sR, gR_sR, hN_sI, hN_sA, hN_sR, isO_sI, isO_sA, isO_sR, isAr_sI, isAr_sA, isAr_sR, hC_sI, hC_sA, hC_sR, hZ_sI, hZ_sA, hZ_sR, MW_sI, MW_sA, o1, r1, a1, i0, i1, i3, i4, l1]
  exact ⟨hp, rfl, rfl⟩
abbrev b_La_out : ByteArray := method_3_code
def y_La_out : MethodName := ⟨"CosetHouseLaw", "out", "(LCosetHouse;I[J)I"⟩
abbrev hh_La : List (Nat × Nat × Nat × Nat) := [(0, 9, 12, 13)]
abbrev md_La_out : MD := ("CosetHouseLaw", b_La_out, 4, some .int, 12, 400, false)
def ds_La_out : List (Nat × Instr × Nat) := [(0, .aload_n 2, 1), (1, .iconst 0, 1), (2, .aload_n 0, 1), (3, .iload_n 1, 1), (4, .invokevirtual 7, 3), (7, .i2l, 1), (8, .lastore, 1), (9, .goto 6, 3), (12, .astore_n 3, 1), (13, .iconst 1, 1), (14, .ireturn, 1), (15, .iconst 0, 1), (16, .ireturn, 1)]
theorem dd_La_out : dchk b_La_out ds_La_out = true := by decide +kernel
theorem ks_La_out : Cond.static y_La_out ∈ gw := gw_t5 24 (by decide +kernel) (by decide +kernel)
theorem kc_La_out : Cond.codeWith y_La_out b_La_out 4 (some .int) hh_La ∈ gw := gw_t5 25 (by decide +kernel) (by decide +kernel)
theorem kn_La : Cond.initialized "CosetHouseLaw" ∈ gw := gw_t1 0 (by decide +kernel) (by decide +kernel)
def B_La_out_0 (lc lz : Nat) : TT := tt_al 2 (tt_ci 0 (tt_al 0 (tt_il 1 (tt_cV 8 2 Ct_Ho_out (tt_i2l (tt_laS (tt_wid 1 6 lc lz (tt_ci 0 tt_ir))))))))
theorem S_La_out_0 (lc lz : Nat) : Snd md_La_out lc lz 0 (B_La_out_0 lc lz) := snd_al_n (n := 2) (dget dd_La_out 0 rfl) rfl (snd_iconst (n := 0) (dget dd_La_out 1 rfl) (inR_d rfl) rfl (snd_al_n (n := 0) (dget dd_La_out 2 rfl) rfl (snd_il_n (n := 1) (dget dd_La_out 3 rfl) rfl (snd_cV (n := 1) met_Ho_out mi_Ho_out ki_Ho_out kv_Ho_out ml_La_7 rfl (by decide) (dget dd_La_out 4 rfl) (snd_i2l (dget dd_La_out 5 rfl) (snd_laS (dget dd_La_out 6 rfl) (snd_wid (snd_goto (tg := 15) (dget dd_La_out 7 rfl) rfl (snd_iconst (n := 0) (dget dd_La_out 11 rfl) (inR_d rfl) rfl (snd_ir (dget dd_La_out 12 rfl) rfl))))))))))
def Ct_La_in : CtT := fun av h post => match av with
  | [.inr (.inl (some p)), .inl i, .inr (.inl (some q))] => p = pHo ∧ q = pLong ∧ isAr h pLong 3 ∧ isO h pHo 8 ∧ gR h pHo 13 = some pHo_told ∧ isAr h pHo_told 1 ∧ 0 ≤ i ∧ i < gI h pHo 14 ∧ gI h pHo 14 ≤ 300 ∧ post (some (.inl 0)) (bmp (sI h pLong 0 (gI h pHo_told i)) 1 6)
  | _ => False
def MtL (Ct : CtT) : Prop := ∀ (l : Launch) (D : va_G) (dA : Nat → ClassId) (ad : Nat → Nat) (h : PH) (sz : Nat) (av : List PV) (post : TR), Ct av h post → okH h → (∀ v ∈ av, okV (hN h) v) →
    Met l y_La_out (Cond.codeWith y_La_out b_La_out 4 (some .int) hh_La :: gw) (rmOf md_La_out 1 6)
      (va_Pc (av.map (dV ad)) (fun U => U.heap.size = sz ∧ va_P D classes (wo dA ad h) U.heap ∧ va_K D classes (tysOf dA) U ∧ va_D (fun _ => True) (wo dA ad h) ∧ va_AO "CosetHouse$Word" U))
      (fun _ st oc t => QB D dA ad (hN h) (hC h + 1) (hZ h + 6) (va_A (wo dA ad h) sz) post oc t ∧ va_F (va_A (wo dA ad h) sz) st t)
      1 6 (va_A (wo dA ad h) sz)
theorem met_La_in : MtL Ct_La_in := met_ofW hh_La (y := y_La_out) (md := md_La_out) (mc := fun _ => 1) (ms := fun _ => 6) (Ct := Ct_La_in) (body := fun lc lz => B_La_out_0 lc lz) (cs := fun _ _ => []) (by decide) rfl (fun z => by cases z) (fun lc lz => S_La_out_0 lc lz) (fun lc lz q hq => by cases hq) (by
  intro av h post hc hH hav
  unfold Ct_La_in at hc
  split at hc
  rotate_left
  · exact hc.elim
  rename_i p i q
  obtain ⟨rfl, rfl, al, o1, r1, a1, i0, i1, i2, hp⟩ := hc
  refine ⟨Nat.le_of_ble_eq_true rfl, fun _ _ _ => False, fun _ _ _ => 0, fun _ _ _ x => x.elim, fun q hq => (by cases hq), ?_⟩
  have l1 : lnA pLong = 1 := rfl
  simp (decide := true) only [B_La_out_0, tt_ci, tt_cl, tt_nul, tt_il, tt_al, tt_ll, tt_is, tt_as, tt_ls, tt_inc, tt_add, tt_sub, tt_mul, tt_div, tt_rem, tt_ladd, tt_lmul, tt_ldiv, tt_lrem, tt_zeq, tt_zne, tt_zlt, tt_zge, tt_zgt, tt_zle, tt_ceq, tt_cne, tt_clt, tt_cge, tt_cgt, tt_cle, tt_nn, tt_cut, tt_pop, tt_dup, tt_dup2, tt_gI, tt_gR, tt_pI, tt_pZ, tt_pR, tt_ia, tt_ba, tt_za, tt_iS, tt_bS, tt_zS, tt_aa, tt_aS, tt_len, tt_and, tt_xor, tt_shr, tt_ushr, tt_lcmp, tt_i2b, tt_i2l, tt_l2i, tt_sw, swG, tt_ir, tt_zr, tt_br, tt_lr, tt_ar, tt_vr, tt_cV, tt_cS, tt_min, tt_max, tt_acp, pI, pII, pO, pA, pIA, pIIA, pOA, pOIA, pL, pLL, pLIA, pV, pCP, lI, lO, lL, nth, stL, clL, entA, fitL, rcv, List.take_succ_cons, List.take_zero, List.drop_succ_cons, List.drop_zero, List.reverse_cons, List.reverse_nil, List.nil_append, List.cons_append, List.length_cons, List.length_nil, Option.toList_some, Option.toList_none, true_and, and_true, true_or, or_true, and_self, forall_const, imp_self, implies_true, if_true, if_false, false_and, and_false, false_or, or_false, not_false_eq_true, not_true_eq_false, sI_sI, gI_sI, gI_sA, gR_sI, gR_sA, gI_sR, gR_sR, hN_sI, hN_sA, hN_sR, isO_sI, isO_sA, isO_sR, isAr_sI, isAr_sA, isAr_sR, hC_sI, hC_sA, hC_sR, hZ_sI, hZ_sA, hZ_sR, MW_sI, MW_sA, Ct_Ho_out, tt_laS, pLIA, tt_wid, o1, r1, a1, i0, i1, i2, al, l1]
  exact ⟨Nat.le_refl _, Nat.le_refl _, hp, rfl, rfl⟩)
