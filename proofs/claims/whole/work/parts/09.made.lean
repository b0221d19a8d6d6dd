/-! WHAT IS MADE, constructors' calls, Math.min and max, arraycopy; methods out of their blocks -/
def adN (ad : Nat → Nat) (n q : Nat) : Nat → Nat := fun k => if k = n then q else ad k
theorem adN_agree {ad : Nat → Nat} {n q : Nat} (hn : n < SC) : ∀ k, okP n k → adN ad n q k = ad k := fun k hk => if_neg (fun e => by rcases hk with h | h <;> omega)
theorem gI_nC {h : PH} {z b : Nat} {k : Int} : gI (nC h z) b k = if b = hN h then 0 else gI h b k := rfl
theorem gR_nC {h : PH} {z b : Nat} {k : Int} : gR (nC h z) b k = if b = hN h then none else gR h b k := rfl
theorem okH_nC {h : PH} (hh : okH h) (z : Nat) : okH (nC h z) := by
  refine ⟨fun a k => ?_, fun a k x hx => ?_⟩
  · rw [gI_nC]
    by_cases e : a = hN h
    · rw [if_pos e]
      split
      · exact ⟨by decide, by decide⟩
      · exact inR_0
    · rw [if_neg e]; exact hh.1 a k
  · rw [gR_nC] at hx
    by_cases e : a = hN h
    · rw [if_pos e] at hx; cases hx
    · rw [if_neg e] at hx
      have := hh.2 a k x hx
      show x < hN h + 1
      omega
theorem wo_new {dA : Nat → ClassId} {ad : Nat → Nat} {h : PH} {z q : Nat} {x : va_E} (hh : okH h) (hx : cE dA (adN ad (hN h) q) (nC h z) (hN h) = x) : wo dA ad h ++ [(q, x)] = wo dA (adN ad (hN h) q) (nC h z) := by
  unfold wo
  show _ = (List.range (hN h + 1)).map _
  rw [List.range_succ, List.map_append]
  congr 1
  · refine List.map_congr_left (fun b hb => ?_)
    have hlt := List.mem_range.mp hb
    have hne : b ≠ hN h := by omega
    have e1 : adN ad (hN h) q b = ad b := if_neg hne
    rw [e1]
    refine congrArg (Prod.mk (ad b)) (cE_same (h := h) (h' := nC h z) (fun k => by rw [gI_nC, if_neg hne]) (fun k => ?_)).symm
    rw [gR_nC, if_neg hne]
    cases hg : gR h b k with
    | none => rfl
    | some y =>
      have := hh.2 b k y hg
      show some (adN ad (hN h) q y) = some (ad y)
      rw [show adN ad (hN h) q y = ad y from if_neg (by omega)]
  · show [(q, x)] = [(adN ad (hN h) q (hN h), _)]
    rw [hx, show adN ad (hN h) q (hN h) = q from if_pos rfl]
def CD (own : String) (idx ci : Nat) : Prop := ∃ (C : String) (T : u_T), classes[ci]? = some (C, T, nF ci) ∧ (∀ w ∈ u_ws C T (nF ci), w ∈ gw) ∧ (∀ j, j < nF ci → parseFieldDescriptor (T j).2.2.1 = some (tyF ci j)) ∧ Cond.classLink own idx C ∈ gw ∧ Cond.instantiable C (nF ci) ∈ gw ∧ Cond.initialized C ∈ gw ∧ (∀ j, j < nF ci → defaultValue (tyF ci j) = if isRf (tyF ci j) then .null else .int 0)
def tt_new (ci lc lz : Nat) (nx : TT) : TT := fun K R ls st h => SH (hN h) = .inl ci ∧ hN h < 1000 ∧ hC h + 1 ≤ lc ∧ hZ h + nF ci ≤ lz ∧ nx K R ls (.inr (.inl (some (hN h))) :: st) (nC h (nF ci))
/-- behind a new cell -/
theorem okF_new {h : PH} {ls : LSt} {st : List PV} {z : Nat} (hF : okF h ls st) : okF (nC h z) ls (.inr (.inl (some (hN h))) :: st) := ⟨fun j w hj => okV_le (hF.1 j w hj) (Nat.le_succ _), fun w hw => by
  rcases List.mem_cons.mp hw with e | e
  · rw [e]; exact Or.inl (Nat.lt_succ_self _)
  · exact okV_le (hF.2 w e) (Nat.le_succ _)⟩
theorem snd_new {md : MD} {lc lz pc : Nat} {idx ci : Nat} {nx : TT} (cd : CD md.1 idx ci) (hd : decode md.2.1 pc = .ok (.new idx, 3)) (hn : Snd md lc lz (pc + 3) nx) : Snd md lc lz pc (tt_new ci lc lz nx) := by
  intro p l e s m args below meth c D dA A mc ms c0 z0 ad0 n0 post Q F L HR K hK ls st h ht
  have hn := hn p l e s m args below meth c D dA A mc ms c0 z0 ad0 n0 post Q F L HR K hK
  obtain ⟨hsh, h1k, hc1, hz1, ht⟩ := ht
  intro ad H locs lsA e1 e2 e3 e4 hP hD hS hH hF hl hv
  obtain ⟨C, T, hc, hin, hty, hcl, hit, hini, hdef⟩ := cd
  refine va_new (own := md.1) (ci := ci) (fs := (List.range (nF ci)).map (fun j => if isRf (tyF ci j) then .null else .int 0)) F.1 F.2.1 F.2.2.2.2.2.2.1 hin (tyF ci) hty F.2.2.2.2.2.1 (F.2.2.2.2.2.2.1 _ hcl) (F.2.2.2.2.2.2.1 _ hit) (F.2.2.2.2.2.2.1 _ hini) F.2.2.2.2.2.2.2.1 hP hD hS F.2.2.2.2.2.2.2.2.1 hc (fun j hj => ?_) (by show hC h - c0 + 1 ≤ mc; omega) (by show hZ h - z0 + _ ≤ ms; omega) hd (fun q H1 hP' hD' hS' => ?_)
  · rw [hdef j hj]
    simp [vp_V, List.getD_eq_getElem?_getD, List.getElem?_range hj]
  · have hcell : cE dA (adN ad (hN h) q) (nC h (nF ci)) (hN h) = .inr (ci, (List.range (nF ci)).map (fun j => if isRf (tyF ci j) then .null else .int 0)) := by
      rw [cE_obj hsh]
      congr 2
      refine List.map_congr_left (fun j _ => ?_)
      unfold fV
      rw [gI_nC, gR_nC, if_pos rfl, if_pos rfl]
      rfl
    rw [wo_new hH hcell] at hP' hD'
    have hsc : hN h < SC := by unfold SC; omega
    have g := hn ls (.inr (.inl (some (hN h))) :: st) (nC h (nF ci)) ht (adN ad (hN h) q) H1 locs lsA (fun k hk => (adN_agree hsc k (okP_le hk e2)).trans (e1 k hk)) (by show n0 ≤ hN h + 1; omega) ⟨by show c0 ≤ hC h + 1; omega, by show hC h + 1 ≤ c0 + mc; omega⟩ ⟨by show z0 ≤ hZ h + _; omega, by show hZ h + _ ≤ z0 + ms; omega⟩ hP' hD' hS' (okH_nC hH _) (okF_new hF) hl (by rw [lD_agree hF.1 (adN_agree hsc)]; exact hv)
    have ec : hC (nC h (nF ci)) - c0 = hC h - c0 + 1 := by show hC h + 1 - c0 = _; omega
    have ez : hZ (nC h (nF ci)) - z0 = hZ h - z0 + nF ci := by show hZ h + _ - z0 = _; omega
    have es : (Sum.inr (Sum.inl (some (hN h))) :: st : List PV).map (dV (adN ad (hN h) q)) = Value.ref q :: st.map (dV ad) := by
      rw [List.map_cons, map_agree hF.2 (adN_agree hsc)]
      show Value.ref (adN ad (hN h) q (hN h)) :: _ = _
      rw [show adN ad (hN h) q (hN h) = q from if_pos rfl]
    rw [ec, ez, es] at g
    exact g
def tt_na (t lc lz : Nat) (nx : TT) : TT := fun K R ls st h => pI st (fun z r => 0 ≤ z ∧ z ≤ 100000 ∧ SH (hN h) = .inr (t, z.toNat) ∧ hN h < 1000 ∧ hC h + 1 ≤ lc ∧ hZ h + z.toNat ≤ lz ∧ nx K R ls (.inr (.inl (some (hN h))) :: r) (nC h z.toNat))
theorem snd_na {md : MD} {lc lz pc t : Nat} {at_ : ArrayType} {ty : FieldType} {nx : TT} (hd : decode md.2.1 pc = .ok (.newarray at_, 2)) (hat : newarray.typeOf at_ = ty) (hw : Cond.arrayClass ty ∈ gw) (h3 : t ≠ 3) (h4 : t ≠ 4) (hT : ∀ dA : Nat → ClassId, (tysOf dA)[t]? = some (dA t, ty)) (hdf : defaultValue ty = .int 0) (hcb : componentBytes ty ≤ 8) (hnr : ∀ C, ty ≠ .object C) (hn : Snd md lc lz (pc + 2) nx) : Snd md lc lz pc (tt_na t lc lz nx) := by
  subst hat
  intro p l e s m args below meth c D dA A mc ms c0 z0 ad0 n0 post Q F L HR K hK ls st h ht
  have hn := hn p l e s m args below meth c D dA A mc ms c0 z0 ad0 n0 post Q F L HR K hK
  obtain ⟨z, r, rfl, hz0, hz9, hsh, h1k, hc1, hz1, ht⟩ := pI_s ht
  intro ad H locs lsA e1 e2 e3 e4 hP hD hS hH hF hl hv
  have hzr : inR z := ⟨by omega, by omega⟩
  have hFr := okF_pop hF
  refine va_newa (a0 := (z.toNat, .inl (fun _ => 0))) F.1 F.2.1 (F.2.2.2.2.2.2.1 _ hw) rfl F.2.2.2.2.2.2.2.1 hP hD hS F.2.2.2.2.2.2.2.2.1 (fun cA => by rw [hdf]; rfl) (fun q => by have := (i32_lt hzr inR_0).mp q; omega) (i32_nat hzr) ?_ (by show hC h - c0 + 1 ≤ mc; omega) (by show hZ h - z0 + _ ≤ ms; omega) hd (fun q cA H1 hK' hP' hD' hS' => ?_)
  · calc z.toNat * componentBytes (newarray.typeOf at_) ≤ 100000 * 8 := Nat.mul_le_mul (by omega) hcb
      _ ≤ 536870912 := by decide
  · have hcA : cA = dA t := by
      have a1 := (hK'.2 5 (cA, newarray.typeOf at_) rfl).2
      have a2 := (F.2.2.2.2.2.2.2.1.2 t _ (hT dA)).2
      have hr : ∀ c1, va_RA s c1 (newarray.typeOf at_) → s.vm.findClass ("[" ++ (newarray.typeOf at_).toString) = some c1 := by
        intro c1 h1
        cases at_ <;> exact h1
      exact Option.some.inj ((hr _ a1).symm.trans (hr _ a2))
    subst hcA
    have hcell : cE dA (adN ad (hN h) q) (nC h z.toNat) (hN h) = .inl (dA t, z.toNat, .inl (fun _ => 0)) := by
      rw [cE_arr hsh h3 h4]
      congr 4
      funext j
      rw [gI_nC, if_pos rfl]
      rfl
    rw [wo_new hH hcell] at hP' hD'
    have hsc : hN h < SC := by unfold SC; omega
    have g := hn ls (.inr (.inl (some (hN h))) :: r) (nC h z.toNat) ht (adN ad (hN h) q) H1 locs lsA (fun k hk => (adN_agree hsc k (okP_le hk e2)).trans (e1 k hk)) (by show n0 ≤ hN h + 1; omega) ⟨by show c0 ≤ hC h + 1; omega, by show hC h + 1 ≤ c0 + mc; omega⟩ ⟨by show z0 ≤ hZ h + _; omega, by show hZ h + _ ≤ z0 + ms; omega⟩ hP' hD' hS' (okH_nC hH _) (okF_new hFr) hl (by rw [lD_agree hF.1 (adN_agree hsc)]; exact hv)
    have ec : hC (nC h z.toNat) - c0 = hC h - c0 + 1 := by show hC h + 1 - c0 = _; omega
    have ez : hZ (nC h z.toNat) - z0 = hZ h - z0 + z.toNat := by show hZ h + _ - z0 = _; omega
    have es : (Sum.inr (Sum.inl (some (hN h))) :: r : List PV).map (dV (adN ad (hN h) q)) = Value.ref q :: r.map (dV ad) := by
      rw [List.map_cons, map_agree hFr.2 (adN_agree hsc)]
      show Value.ref (adN ad (hN h) q (hN h)) :: _ = _
      rw [show adN ad (hN h) q (hN h) = q from if_pos rfl]
    rw [ec, ez, es] at g
    exact g
def tt_nq (lc lz : Nat) (nx : TT) : TT := fun K R ls st h => pI st (fun z r => 0 ≤ z ∧ z ≤ 100000 ∧ SH (hN h) = .inr (4, z.toNat) ∧ hN h < 1000 ∧ hC h + 1 ≤ lc ∧ hZ h + z.toNat ≤ lz ∧ nx K R ls (.inr (.inl (some (hN h))) :: r) (nC h z.toNat))
theorem snd_nq {md : MD} {lc lz pc idx : Nat} {nx : TT} (hd : decode md.2.1 pc = .ok (.anewarray idx, 3)) (hlk : Cond.classLink md.1 idx "CosetHouse$Word" ∈ gw) (hn : Snd md lc lz (pc + 3) nx) : Snd md lc lz pc (tt_nq lc lz nx) := by
  intro p l e s m args below meth c D dA A mc ms c0 z0 ad0 n0 post Q F L HR K hK ls st h ht
  have hn := hn p l e s m args below meth c D dA A mc ms c0 z0 ad0 n0 post Q F L HR K hK
  obtain ⟨z, r, rfl, hz0, hz9, hsh, h1k, hc1, hz1, ht⟩ := pI_s ht
  intro ad H locs lsA e1 e2 e3 e4 hP hD hS hH hF hl hv
  have hzr : inR z := ⟨by omega, by omega⟩
  have hFr := okF_pop hF
  refine va_newq (C := "CosetHouse$Word") F.1 F.2.1 F.2.2.2.2.2.1 (F.2.2.2.2.2.2.1 _ hlk) F.2.2.2.2.2.2.2.2.2.2 F.2.2.2.2.2.2.2.1 hP hD hS F.2.2.2.2.2.2.2.2.1 (fun q => by have := (i32_lt hzr inR_0).mp q; omega) (i32_nat hzr) (by omega) (by show hC h - c0 + 1 ≤ mc; omega) (by show hZ h - z0 + _ ≤ ms; omega) hd (fun q cA H1 hK' hP' hD' hS' => ?_)
  · have hcA : cA = dA 4 := by
      obtain ⟨_, _, -, -, -, a1⟩ := (hK'.2 5 (cA, .object "CosetHouse$Word") rfl).2
      obtain ⟨_, _, -, -, -, a2⟩ := (F.2.2.2.2.2.2.2.1.2 4 (dA 4, .object "CosetHouse$Word") rfl).2
      exact Option.some.inj (a1.symm.trans a2)
    subst hcA
    have hcell : cE dA (adN ad (hN h) q) (nC h z.toNat) (hN h) = .inl (dA 4, z.toNat, .inr (.inr (.inr (.inr (fun _ => none))))) := by
      rw [cE_ref hsh]
      congr 7
      funext j
      rw [gR_nC, if_pos rfl]
      rfl
    rw [wo_new hH hcell] at hP' hD'
    have hsc : hN h < SC := by unfold SC; omega
    have g := hn ls (.inr (.inl (some (hN h))) :: r) (nC h z.toNat) ht (adN ad (hN h) q) H1 locs lsA (fun k hk => (adN_agree hsc k (okP_le hk e2)).trans (e1 k hk)) (by show n0 ≤ hN h + 1; omega) ⟨by show c0 ≤ hC h + 1; omega, by show hC h + 1 ≤ c0 + mc; omega⟩ ⟨by show z0 ≤ hZ h + _; omega, by show hZ h + _ ≤ z0 + ms; omega⟩ hP' hD' hS' (okH_nC hH _) (okF_new hFr) hl (by rw [lD_agree hF.1 (adN_agree hsc)]; exact hv)
    have ec : hC (nC h z.toNat) - c0 = hC h - c0 + 1 := by show hC h + 1 - c0 = _; omega
    have ez : hZ (nC h z.toNat) - z0 = hZ h - z0 + z.toNat := by show hZ h + _ - z0 = _; omega
    have es : (Sum.inr (Sum.inl (some (hN h))) :: r : List PV).map (dV (adN ad (hN h) q)) = Value.ref q :: r.map (dV ad) := by
      rw [List.map_cons, map_agree hFr.2 (adN_agree hsc)]
      show Value.ref (adN ad (hN h) q (hN h)) :: _ = _
      rw [show adN ad (hN h) q (hN h) = q from if_pos rfl]
    rw [ec, ez, es] at g
    exact g
def tt_oi (nx : TT) : TT := fun K R ls st h => pA st (fun _ r => r = [] ∧ nx K R ls [] h)
theorem snd_oi {md : MD} {lc lz pc idx : Nat} {nx : TT} (hd : decode md.2.1 pc = .ok (.invokespecial idx, 3)) (hlk : Cond.methodLink md.1 idx Lib.objectInit ∈ gw) (hi : Cond.instanceMethod Lib.objectInit ∈ gw) (hcd : Cond.code Lib.objectInit ⟨#[0xb1]⟩ 1 none ∈ gw) (hrm : 1 ≤ md.2.2.2.2.1 ∧ 12 ≤ md.2.2.2.2.2.1) (hn : Snd md lc lz (pc + 3) nx) : Snd md lc lz pc (tt_oi nx) := by
  intro p l e s m args below meth c D dA A mc ms c0 z0 ad0 n0 post Q F L HR K hK ls st h ht
  have hn := hn p l e s m args below meth c D dA A mc ms c0 z0 ad0 n0 post Q F L HR K hK
  obtain ⟨a, r, rfl, rfl, ht2⟩ := pA_s ht
  intro ad H locs lsA e1 e2 e3 e4 hP hD hS hH hF hl hv
  exact W.objInit F.1 F.2.1 F.2.2.2.2.2.1 (F.2.2.2.2.2.2.1 _ hlk) (F.2.2.2.2.2.2.1 _ hi) (F.2.2.2.2.2.2.1 _ hcd) rfl (hv.1.trans F.2.2.1.symm) rfl hd hrm.1 (by show 2 * 0 + 0 + 12 ≤ _; exact hrm.2) (hn ls [] h ht2 ad H locs lsA e1 e2 e3 e4 hP hD hS hH (okF_pop hF) hl hv)
def tt_cI (n : Nat) (mc ms : List PV → Nat) (lc lz : Nat) (Ct : CtT) (nx : TT) : TT := fun K R ls st h => n ≤ st.length ∧ (st.drop n).length ≤ 4 ∧ rcv (st.take n).reverse (fun _ => True) ∧ hC h + mc (st.take n).reverse ≤ lc ∧ hZ h + ms (st.take n).reverse ≤ lz ∧ Ct (st.take n).reverse h (fun r h' => nx K R ls (r.toList ++ st.drop n) h')
theorem snd_cI {md : MD} {lc lz pc : Nat} {y : MethodName} {mdY : MD} {idx n : Nat} {mc ms : List PV → Nat} {Ct : CtT} {nx : TT} (hM : MetP y mdY mc ms Ct) (mi : MI y mdY n) (hi : Cond.instanceMethod y ∈ gw) (hy1 : y.name = "<init>") (hret : mdY.2.2.2.1 = none) (hlk : Cond.methodLink md.1 idx y ∈ gw) (hrm : rmOK md mdY = true)
    (hd : decode md.2.1 pc = .ok (.invokespecial idx, 3)) (hn : Snd md lc lz (pc + 3) nx) : Snd md lc lz pc (tt_cI (n + 1) mc ms lc lz Ct nx) := by
  intro p l e s m args below meth c D dA A mc' ms' c0 z0 ad0 n0 post Q F L HR K hK ls st h ht
  have hn := hn p l e s m args below meth c D dA A mc' ms' c0 z0 ad0 n0 post Q F L HR K hK
  obtain ⟨hlen, h4, hrc, hc1, hz1, hct⟩ := ht
  obtain ⟨a, ps, hav, -⟩ := rcv_s hrc
  intro ad H locs lsA e1 e2 e3 e4 hP hD hS hH hF hl hv
  have hrest : ∀ v ∈ st.drop (n + 1), okV (hN h) v := fun v q => hF.2 v (List.mem_of_mem_drop q)
  have hav' : ∀ v ∈ (st.take (n + 1)).reverse, okV (hN h) v := fun v q => hF.2 v (List.mem_of_mem_take (List.mem_reverse.mp q))
  have hM1 := hM l D dA ad h H.size (st.take (n + 1)).reverse _ hct hH hav'
  have hlps : ps.length = n := by
    have := congrArg List.length hav
    rw [List.length_reverse, List.length_take] at this
    simp at this
    omega
  have mi2 := mi.2.1
  rw [hret] at hM1 mi2
  rw [hav] at hM1 hc1 hz1
  refine W.back (post := fun r h' => nx K post ls (r.toList ++ st.drop (n + 1)) h') (cy := mc (.inr (.inl (some a)) :: ps)) (sy := ms (.inr (.inl (some a)) :: ps)) (rest := st.drop (n + 1)) F.2.2.2.2.2.2.2.2.1 e1 e2 e3 e4 hD hS hF hrest hl hv (by omega) (by omega) ?_ (fun r h' hp => hn ls _ h' hp)
  refine va_runI (b := ad a) (As := ps.map (dV ad)) (nL := md.2.2.1) (n := n) ⟨F.1, F.2.1, F.2.2.1, F.2.2.2.2.2.1, F.2.2.2.2.2.2.1⟩ hM1 ⟨callB_of n F.2.2.2.2.2.2.1 (good_ws mi2) rfl rfl rfl (F.2.2.2.2.2.2.1 _ mi.2.2.1) (F.2.2.2.2.2.2.1 _ hlk) mi.2.2.2 (rmOK_s hrm), hy1, F.2.2.2.2.2.2.1 _ hi⟩ ⟨pc_blind, fun U hU hW => ⟨rfl, by rw [hU], by rw [hU]; exact hP, va_K.moved hW.alike F.2.2.2.2.2.2.2.1, hD.weaken (fun _ _ _ _ => trivial), va_AO.moved hW.alike F.2.2.2.2.2.2.2.2.2.2⟩⟩ rfl (by rw [List.length_map]; exact hlps) hv.1 ?_ (lv_room (sum8 h4)) hd ⟨by show hC h - c0 + _ ≤ mc'; omega, by show hZ h - z0 + _ ≤ ms'; omega⟩
  show st.map (dV ad) = _
  rw [take_map (n := n + 1), hav]
  simp [dV, va_rf]
