/-! CALLS: a contract as a predicate transformer; methods out of their blocks -/
def QB (D : va_G) (dA : Nat → ClassId) (ad : Nat → Nat) (n0 cE zE : Nat) (A : Nat → Prop) (post : TR) (oc : Outcome) (t : State) : Prop :=
  ∃ (r : Option PV) (h' : PH) (ad' : Nat → Nat), oc = .returned (r.map (dV ad')) ∧ post r h' ∧ (∀ k, okP n0 k → ad' k = ad k) ∧ n0 ≤ hN h' ∧ va_P D classes (wo dA ad' h') t.heap ∧ va_D A (wo dA ad' h') ∧ okH h' ∧ (∀ v, r = some v → okV (hN h') v) ∧ hC h' = cE ∧ hZ h' = zE
abbrev CtT : Type := List PV → PH → TR → Prop
def MetP (y : MethodName) (md : MD) (mc ms : List PV → Nat) (Ct : CtT) : Prop :=
  ∀ (l : Launch) (D : va_G) (dA : Nat → ClassId) (ad : Nat → Nat) (h : PH) (sz : Nat) (av : List PV) (post : TR), Ct av h post → okH h → (∀ v ∈ av, okV (hN h) v) →
    Met l y (Cond.code y md.2.1 md.2.2.1 md.2.2.2.1 :: gw) (rmOf md (mc av) (ms av))
      (va_Pc (av.map (dV ad)) (fun U => U.heap.size = sz ∧ va_P D classes (wo dA ad h) U.heap ∧ va_K D classes (tysOf dA) U ∧ va_D (fun _ => True) (wo dA ad h) ∧ va_AO "CosetHouse$Word" U))
      (fun _ st oc t => QB D dA ad (hN h) (hC h + mc av) (hZ h + ms av) (va_A (wo dA ad h) sz) post oc t ∧ va_F (va_A (wo dA ad h) sz) st t)
      (mc av) (ms av) (va_A (wo dA ad h) sz)
theorem okP_le {n m k : Nat} (h : okP n k) (hm : n ≤ m) : okP m k := h.elim (fun q => Or.inl (by omega)) Or.inr
theorem okV_le {n m : Nat} {v : PV} (h : okV n v) (hm : n ≤ m) : okV m v := by
  match v, h with
  | .inl z, h => exact h
  | .inr (.inl none), h => exact h
  | .inr (.inl (some k)), h => exact okP_le h hm
  | .inr (.inr z), h => exact h
theorem dV_agree {n : Nat} {ad ad' : Nat → Nat} {v : PV} (h : okV n v) (ha : ∀ k, okP n k → ad' k = ad k) : dV ad' v = dV ad v := by
  match v, h with
  | .inl z, _ => rfl
  | .inr (.inl none), _ => rfl
  | .inr (.inl (some k)), h => show Value.ref (ad' k) = Value.ref (ad k); rw [ha k h]
  | .inr (.inr z), _ => rfl
theorem map_agree {n : Nat} {ad ad' : Nat → Nat} {vs : List PV} (h : ∀ v ∈ vs, okV n v) (ha : ∀ k, okP n k → ad' k = ad k) : vs.map (dV ad') = vs.map (dV ad) := List.map_congr_left (fun v hv => dV_agree (h v hv) ha)
theorem lD_agree {n : Nat} {ad ad' : Nat → Nat} {ls : LSt} (h : ∀ j v, nth ls j = some v → okV n v) (ha : ∀ k, okP n k → ad' k = ad k) : lD ad' ls = lD ad ls := by
  unfold lD
  congr 1
  funext j
  cases hj : nth ls j with
  | none => rfl
  | some v => show some (j, dV ad' v) = some (j, dV ad v); rw [dV_agree (h j v hj) ha]
theorem cat_le (v : Value) : v.category ≤ 2 := by rcases lv_cat v with h | h <;> omega
theorem cat_sum (vs : List Value) : (vs.map fun v => v.category).sum ≤ 2 * vs.length := by
  induction vs with
  | nil => simp
  | cons v vs ih => have := cat_le v; simp only [List.map_cons, List.sum_cons, List.length_cons]; omega
theorem sum8 {ad : Nat → Nat} {vs : List PV} (h : vs.length ≤ 4) : ((vs.map (dV ad)).map fun v => v.category).sum ≤ 8 := by
  have := cat_sum (vs.map (dV ad))
  rw [List.length_map] at this
  omega
theorem take_map {n : Nat} {st : List PV} {ad : Nat → Nat} : st.map (dV ad) = ((st.take n).reverse.map (dV ad)).reverse ++ (st.drop n).map (dV ad) := by
  rw [List.map_reverse, List.reverse_reverse, ← List.map_append, List.take_append_drop]
theorem pc_blind {av : List Value} {D : va_G} {dA : Nat → ClassId} {ws : va_W} {sz : Nat} : FrameBlind (va_Pc av (fun U => U.heap.size = sz ∧ va_P D classes ws U.heap ∧ va_K D classes (tysOf dA) U ∧ va_D (fun _ => True) ws ∧ va_AO "CosetHouse$Word" U)) := fun a U g mk q => by
  obtain ⟨q0, q1, qP, qK, qD, qO⟩ := q
  exact ⟨q0, q1, qP, va_K.moved (u := U) (U := U.calling g mk a) (Vm.Alike.refl U.vm) qK, qD, va_AO.moved (u := U) (U := U.calling g mk a) (Vm.Alike.refl U.vm) qO⟩
def rcv (av : List PV) (f : Nat → Prop) : Prop := match av with
  | .inr (.inl (some a)) :: _ => f a
  | _ => False
theorem rcv_s {av : List PV} {f : Nat → Prop} (h : rcv av f) : ∃ a r, av = .inr (.inl (some a)) :: r ∧ f a := by
  unfold rcv at h; split at h
  · exact ⟨_, _, rfl, h⟩
  · exact h.elim
/-- behind a call -/
theorem W.back {md : MD} {p : Program} {l : Launch} {e : Env} {s : State} {m : MethodId} {args : Array Value} {below : List Frame} {meth : Method} {c : Code} {D : va_G} {dA : Nat → ClassId} {A : Nat → Prop} {mc ms c0 z0 n0 pc : Nat} {ad0 ad : Nat → Nat} {Q : State → Prop} {ls : LSt} {rest st0 : List PV} {h : PH} {post : TR} {H : Heap} {locs : List Loc} {lsA : Array Slot} {cy sy : Nat}
    (hA : ∀ q, s.heap.size ≤ q → A q) (e1 : ∀ k, okP n0 k → ad k = ad0 k) (e2 : n0 ≤ hN h) (e3 : c0 ≤ hC h ∧ hC h ≤ c0 + mc) (e4 : z0 ≤ hZ h ∧ hZ h ≤ z0 + ms) (hD : va_D A (wo dA ad h)) (hS : va_S A s.heap H locs) (hF : okF h ls st0) (hrest : ∀ v ∈ rest, okV (hN h) v) (hl : ls.length = md.2.2.1) (hv : lv_has lsA md.2.2.1 (lD ad ls))
    (hcy : hC h + cy ≤ c0 + mc) (hsy : hZ h + sy ≤ z0 + ms)
    (run : va_Run p l e (rmOf md mc ms) s m args below meth c H locs (hC h - c0) (hZ h - z0) cy sy (F0 m pc lsA (st0.map (dV ad))) (rest.map (dV ad)) (fun st oc t => QB D dA ad (hN h) (hC h + cy) (hZ h + sy) (va_A (wo dA ad h) H.size) post oc t ∧ va_F (va_A (wo dA ad h) H.size) st t) (va_A (wo dA ad h) H.size))
    (hn : ∀ r h', post r h' → Wm md p l e s m args below meth c D dA A mc ms c0 z0 ad0 n0 Q (pc + 3) ls (r.toList ++ rest) h') : W p l e (rmOf md mc ms) s m args below meth c H locs (hC h - c0) (hZ h - z0) Q (F0 m pc lsA (st0.map (dV ad))) := by
  intro T hT X
  obtain ⟨v, st₀, t, T', L, h0, X', hL, x1, x2, ⟨⟨r, h', ad', hv', hp, hag, hn', hP', hD', hH', hr, hc', hz'⟩, hz, hk⟩, st⟩ := run T hT X
  have hfree : ∀ q, va_A (wo dA ad h) H.size q → A q := by
    intro q hq
    rcases hq with ⟨k, x, hq⟩ | hq
    · exact hD.2 k _ hq
    · exact hA q (Nat.le_trans hS.1 hq)
  cases hv'
  rw [h0] at hz hk
  have hall : ∀ k, okP n0 k → ad' k = ad0 k := fun k q => (hag k (okP_le q e2)).trans (e1 k q)
  have hS' : va_S A s.heap T'.heap (locs ++ L) := ⟨Nat.le_trans hS.1 (by rw [x1]; exact hz), fun q h1 h2 => by rw [x1, hk q (Nat.lt_of_lt_of_le h1 hS.1) (fun z => h2 (hfree q z))]; exact hS.2.1 q h1 h2, fun q hq => by
      rcases List.mem_append.mp hq with h9 | h9
      · exact hS.2.2 q h9
      · exact hfree _ (hL q h9)⟩
  have g := hn r h' hp ad' T'.heap (locs ++ L) lsA hall (by omega) ⟨by omega, by omega⟩ ⟨by omega, by omega⟩ (by rw [x1]; exact hP') (hD'.weaken (fun _ q _ z => hfree q.1 z)) hS' hH'
    ⟨fun j w hj => okV_le (hF.1 j w hj) hn', fun w hw => by
      rcases List.mem_append.mp hw with h9 | h9
      · cases r with
        | none => cases h9
        | some y => have h8 : w = y := by simpa using h9
                    rw [h8]; exact hr y rfl
      · exact okV_le (hrest w h9) hn'⟩ hl (by rw [lD_agree hF.1 hag]; exact hv)
  have ec : hC h' - c0 = hC h - c0 + cy := by omega
  have ez : hZ h' - z0 = hZ h - z0 + sy := by omega
  have es : (r.toList ++ rest).map (dV ad') = (r.map (dV ad')).toList ++ rest.map (dV ad) := by
    rw [List.map_append, map_agree hrest hag]
    cases r <;> rfl
  rw [ec, ez, es] at g
  obtain ⟨t2, a1, b1⟩ := g T' rfl X'
  exact ⟨t2, st t2 a1, b1⟩
def MI (y : MethodName) (md : MD) (n : Nat) : Prop := md.1 = y.cls ∧ Cond.code y md.2.1 md.2.2.1 md.2.2.2.1 ∈ gw ∧ Cond.initialized y.cls ∈ gw ∧ (y.cls ≠ "java/lang/invoke/MethodHandle" ∧ y.cls ≠ "java/lang/invoke/VarHandle" ∧ (parseMethodDescriptor y.desc).map (fun d => d.parameters.length) = some n)
theorem good_ws {w : Cond} (h : w ∈ gw) : GoodIn gw (w :: gw) := by
  intro x hx
  rcases List.mem_cons.mp hx with e | e
  · rw [e]; exact ⟨h, gw_good h⟩
  · exact ⟨e, gw_good e⟩
def rmOK (md mdY : MD) : Bool := decide (mdY.2.2.2.2.1 + 1 ≤ md.2.2.2.2.1) && decide (8 + (mdY.2.2.1 + 11) + mdY.2.2.2.2.2.1 ≤ md.2.2.2.2.2.1)
theorem rmOK_s {md mdY : MD} {mc ms cy sy : Nat} (h : rmOK md mdY = true) : (rmOf mdY cy sy).frames + 1 ≤ (rmOf md mc ms).frames ∧ 8 + (mdY.2.2.1 + 11) + (rmOf mdY cy sy).locals ≤ (rmOf md mc ms).locals := by
  unfold rmOK at h
  simp only [Bool.and_eq_true, decide_eq_true_eq] at h
  exact h
/-- a call of an instance method that makes nothing -/
def tt_cV (ci n : Nat) (Ct : CtT) (nx : TT) : TT := fun K R ls st h => n ≤ st.length ∧ (st.drop n).length ≤ 4 ∧ rcv (st.take n).reverse (fun a => isO h a ci) ∧ Ct (st.take n).reverse h (fun r h' => nx K R ls (r.toList ++ st.drop n) h')
def tt_cS (n : Nat) (Ct : CtT) (nx : TT) : TT := fun K R ls st h => n ≤ st.length ∧ (st.drop n).length ≤ 4 ∧ Ct (st.take n).reverse h (fun r h' => nx K R ls (r.toList ++ st.drop n) h')
/-- .. that makes cells -/
def tt_cW (ci n : Nat) (mc ms : List PV → Nat) (lc lz : Nat) (Ct : CtT) (nx : TT) : TT := fun K R ls st h => n ≤ st.length ∧ (st.drop n).length ≤ 4 ∧ rcv (st.take n).reverse (fun a => isO h a ci) ∧ hC h + mc (st.take n).reverse ≤ lc ∧ hZ h + ms (st.take n).reverse ≤ lz ∧ Ct (st.take n).reverse h (fun r h' => nx K R ls (r.toList ++ st.drop n) h')
theorem snd_cW {md : MD} {lc lz pc : Nat} {y : MethodName} {mdY : MD} {idx ci n : Nat} {mc ms : List PV → Nat} {Ct : CtT} {nx : TT} (hM : MetP y mdY mc ms Ct) (mi : MI y mdY n) (hi : Cond.instanceMethod y ∈ gw) (hs : Cond.selects y.cls y y ∈ gw) (hlk : Cond.methodLink md.1 idx y ∈ gw) (hc : (classes[ci]?).map (fun q => q.1) = some y.cls) (hrm : rmOK md mdY = true)
    (hd : decode md.2.1 pc = .ok (.invokevirtual idx, 3)) (hn : Snd md lc lz (pc + 3) nx) : Snd md lc lz pc (tt_cW ci (n + 1) mc ms lc lz Ct nx) := by
  intro p l e s m args below meth c D dA A mc' ms' c0 z0 ad0 n0 post Q F L HR K hK ls st h ht
  have hn := hn p l e s m args below meth c D dA A mc' ms' c0 z0 ad0 n0 post Q F L HR K hK
  obtain ⟨hlen, h4, hrc, hc1, hz1, hct⟩ := ht
  obtain ⟨a, ps, hav, ⟨ha, hsh⟩⟩ := rcv_s hrc
  intro ad H locs lsA e1 e2 e3 e4 hP hD hS hH hF hl hv
  have hrest : ∀ v ∈ st.drop (n + 1), okV (hN h) v := fun v q => hF.2 v (List.mem_of_mem_drop q)
  have hav' : ∀ v ∈ (st.take (n + 1)).reverse, okV (hN h) v := fun v q => hF.2 v (List.mem_of_mem_take (List.mem_reverse.mp q))
  have hM1 := hM l D dA ad h H.size (st.take (n + 1)).reverse _ hct hH hav'
  obtain ⟨q, hq1, hq2⟩ : ∃ q, classes[ci]? = some q ∧ q.1 = y.cls := by
    cases hx : classes[ci]? with
    | none => rw [hx] at hc; cases hc
    | some q => rw [hx] at hc; exact ⟨q, rfl, Option.some.inj hc⟩
  have hw := wo_get (dA := dA) (ad := ad) ha
  rw [cE_obj hsh] at hw
  have hrv := va_recv F.2.2.2.2.2.2.2.1 hP hq1 hw
  rw [hq2] at hrv
  have hlps : ps.length = n := by
    have := congrArg List.length hav
    rw [List.length_reverse, List.length_take] at this
    simp at this
    omega
  rw [hav] at hM1 hc1 hz1
  refine W.back (post := fun r h' => nx K post ls (r.toList ++ st.drop (n + 1)) h') (cy := mc (.inr (.inl (some a)) :: ps)) (sy := ms (.inr (.inl (some a)) :: ps)) (rest := st.drop (n + 1)) F.2.2.2.2.2.2.2.2.1 e1 e2 e3 e4 hD hS hF hrest hl hv (by omega) (by omega) ?_ (fun r h' hp => hn ls _ h' hp)
  refine va_runV (C := y.cls) (b := ad a) (As := ps.map (dV ad)) (nL := md.2.2.1) (n := n) ⟨F.1, F.2.1, F.2.2.1, F.2.2.2.2.2.1, F.2.2.2.2.2.2.1⟩ hM1 ⟨callB_of n F.2.2.2.2.2.2.1 (good_ws mi.2.1) rfl rfl rfl (F.2.2.2.2.2.2.1 _ mi.2.2.1) (F.2.2.2.2.2.2.1 _ hlk) mi.2.2.2 (rmOK_s hrm), F.2.2.2.2.2.2.1 _ hi, F.2.2.2.2.2.2.1 _ hs⟩ ⟨pc_blind, hrv, fun U hU hW => ⟨rfl, by rw [hU], by rw [hU]; exact hP, va_K.moved hW.alike F.2.2.2.2.2.2.2.1, hD.weaken (fun _ _ _ _ => trivial), va_AO.moved hW.alike F.2.2.2.2.2.2.2.2.2.2⟩⟩ rfl (by rw [List.length_map]; exact hlps) hv.1 ?_ (lv_room (sum8 h4)) hd ⟨by show hC h - c0 + _ ≤ mc'; omega, by show hZ h - z0 + _ ≤ ms'; omega⟩
  show st.map (dV ad) = _
  rw [take_map (n := n + 1), hav]
  simp [dV, va_rf]
theorem snd_cV {md : MD} {lc lz pc : Nat} {y : MethodName} {mdY : MD} {idx ci n : Nat} {Ct : CtT} {nx : TT} (hM : MetP y mdY (fun _ => 0) (fun _ => 0) Ct) (mi : MI y mdY n) (hi : Cond.instanceMethod y ∈ gw) (hs : Cond.selects y.cls y y ∈ gw) (hlk : Cond.methodLink md.1 idx y ∈ gw) (hc : (classes[ci]?).map (fun q => q.1) = some y.cls) (hrm : rmOK md mdY = true)
    (hd : decode md.2.1 pc = .ok (.invokevirtual idx, 3)) (hn : Snd md lc lz (pc + 3) nx) : Snd md lc lz pc (tt_cV ci (n + 1) Ct nx) := by
  intro p l e s m args below meth c D dA A mc' ms' c0 z0 ad0 n0 post Q F L HR K hK ls st h ht
  have hn := hn p l e s m args below meth c D dA A mc' ms' c0 z0 ad0 n0 post Q F L HR K hK
  obtain ⟨hlen, h4, hrc, hct⟩ := ht
  obtain ⟨a, ps, hav, ⟨ha, hsh⟩⟩ := rcv_s hrc
  intro ad H locs lsA e1 e2 e3 e4 hP hD hS hH hF hl hv
  have hrest : ∀ v ∈ st.drop (n + 1), okV (hN h) v := fun v q => hF.2 v (List.mem_of_mem_drop q)
  have hav' : ∀ v ∈ (st.take (n + 1)).reverse, okV (hN h) v := fun v q => hF.2 v (List.mem_of_mem_take (List.mem_reverse.mp q))
  have hM1 := hM l D dA ad h H.size (st.take (n + 1)).reverse _ hct hH hav'
  obtain ⟨q, hq1, hq2⟩ : ∃ q, classes[ci]? = some q ∧ q.1 = y.cls := by
    cases hx : classes[ci]? with
    | none => rw [hx] at hc; cases hc
    | some q => rw [hx] at hc; exact ⟨q, rfl, Option.some.inj hc⟩
  have hw := wo_get (dA := dA) (ad := ad) ha
  rw [cE_obj hsh] at hw
  have hrv := va_recv F.2.2.2.2.2.2.2.1 hP hq1 hw
  rw [hq2] at hrv
  have hlps : ps.length = n := by
    have := congrArg List.length hav
    rw [List.length_reverse, List.length_take] at this
    simp at this
    omega
  rw [hav] at hM1
  refine W.back (post := fun r h' => nx K post ls (r.toList ++ st.drop (n + 1)) h') (cy := 0) (sy := 0) (rest := st.drop (n + 1)) F.2.2.2.2.2.2.2.2.1 e1 e2 e3 e4 hD hS hF hrest hl hv (by omega) (by omega) ?_ (fun r h' hp => hn ls _ h' hp)
  refine va_runV (C := y.cls) (b := ad a) (As := ps.map (dV ad)) (nL := md.2.2.1) (n := n) ⟨F.1, F.2.1, F.2.2.1, F.2.2.2.2.2.1, F.2.2.2.2.2.2.1⟩ hM1 ⟨callB_of n F.2.2.2.2.2.2.1 (good_ws mi.2.1) rfl rfl rfl (F.2.2.2.2.2.2.1 _ mi.2.2.1) (F.2.2.2.2.2.2.1 _ hlk) mi.2.2.2 (rmOK_s hrm), F.2.2.2.2.2.2.1 _ hi, F.2.2.2.2.2.2.1 _ hs⟩ ⟨pc_blind, hrv, fun U hU hW => ⟨rfl, by rw [hU], by rw [hU]; exact hP, va_K.moved hW.alike F.2.2.2.2.2.2.2.1, hD.weaken (fun _ _ _ _ => trivial), va_AO.moved hW.alike F.2.2.2.2.2.2.2.2.2.2⟩⟩ rfl (by rw [List.length_map]; exact hlps) hv.1 ?_ (lv_room (sum8 h4)) hd ⟨by show hC h - c0 + 0 ≤ mc'; omega, by show hZ h - z0 + 0 ≤ ms'; omega⟩
  show st.map (dV ad) = _
  rw [take_map (n := n + 1), hav]
  simp [dV, va_rf]
theorem snd_cS {md : MD} {lc lz pc : Nat} {y : MethodName} {mdY : MD} {idx n : Nat} {Ct : CtT} {nx : TT} (hM : MetP y mdY (fun _ => 0) (fun _ => 0) Ct) (mi : MI y mdY n) (hs : Cond.static y ∈ gw) (hlk : Cond.methodLink md.1 idx y ∈ gw) (hrm : rmOK md mdY = true)
    (hd : decode md.2.1 pc = .ok (.invokestatic idx, 3)) (hn : Snd md lc lz (pc + 3) nx) : Snd md lc lz pc (tt_cS n Ct nx) := by
  intro p l e s m args below meth c D dA A mc' ms' c0 z0 ad0 n0 post Q F L HR K hK ls st h ht
  have hn := hn p l e s m args below meth c D dA A mc' ms' c0 z0 ad0 n0 post Q F L HR K hK
  obtain ⟨hlen, h4, hct⟩ := ht
  intro ad H locs lsA e1 e2 e3 e4 hP hD hS hH hF hl hv
  have hrest : ∀ v ∈ st.drop n, okV (hN h) v := fun v q => hF.2 v (List.mem_of_mem_drop q)
  have hav' : ∀ v ∈ (st.take n).reverse, okV (hN h) v := fun v q => hF.2 v (List.mem_of_mem_take (List.mem_reverse.mp q))
  have hM1 := hM l D dA ad h H.size (st.take n).reverse _ hct hH hav'
  refine W.back (post := fun r h' => nx K post ls (r.toList ++ st.drop n) h') (cy := 0) (sy := 0) (rest := st.drop n) F.2.2.2.2.2.2.2.2.1 e1 e2 e3 e4 hD hS hF hrest hl hv (by omega) (by omega) ?_ (fun r h' hp => hn ls _ h' hp)
  refine va_runS (As := (st.take n).reverse.map (dV ad)) (nL := md.2.2.1) (n := n) ⟨F.1, F.2.1, F.2.2.1, F.2.2.2.2.2.1, F.2.2.2.2.2.2.1⟩ hM1 ⟨callB_of n F.2.2.2.2.2.2.1 (good_ws mi.2.1) rfl rfl rfl (F.2.2.2.2.2.2.1 _ mi.2.2.1) (F.2.2.2.2.2.2.1 _ hlk) mi.2.2.2 (rmOK_s hrm), F.2.2.2.2.2.2.1 _ hs⟩ ⟨pc_blind, fun U hU hW => ⟨rfl, by rw [hU], by rw [hU]; exact hP, va_K.moved hW.alike F.2.2.2.2.2.2.2.1, hD.weaken (fun _ _ _ _ => trivial), va_AO.moved hW.alike F.2.2.2.2.2.2.2.2.2.2⟩⟩ rfl (by simp; omega) hv.1 ?_ (lv_room (sum8 h4)) hd ⟨by show hC h - c0 + 0 ≤ mc'; omega, by show hZ h - z0 + 0 ≤ ms'; omega⟩
  exact take_map
