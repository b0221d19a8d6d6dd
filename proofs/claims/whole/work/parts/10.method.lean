/-! Math.min and max, arraycopy; a method's contract out of its blocks -/
def tt_min (nx : TT) : TT := fun K R ls st h => pII st (fun x y r => r.length ≤ 4 ∧ nx K R ls (.inl (min x y) :: r) h)
def tt_max (nx : TT) : TT := fun K R ls st h => pII st (fun x y r => r.length ≤ 4 ∧ nx K R ls (.inl (max x y) :: r) h)
theorem snd_min {md : MD} {lc lz pc idx : Nat} {nx : TT} (hd : decode md.2.1 pc = .ok (.invokestatic idx, 3)) (hlk : Cond.methodLink md.1 idx Lib.Math.min.name ∈ gw) (hst : Cond.static Lib.Math.min.name ∈ gw) (hini : Cond.initialized "java/lang/Math" ∈ gw) (hcd : Cond.code Lib.Math.min.name Lib.Math.min.code 2 (some .int) ∈ gw) (hrm : 1 ≤ md.2.2.2.2.1 ∧ 21 ≤ md.2.2.2.2.2.1) (hn : Snd md lc lz (pc + 3) nx) : Snd md lc lz pc (tt_min nx) := by
  intro p l e s m args below meth c D dA A mc ms c0 z0 ad0 n0 post Q F L HR K hK ls st h ht
  have hn := hn p l e s m args below meth c D dA A mc ms c0 z0 ad0 n0 post Q F L HR K hK
  obtain ⟨x, y, r, rfl, hr4, ht⟩ := pII_s ht
  intro ad H locs lsA e1 e2 e3 e4 hP hD hS hH hF hl hv
  have hx : inR x := okF_2nd hF
  have hy : inR y := okF_top hF
  have hm : inR (min x y) := by have a := hx.1; have b := hx.2; have c := hy.1; have d := hy.2; constructor <;> omega
  have g := hn ls (.inl (min x y) :: r) h ht ad H locs lsA e1 e2 e3 e4 hP hD hS hH (okF_push (okF_pop (okF_pop hF)) hm) hl hv
  refine va_mmin F.1 F.2.1 (F.2.2.1.trans hv.1.symm) F.2.2.2.2.2.1 (F.2.2.2.2.2.2.1 _ hlk) (F.2.2.2.2.2.2.1 _ hst) (F.2.2.2.2.2.2.1 _ hini) (F.2.2.2.2.2.2.1 _ hcd) hrm.1 (by have := sum8 (ad := ad) hr4; show _ + 13 ≤ md.2.2.2.2.2.1; omega) (by show hC h - c0 ≤ mc; omega) (by show hZ h - z0 ≤ ms; omega) hd ?_
  have em : (if Int32.ofInt y < Int32.ofInt x then Int32.ofInt y else Int32.ofInt x) = Int32.ofInt (min x y) := by
    simp only [i32_lt hy hx]
    split <;> (congr 1; omega)
  rw [em]
  exact g
theorem snd_max {md : MD} {lc lz pc idx : Nat} {nx : TT} (hd : decode md.2.1 pc = .ok (.invokestatic idx, 3)) (hlk : Cond.methodLink md.1 idx Lib.Math.max.name ∈ gw) (hst : Cond.static Lib.Math.max.name ∈ gw) (hini : Cond.initialized "java/lang/Math" ∈ gw) (hcd : Cond.code Lib.Math.max.name Lib.Math.max.code 2 (some .int) ∈ gw) (hrm : 1 ≤ md.2.2.2.2.1 ∧ 21 ≤ md.2.2.2.2.2.1) (hn : Snd md lc lz (pc + 3) nx) : Snd md lc lz pc (tt_max nx) := by
  intro p l e s m args below meth c D dA A mc ms c0 z0 ad0 n0 post Q F L HR K hK ls st h ht
  have hn := hn p l e s m args below meth c D dA A mc ms c0 z0 ad0 n0 post Q F L HR K hK
  obtain ⟨x, y, r, rfl, hr4, ht⟩ := pII_s ht
  intro ad H locs lsA e1 e2 e3 e4 hP hD hS hH hF hl hv
  have hx : inR x := okF_2nd hF
  have hy : inR y := okF_top hF
  have hm : inR (max x y) := by have a := hx.1; have b := hx.2; have c := hy.1; have d := hy.2; constructor <;> omega
  have g := hn ls (.inl (max x y) :: r) h ht ad H locs lsA e1 e2 e3 e4 hP hD hS hH (okF_push (okF_pop (okF_pop hF)) hm) hl hv
  refine va_mmax F.1 F.2.1 (F.2.2.1.trans hv.1.symm) F.2.2.2.2.2.1 (F.2.2.2.2.2.2.1 _ hlk) (F.2.2.2.2.2.2.1 _ hst) (F.2.2.2.2.2.2.1 _ hini) (F.2.2.2.2.2.2.1 _ hcd) hrm.1 (by have := sum8 (ad := ad) hr4; show _ + 13 ≤ md.2.2.2.2.2.1; omega) (by show hC h - c0 ≤ mc; omega) (by show hZ h - z0 ≤ ms; omega) hd ?_
  have em : (if Int32.ofInt x < Int32.ofInt y then Int32.ofInt y else Int32.ofInt x) = Int32.ofInt (max x y) := by
    simp only [i32_lt hx hy]
    split <;> (congr 1; omega)
  rw [em]
  exact g
def pCP (st : List PV) (f : Nat → Int → Nat → Int → Int → List PV → Prop) : Prop := match st with
  | .inl n :: .inl d :: .inr (.inl (some a)) :: .inl s :: .inr (.inl (some b)) :: r => f b s a d n r
  | _ => False
theorem pCP_s {st : List PV} {f : Nat → Int → Nat → Int → Int → List PV → Prop} (h : pCP st f) : ∃ b s a d n r, st = .inl n :: .inl d :: .inr (.inl (some a)) :: .inl s :: .inr (.inl (some b)) :: r ∧ f b s a d n r := by
  unfold pCP at h; split at h
  · exact ⟨_, _, _, _, _, _, rfl, h⟩
  · exact h.elim
def cpF (h : PH) (b : Nat) (s : Int) (a : Nat) (d n : Int) : Int → Int := fun j => if d ≤ j ∧ j < d + n then gI h b (s + (j - d)) else gI h a j
def tt_acp (nx : TT) : TT := fun K R ls st h => pCP st (fun b s a d n r => isAr h b 0 ∧ isAr h a 0 ∧ 0 ≤ s ∧ 0 ≤ d ∧ 0 ≤ n ∧ s + n ≤ lnA b ∧ d + n ≤ lnA a ∧ r.length ≤ 4 ∧ nx K R ls r (sA h a (cpF h b s a d n)))
theorem okH_sA {h : PH} (hh : okH h) {a : Nat} {f : Int → Int} (hl : isLg a = false) (hf : ∀ j, inR (f j)) : okH (sA h a f) := by
  refine ⟨fun b j => ?_, hh.2⟩
  rw [gI_sA]
  by_cases e : b = a
  · rw [if_pos e, if_neg (by rw [e, hl]; decide)]; exact hf j
  · rw [if_neg e]; exact hh.1 b j
theorem snd_acp {md : MD} {lc lz pc idx : Nat} {nx : TT} (hd : decode md.2.1 pc = .ok (.invokestatic idx, 3)) (hlk : Cond.methodLink md.1 idx arraycopyName ∈ gw) (hnt : Cond.native arraycopyName ∈ gw) (hst : Cond.static arraycopyName ∈ gw) (hini : Cond.initialized "java/lang/System" ∈ gw) (hrm : 1 ≤ md.2.2.2.2.1 ∧ 8 + (nativeFrameWords "java/lang/System" "arraycopy" 5 + 11) ≤ md.2.2.2.2.2.1) (hn : Snd md lc lz (pc + 3) nx) : Snd md lc lz pc (tt_acp nx) := by
  intro p l e s m args below meth c D dA A mc ms c0 z0 ad0 n0 post Q F L HR K hK ls st h ht
  have hn := hn p l e s m args below meth c D dA A mc ms c0 z0 ad0 n0 post Q F L HR K hK
  obtain ⟨b, sp, a, dp, n, r, rfl, ⟨hb, nb, hsb⟩, ⟨ha, na, hsa⟩, h0, h1, h2, h3, h4, hr4, ht⟩ := pCP_s ht
  intro ad H locs lsA e1 e2 e3 e4 hP hD hS hH hF hl hv
  rw [lnA_of hsb] at h3
  rw [lnA_of hsa] at h4
  have hn_ : inR n := okF_top hF
  have hd_ : inR dp := okF_2nd hF
  have hs_ : inR sp := okF_top (okF_pop (okF_pop (okF_pop hF)))
  have hwa := wo_get (dA := dA) (ad := ad) ha
  rw [cE_arr hsa (by decide) (by decide)] at hwa
  have hwb := wo_get (dA := dA) (ad := ad) hb
  rw [cE_arr hsb (by decide) (by decide)] at hwb
  have nn : ∀ {z : Int}, 0 ≤ z → inR z → ¬ Int32.ofInt z < 0 := fun h9 hz q => by have := (i32_lt hz inR_0).mp q; omega
  refine va_copyi (t0 := 0) (t1 := 0) (ty := .int) F.1 F.2.1 (F.2.2.1.trans hv.1.symm) F.2.2.2.2.2.1 (F.2.2.2.2.2.2.1 _ hlk) (F.2.2.2.2.2.2.1 _ hnt) (F.2.2.2.2.2.2.1 _ hst) (F.2.2.2.2.2.2.1 _ hini) F.2.2.2.2.2.2.2.1 hP hD hS b a hwb hwa rfl rfl rfl (nn h0 hs_) (nn h1 hd_) (nn h2 hn_) (by rw [i32_nat hs_, i32_nat hn_]; omega) (by rw [i32_nat hd_, i32_nat hn_]; omega) (fun _ _ => rfl) hrm.1 (by have := sum8 (ad := ad) hr4; have := hrm.2; show _ + _ ≤ md.2.2.2.2.2.1; omega) hd (fun H' locs' hP' hD' hS' => ?_)
  have hset : (wo dA ad h).set a (ad a, .inl (dA 0, na, .inl (va_cpy (fun i : Nat => Int32.ofInt (gI h b i)) (fun i : Nat => Int32.ofInt (gI h a i)) (Int32.ofInt sp).toNatClampNeg (Int32.ofInt dp).toNatClampNeg (Int32.ofInt n).toNatClampNeg))) = wo dA ad (sA h a (cpF h b sp a dp n)) := by
    refine wo_set ha rfl ?_ (fun q hq => cE_same (fun j => by rw [gI_sA, if_neg hq]) (fun _ => rfl))
    rw [cE_arr hsa (by decide) (by decide)]
    congr 4
    funext j
    rw [i32_nat hs_, i32_nat hd_, i32_nat hn_, gI_sA, if_pos rfl]
    unfold va_cpy cpF
    by_cases q : dp ≤ (j : Int) ∧ (j : Int) < dp + n
    · rw [if_pos q, if_pos (by omega)]
      congr 2
      omega
    · rw [if_neg q, if_neg (by omega)]
  rw [hset] at hP' hD'
  have hF5 := okF_pop (okF_pop (okF_pop (okF_pop (okF_pop hF))))
  exact hn ls r (sA h a (cpF h b sp a dp n)) ht ad H' locs' lsA e1 e2 e3 e4 hP' hD' hS' (okH_sA hH (isLg_arr hsa (by decide)) (fun j => by unfold cpF; split; exact okH_int hH (isLg_arr hsb (by decide)) _; exact okH_int hH (isLg_arr hsa (by decide)) _)) hF5 hl hv
/-- loops: an invariant at each cut, and a measure that falls -/
theorem floyd {md : MD} {lc lz : Nat} {cs : List (Nat × TT)} (hs : ∀ q ∈ cs, Snd md lc lz q.1 q.2) {p : Program} {l : Launch} {e : Env} {s : State} {m : MethodId} {args : Array Value} {below : List Frame} {meth : Method} {c : Code} {D : va_G} {dA : Nat → ClassId} {A : Nat → Prop} {mc ms c0 z0 : Nat} {ad0 : Nat → Nat} {n0 : Nat} {post : TR} {Q : State → Prop}
    (F : Fx md p s m args meth c D dA A) (L : lc ≤ c0 + mc ∧ lz ≤ z0 + ms) (HR : ∀ pc ls r h, isRet md pc r → post r h → Wm md p l e s m args below meth c D dA A mc ms c0 z0 ad0 n0 Q pc ls r.toList h)
    {I : Nat → LSt → PH → Prop} {μ : Nat → LSt → PH → Nat} (hI : ∀ pc ls h, I pc ls h → ∃ q ∈ cs, q.1 = pc) (hv : ∀ q ∈ cs, ∀ ls h, I q.1 ls h → q.2 (fun pc' ls' h' => I pc' ls' h' ∧ μ pc' ls' h' < μ q.1 ls h) post ls [] h) :
    ∀ (n pc : Nat) (ls : LSt) (h : PH), μ pc ls h < n → I pc ls h → Wm md p l e s m args below meth c D dA A mc ms c0 z0 ad0 n0 Q pc ls [] h := by
  intro n
  induction n with
  | zero => intro pc ls h h1; omega
  | succ n ih =>
    intro pc ls h h1 h2
    obtain ⟨q, hq, rfl⟩ := hI pc ls h h2
    refine hs q hq p l e s m args below meth c D dA A mc ms c0 z0 ad0 n0 post Q F L HR (fun pc' ls' h' => I pc' ls' h' ∧ μ pc' ls' h' < μ q.1 ls h) (fun pc' ls' h' hk => ih pc' ls' h' (by omega) hk.1) ls [] h (hv q hq ls h h2)
def entA : List PV → LSt
  | [] => []
  | .inr (.inr z) :: r => some (.inr (.inr z)) :: none :: entA r
  | v :: r => some v :: entA r
def fitL : Nat → LSt → LSt
  | 0, _ => []
  | n + 1, [] => none :: fitL n []
  | n + 1, x :: r => x :: fitL n r
theorem fitL_len (n : Nat) (ls : LSt) : (fitL n ls).length = n := by
  induction n generalizing ls with
  | zero => rfl
  | succ n ih => cases ls <;> simp [fitL, ih]
theorem fitL_nth {n j : Nat} {ls : LSt} {v : PV} (h : nth (fitL n ls) j = some v) : nth ls j = some v := by
  induction n generalizing ls j with
  | zero => cases h
  | succ n ih =>
    cases ls with
    | nil =>
      cases j with
      | zero => cases h
      | succ j => have := ih (ls := []) (j := j) h; cases this
    | cons x r =>
      cases j with
      | zero => exact h
      | succ j => exact ih (ls := r) (j := j) h
theorem entA_args {ad : Nat → Nat} {av : List PV} {j k : Nat} {v : PV} (h : nth (entA av) j = some v) : (k + j, dV ad v) ∈ lv_args k (av.map (dV ad)) := by
  induction av generalizing j k with
  | nil => cases h
  | cons w r ih =>
    match w, h with
    | .inr (.inr z), h =>
      match j, h with
      | 0, h => cases h; exact List.mem_cons_self
      | 1, h => cases h
      | j + 2, h =>
        have := ih (j := j) (k := k + 2) h
        rw [show k + (j + 2) = k + 2 + j by omega]
        exact List.mem_cons_of_mem _ this
    | .inl z, h =>
      match j, h with
      | 0, h => cases h; exact List.mem_cons_self
      | j + 1, h =>
        have := ih (j := j) (k := k + 1) h
        rw [show k + (j + 1) = k + 1 + j by omega]
        exact List.mem_cons_of_mem _ this
    | .inr (.inl none), h =>
      match j, h with
      | 0, h => cases h; exact List.mem_cons_self
      | j + 1, h =>
        have := ih (j := j) (k := k + 1) h
        rw [show k + (j + 1) = k + 1 + j by omega]
        exact List.mem_cons_of_mem _ this
    | .inr (.inl (some a)), h =>
      match j, h with
      | 0, h => cases h; exact List.mem_cons_self
      | j + 1, h =>
        have := ih (j := j) (k := k + 1) h
        rw [show k + (j + 1) = k + 1 + j by omega]
        exact List.mem_cons_of_mem _ this
theorem lg_cons (v : Value) (vs : List Value) : (lg_sl (v :: vs)).length = (lg_sl [v]).length + (lg_sl vs).length := by
  simp [lg_sl, List.flatMap_cons]
theorem entA_len {ad : Nat → Nat} (av : List PV) : (lg_sl (av.map (dV ad))).length = (entA av).length := by
  induction av with
  | nil => rfl
  | cons w r ih =>
    rw [List.map_cons, lg_cons, ih]
    match w with
    | .inr (.inr z) => show 2 + _ = (entA r).length + 1 + 1; omega
    | .inl z => show 1 + _ = (entA r).length + 1; omega
    | .inr (.inl none) => show 1 + _ = (entA r).length + 1; omega
    | .inr (.inl (some a)) => show 1 + _ = (entA r).length + 1; omega
theorem entA_ok {n : Nat} {av : List PV} (hav : ∀ v ∈ av, okV n v) {j : Nat} {v : PV} (h : nth (entA av) j = some v) : okV n v := by
  induction av generalizing j with
  | nil => cases h
  | cons w r ih =>
    have hr : ∀ v ∈ r, okV n v := fun v q => hav v (List.mem_cons_of_mem _ q)
    have hw := hav w List.mem_cons_self
    match w, h, hw with
    | .inr (.inr z), h, hw =>
      match j, h with
      | 0, h => cases h; exact hw
      | 1, h => cases h
      | j + 2, h => exact ih hr (j := j) h
    | .inl z, h, hw =>
      match j, h with
      | 0, h => cases h; exact hw
      | j + 1, h => exact ih hr (j := j) h
    | .inr (.inl none), h, hw =>
      match j, h with
      | 0, h => cases h; exact hw
      | j + 1, h => exact ih hr (j := j) h
    | .inr (.inl (some a)), h, hw =>
      match j, h with
      | 0, h => cases h; exact hw
      | j + 1, h => exact ih hr (j := j) h
/-- a method: its blocks are sound, its contract holds of them -/
theorem met_of {y : MethodName} {md : MD} {mc ms : List PV → Nat} {Ct : CtT} {body : Nat → Nat → TT} {cs : Nat → Nat → List (Nat × TT)} (hy : plainName y.cls = true) (hown : md.1 = y.cls) (hin : md.2.2.2.2.2.2 = true → y.name = "<init>") (hb : ∀ lc lz, Snd md lc lz 0 (body lc lz)) (hcs : ∀ lc lz, ∀ q ∈ cs lc lz, Snd md lc lz q.1 q.2)
    (vc : ∀ (av : List PV) (h : PH) (post : TR), Ct av h post → okH h → (∀ v ∈ av, okV (hN h) v) → (entA av).length ≤ md.2.2.1 ∧ ∃ (I : Nat → LSt → PH → Prop) (μ : Nat → LSt → PH → Nat), (∀ pc ls h', I pc ls h' → ∃ q ∈ cs (hC h + mc av) (hZ h + ms av), q.1 = pc) ∧
      (∀ q ∈ cs (hC h + mc av) (hZ h + ms av), ∀ ls h', I q.1 ls h' → q.2 (fun pc' ls' h'' => I pc' ls' h'' ∧ μ pc' ls' h'' < μ q.1 ls h') (fun r h'' => post r h'' ∧ hC h'' = hC h + mc av ∧ hZ h'' = hZ h + ms av) ls [] h') ∧
      body (hC h + mc av) (hZ h + ms av) I (fun r h'' => post r h'' ∧ hC h'' = hC h + mc av ∧ hZ h'' = hZ h + ms av) (fitL md.2.2.1 (entA av)) [] h) : MetP y md mc ms Ct := by
  intro l D dA ad h sz av post hct hH hav
  obtain ⟨hlen, I, μ, hI, hvc, hbody⟩ := vc av h post hct hH hav
  refine Met.ofW (cc := md.2.1) (maxL := md.2.2.1) (ret := md.2.2.2.1) hy rfl ?_
  intro p e s m args below meth c s₁ B hml hv
  obtain ⟨rfl, hsz, hP, hK, hD0, hO⟩ := hv
  subst hsz
  have hD := hD0.self (sz := s.heap.size)
  have hts : ∀ w ∈ gw, w.before (av.map (dV ad)).toArray s = true := fun w hw => atoms_spec (ws := Cond.code y md.2.1 md.2.2.1 md.2.2.2.1 :: gw) B.pre w (List.mem_cons_of_mem _ hw)
  have F : Fx md p s m (av.map (dV ad)).toArray meth c D dA (va_A (wo dA ad h) s.heap.size) := ⟨B.exec, B.bytes, hml, B.returns, B.notSynchronized, by rw [hown]; exact findClass_of_methodNamed B.named, hts, hK, fun q hq => Or.inr hq, fun hi => by rw [← hin hi]; exact (name_of_methodNamed B.named B.method).1, hO⟩
  have HR : ∀ pc ls r h', isRet md pc r → (post r h' ∧ hC h' = hC h + mc av ∧ hZ h' = hZ h + ms av) → Wm md p l e s m (av.map (dV ad)).toArray below meth c D dA (va_A (wo dA ad h) s.heap.size) (mc av) (ms av) (hC h) (hZ h) ad (hN h) (MQ below (fun _ st oc t => QB D dA ad (hN h) (hC h + mc av) (hZ h + ms av) (va_A (wo dA ad h) s.heap.size) post oc t ∧ va_F (va_A (wo dA ad h) s.heap.size) st t) (av.map (dV ad)).toArray s (mc av) (ms av) (va_A (wo dA ad h) s.heap.size)) pc ls r.toList h' := by
    intro pc ls r h' hret hp
    intro ad' H locs lsA e1 e2 e3 e4 hP' hD' hS' hH' hF' hl' hv'
    have hq : ∀ t : State, t.heap = H → s.WarmedH t.vm → QB D dA ad (hN h) (hC h + mc av) (hZ h + ms av) (va_A (wo dA ad h) s.heap.size) post (.returned (r.map (dV ad'))) t ∧ va_F (va_A (wo dA ad h) s.heap.size) s t := fun t ht _ => ⟨⟨r, h', ad', rfl, hp.1, e1, e2, by rw [ht]; exact hP', hD', hH', fun v hv9 => hF'.2 v (by rw [hv9]; simp), hp.2.1, hp.2.2⟩, hS'.F ht⟩
    have ec : hC h' - hC h = mc av := by rw [hp.2.1]; omega
    have ez : hZ h' - hZ h = ms av := by rw [hp.2.2]; omega
    rw [ec, ez]
    rcases hret with ⟨rfl, hr, hd⟩ | ⟨z, rfl, hd, hr⟩ | ⟨z, rfl, hd, hr⟩ | ⟨o, rfl, hd, n, hr⟩
    · exact W.vret F.1 F.2.1 (F.2.2.2.1.trans hr) hq hS'.2.2 hd F.2.2.2.2.1
    · rcases hr with hr | ⟨hr, hz⟩ | ⟨hr, hz⟩
      · exact W.iret F.1 F.2.1 (F.2.2.2.1.trans hr) hq hS'.2.2 hd F.2.2.2.2.1
      · exact W.zret F.1 F.2.1 (F.2.2.2.1.trans hr) (by rcases hz with rfl | rfl <;> decide) hq hS'.2.2 hd F.2.2.2.2.1
      · refine W.zret F.1 F.2.1 (F.2.2.2.1.trans hr) ?_ hq hS'.2.2 hd F.2.2.2.2.1
        have := nar_byte hz.1 hz.2
        rw [vp_nar_byte] at this
        have e9 := pk_nb (Int32.ofInt z)
        rw [this] at e9
        exact e9
    · exact W.lret F.1 F.2.1 (F.2.2.2.1.trans hr) hq hS'.2.2 hd F.2.2.2.2.1
    · refine W.aret F.1 F.2.1 (F.2.2.2.1.trans hr) (Or.inl ⟨n, rfl⟩) ?_ hq hS'.2.2 hd F.2.2.2.2.1
      cases o with
      | none => exact Or.inl rfl
      | some k => exact Or.inr ⟨_, rfl⟩
  rw [lg_entry_eq]
  have hl := lv_entry (av.map (dV ad)) (n := md.2.2.1) (by rw [entA_len]; exact hlen)
  have hl2 : lv_has ((lg_sl (av.map (dV ad)) ++ List.replicate (md.2.2.1 - (lg_sl (av.map (dV ad))).length) Slot.unset).toArray) md.2.2.1 (lD ad (fitL md.2.2.1 (entA av))) := by
    refine ⟨hl.1, hl.2.1, fun q hq => hl.2.2 q ?_⟩
    obtain ⟨v, h1, h2⟩ := lD_mem.mp hq
    have h3 := entA_args (ad := ad) (k := 0) (fitL_nth h1)
    rw [Nat.zero_add] at h3
    obtain ⟨a, b⟩ := q
    simp only at h2
    rw [h2]
    exact h3
  have g := hb (hC h + mc av) (hZ h + ms av) p l e s m (av.map (dV ad)).toArray below meth c D dA (va_A (wo dA ad h) s.heap.size) (mc av) (ms av) (hC h) (hZ h) ad (hN h) _ _ F ⟨Nat.le_refl _, Nat.le_refl _⟩ HR I (fun pc ls h' hi => floyd (hcs _ _) F ⟨Nat.le_refl _, Nat.le_refl _⟩ HR hI hvc _ pc ls h' (Nat.lt_succ_self _) hi) _ [] h hbody ad s.heap [] _ (fun _ _ => rfl) (Nat.le_refl _) ⟨Nat.le_refl _, Nat.le_add_right _ _⟩ ⟨Nat.le_refl _, Nat.le_add_right _ _⟩ hP hD va_S.rf hH ⟨fun j v hj => entA_ok hav (fitL_nth hj), fun v hv => by cases hv⟩ (fitL_len _ _) hl2
  rw [Nat.sub_self, Nat.sub_self] at g
  exact g
