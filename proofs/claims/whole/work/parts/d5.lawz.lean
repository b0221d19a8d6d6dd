/-! THE LAW from its entry; the claim -/
theorem kins_Fi : Cond.instantiable R_Fi 6 ∈ gw := gw_t1 196 (by decide +kernel) (by decide +kernel)
theorem kins_Lo : Cond.instantiable R_Lo 13 ∈ gw := gw_t2 13 (by decide +kernel) (by decide +kernel)
theorem kins_Re : Cond.instantiable R_Re 11 ∈ gw := gw_t1 73 (by decide +kernel) (by decide +kernel)
theorem kins_Sh : Cond.instantiable R_Sh 4 ∈ gw := gw_t2 63 (by decide +kernel) (by decide +kernel)
theorem kins_Ta : Cond.instantiable R_Ta 19 ∈ gw := gw_t1 117 (by decide +kernel) (by decide +kernel)
theorem kins_Wa : Cond.instantiable R_Wa 7 ∈ gw := gw_t1 221 (by decide +kernel) (by decide +kernel)
theorem kins_Wo : Cond.instantiable R_Wo 2 ∈ gw := gw_t1 33 (by decide +kernel) (by decide +kernel)
theorem kins_Wl : Cond.instantiable R_Wl 2 ∈ gw := gw_t1 26 (by decide +kernel) (by decide +kernel)
theorem kins_Ho : Cond.instantiable R_Ho 18 ∈ gw := gw_t1 18 (by decide +kernel) (by decide +kernel)
theorem kins_Mo : Cond.instantiable R_Mo 67 ∈ gw := gw_t5 93 (by decide +kernel) (by decide +kernel)
theorem kth_0 : Cond.laysStatic Bundle.tN "UNASSIGNED_STACK" Bundle.steD ∈ lw_tbl := List.mem_of_getElem? (i := 1126) (by decide +kernel)
theorem kth_1 : Cond.laysStatic Bundle.tN "SUPPRESSED_SENTINEL" Bundle.listD ∈ lw_tbl := List.mem_of_getElem? (i := 1128) (by decide +kernel)
theorem kth_2 : Cond.declares (Bundle.init0 "java/lang/RuntimeException") ∈ lw_tbl := List.mem_of_getElem? (i := 1102) (by decide +kernel)
theorem kth_3 : Cond.declares (Bundle.init0 "java/lang/Exception") ∈ lw_tbl := List.mem_of_getElem? (i := 1104) (by decide +kernel)
theorem kth_4 : Cond.declares (Bundle.init0 Bundle.tN) ∈ lw_tbl := List.mem_of_getElem? (i := 1106) (by decide +kernel)
theorem kth_5 : Cond.castable "java/util/NoSuchElementException" "java/util/NoSuchElementException" ∈ lw_tbl := List.mem_of_getElem? (i := 1101) (by decide +kernel)
theorem k_ao : Cond.arrayOver (.object "CosetHouse$Word") ∈ lw_tbl := List.mem_of_getElem? (i := 140) (by decide +kernel)
def R_law : String := "CosetHouseLaw"
def lw_P (b : Addr) (xs : List Int32) (args : Array Value) (s : State) : Prop := args = #[.ref b] ∧ s.IntsAt b xs ∧ xs.length ≤ 3072 ∧ (Jvm.Cond.and given_1 narrow_1).before args s = true
def lw_Q (_ : Array Value) (s : State) (o : Outcome) (t : State) : Prop := o = .returned (some (.int 1)) ∧ Framed s o t [] 41331 8972110
def lw_Z (below : List Frame) (a : Array Value) (s : State) : State → Prop := fun t => ∃ o, t.status = .running ∧ Ended t below o ∧ lw_Q a s o t
/-- the law's own end, with 1 on the stack, nothing written that was there before, its room as the claim has it -/
theorem lw_ret {p : Program} {l : Launch} {e : Env} {s : State} {m : MethodId} {below : List Frame} {meth : Method} {c : Code} {b : Nat} (hx : p.tables.exec = Jvm.exec) (hb : c.code = code) (hr : meth.sig.returnType = ret) (hlocks : meth.locks = false) {pc : Nat} {H : Heap} {ls : Array Slot} (hdg : decode code pc = .ok (.ireturn, 1)) : W p l e room_1 s m #[Value.ref b] below meth c H [] 41331 8972110 (lw_Z below #[Value.ref b] s) (F0 m pc ls [.int 1]) := by
  intro T hT X
  obtain ⟨fs, hret, hrun, hended, hW, hframe⟩ := X.leave (v := some (.int 1)) (hlocks := hlocks) (fun h => by rw [hr] at h; cases h)
  have hmeth' : T.vm.method? m = some meth := X.method'
  refine ⟨T.setFrames fs, ?_, .returned (some (.int 1)), hrun, hended, rfl, ⟨_, rfl⟩, hW, hframe⟩
  jvm_step X.here [X.here.top, hx, hb, hdg, hmeth', hr, ret, narrow_b1]
  (try refine ⟨rfl, ?_⟩); (try refine ⟨rfl, ?_⟩)
  first | (intro acts; rw [hret _ acts rfl rfl rfl]) | rw [hret _ _ rfl rfl rfl]
  exact Steps.refl _
/-- what holds at the law's entry: the machine, the code, the tables' words (any of lw_tbl by 'hts w (by decide +kernel)'), the script of L ints xs at the cell b, what the Statement gives of the start (any of its parts by flat_of_before) -/
def lw_At (p : Program) (s : State) (m : MethodId) (meth : Method) (c : Code) (b L : Nat) (xs : Nat → Int32) : Prop :=
  p.tables.exec = Jvm.exec ∧ c.code = code ∧ meth.sig.returnType = ret ∧ c.maxLocals = 7 ∧ s.vm.findClass R_law = some m.cls ∧ (∀ w ∈ lw_tbl, w.before #[Value.ref b] s = true) ∧ va_X b L xs s s.heap ∧ b < s.heap.size ∧ meth.locks = false ∧ (Jvm.Cond.and given_1 narrow_1).before #[Value.ref b] s = true
theorem th_start {s : State} {b : Nat} (hts : ∀ w ∈ lw_tbl, w.before #[Value.ref b] s = true) (hgv : (Jvm.Cond.and given_1 narrow_1).before #[Value.ref b] s = true) : ∀ w ∈ thW, w.before #[Value.ref b] s = true := by
  have hs := flat_of_before _ hgv
  exact List.forall_mem_cons.mpr ⟨hts _ kth_0, List.forall_mem_cons.mpr ⟨hts _ kth_1, List.forall_mem_cons.mpr ⟨hts _ kth_2, List.forall_mem_cons.mpr ⟨hts _ kth_3, List.forall_mem_cons.mpr ⟨hts _ kth_4, List.forall_mem_cons.mpr ⟨hts _ kth_5, List.forall_mem_cons.mpr ⟨hs _ (by decide +kernel), List.forall_mem_cons.mpr ⟨hs _ (by decide +kernel), fun a h => nomatch h⟩⟩⟩⟩⟩⟩⟩⟩
theorem kn_start {s : State} {a : Array Value} (hts : ∀ w ∈ gw, w.before a s = true) (hao : va_AO "CosetHouse$Word" s) : ∃ (D : va_G) (dA : Nat → ClassId), va_K D classes (tysOf dA) s := by
  have hE : ∀ c : Nat, ∃ p : ClassId × (Nat → Nat), ∀ q, classes[c]? = some q → u_Kn s q.1 q.2.1 q.2.2 p.1 p.2 := fun c => match c with
    | 0 => by obtain ⟨x, y, z⟩ := u_known (C := R_Fi) (T := F_Fi) (N := 6) (n := 6) hts in_Fi (hts _ kins_Fi); exact ⟨(x, y), fun q hq => by cases hq; exact z⟩
    | 1 => by obtain ⟨x, y, z⟩ := u_known (C := R_Lo) (T := F_Lo) (N := 13) (n := 13) hts in_Lo (hts _ kins_Lo); exact ⟨(x, y), fun q hq => by cases hq; exact z⟩
    | 2 => by obtain ⟨x, y, z⟩ := u_known (C := R_Re) (T := F_Re) (N := 11) (n := 11) hts in_Re (hts _ kins_Re); exact ⟨(x, y), fun q hq => by cases hq; exact z⟩
    | 3 => by obtain ⟨x, y, z⟩ := u_known (C := R_Sh) (T := F_Sh) (N := 4) (n := 4) hts in_Sh (hts _ kins_Sh); exact ⟨(x, y), fun q hq => by cases hq; exact z⟩
    | 4 => by obtain ⟨x, y, z⟩ := u_known (C := R_Ta) (T := F_Ta) (N := 19) (n := 19) hts in_Ta (hts _ kins_Ta); exact ⟨(x, y), fun q hq => by cases hq; exact z⟩
    | 5 => by obtain ⟨x, y, z⟩ := u_known (C := R_Wa) (T := F_Wa) (N := 7) (n := 7) hts in_Wa (hts _ kins_Wa); exact ⟨(x, y), fun q hq => by cases hq; exact z⟩
    | 6 => by obtain ⟨x, y, z⟩ := u_known (C := R_Wo) (T := F_Wo) (N := 2) (n := 2) hts in_Wo (hts _ kins_Wo); exact ⟨(x, y), fun q hq => by cases hq; exact z⟩
    | 7 => by obtain ⟨x, y, z⟩ := u_known (C := R_Wl) (T := F_Wl) (N := 2) (n := 2) hts in_Wl (hts _ kins_Wl); exact ⟨(x, y), fun q hq => by cases hq; exact z⟩
    | 8 => by obtain ⟨x, y, z⟩ := u_known (C := R_Ho) (T := F_Ho) (N := 18) (n := 18) hts in_Ho (hts _ kins_Ho); exact ⟨(x, y), fun q hq => by cases hq; exact z⟩
    | 9 => by obtain ⟨x, y, z⟩ := u_known (C := R_Mo) (T := F_Mo) (N := 67) (n := 67) hts in_Mo (hts _ kins_Mo); exact ⟨(x, y), fun q hq => by cases hq; exact z⟩
    | c + 10 => ⟨(0, fun _ => 0), fun q hq => by simp [classes] at hq⟩
  obtain ⟨c0, k0, p0, a0, b0, d0⟩ := Cond.arrayClass_spec (hts _ ka_int)
  obtain ⟨c1, k1, p1, a1, b1, d1⟩ := Cond.arrayClass_spec (hts _ ka_byte)
  obtain ⟨c2, k2, p2, a2, b2, d2⟩ := Cond.arrayClass_spec (hts _ ka_boolean)
  obtain ⟨c3, k3, p3, a3, b3, d3⟩ := Cond.arrayClass_spec (hts _ ka_long)
  obtain ⟨p4, c4, k4, a4, -, b4, d4, f4⟩ := Cond.arrayOver_spec hao
  refine ⟨(fun c => (Classical.choose (hE c)).1, fun c => (Classical.choose (hE c)).2), fun t => if t = 0 then c0 else if t = 1 then c1 else if t = 2 then c2 else if t = 3 then c3 else c4, fun c q hq => Classical.choose_spec (hE c) q hq, fun t q hq => ?_⟩
  match t, hq with
  | 0, hq => cases hq; exact ⟨fun n z => ⟨fun k h => (by cases h), k0, b0, p0, d0⟩, a0⟩
  | 1, hq => cases hq; exact ⟨fun n z => ⟨fun k h => (by cases h), k1, b1, p1, d1⟩, a1⟩
  | 2, hq => cases hq; exact ⟨fun n z => ⟨fun k h => (by cases h), k2, b2, p2, d2⟩, a2⟩
  | 3, hq => cases hq; exact ⟨fun n z => ⟨fun k h => (by cases h), k3, b3, p3, d3⟩, a3⟩
  | 4, hq => cases hq; exact ⟨fun n z => ⟨fun k h => (by cases h), k4, b4, p4, d4⟩, k4, p4, b4, d4, a4, f4⟩
  | t + 5, hq => simp [tysOf] at hq
theorem whole_start {p : Program} {e : Env} {s : State} {m : MethodId} {below : List Frame} {meth : Method} {c : Code} (l : Launch) (hl : ∀ e : Env, l.admits e → e.platform.stackTraces = false) {b L : Nat} {xs : Nat → Int32} (hL : L ≤ 3072) (C0 : lw_At p s m meth c b L xs) : W p l e room_1 s m #[Value.ref b] below meth c s.heap [] 0 0 (lw_Z below #[Value.ref b] s) (entryFrame m ([Value.ref b] : List Value).toArray 7) := by
  obtain ⟨hx, hb, hr, hml, hown, hts, hX, hbl, hlocks, hgv⟩ := id C0
  have htg : ∀ w ∈ gw, w.before #[Value.ref b] s = true := fun w hw => hts w (List.mem_filter.mp hw).1
  have hao : va_AO "CosetHouse$Word" s := va_AO.of (hts _ k_ao)
  obtain ⟨D, dA, hK⟩ := kn_start htg hao
  have F : Fx md_La p s m #[Value.ref b] meth c D dA (fun q => s.heap.size ≤ q) := ⟨hx, hb, hml, hr, hlocks, hown, htg, hK, fun _ h => h, (fun z => by cases z), hao⟩
  have EX : EXL xs L l s #[Value.ref b] (fun q => s.heap.size ≤ q) (fun _ => b) := ⟨hl, fun _ h => h, hbl, hX, hL, th_start hts hgv⟩
  have HR : ∀ pc ls r h, isRet md_La pc r → r = some (.inl 1) → Wm md_La p l e s m #[Value.ref b] below meth c D dA (fun q => s.heap.size ≤ q) 41331 8972110 0 0 (fun _ => b) 0 (lw_Z below #[Value.ref b] s) pc ls r.toList h := by
    intro pc ls r h hret hp
    subst hp
    intro ad H locs lsA e1 e2 e3 e4 hP hD hS hH hF hl' hv
    rcases hret with ⟨h1, -⟩ | ⟨z, h1, hd, -⟩ | ⟨z, h1, -⟩ | ⟨o, h1, -⟩
    · cases h1
    · refine va_forget (fun q hq => hS.2.2 q hq) ?_
      refine W.widen (k := 41331) (n := 8972110) (by have := e3.2; omega) (by have := e4.2; omega) ?_
      exact lw_ret hx hb hr hlocks hd
    · cases h1
    · cases h1
  have loop : ∀ ls h, LI L 0 ls h → Wm md_La p l e s m #[Value.ref b] below meth c D dA (fun q => s.heap.size ≤ q) 41331 8972110 0 0 (fun _ => b) 0 (lw_Z below #[Value.ref b] s) 23 ls [] h := by
    intro ls h hI
    refine floydL (xs := xs) (SL := L) (lc := 41331) (lz := 8972110) (cs := [(23, B_law_23 xs L 41331 8972110)]) (fun q hq => ?_) F ⟨Nat.le_of_ble_eq_true rfl, Nat.le_of_ble_eq_true rfl⟩ HR EX (I := fun pc ls h => pc = 23 ∧ ∃ k, LI L k ls h) (μ := fun _ ls _ => (4000 - locI ls 4).toNat) (fun pc ls h hi => ⟨_, List.mem_singleton.mpr rfl, hi.1.symm⟩) (fun q hq ls h hi => ?_) 5000 23 ls h ?_ ⟨rfl, 0, hI⟩
    · rw [List.mem_singleton.mp hq]; exact S_law_23 xs L 41331 8972110
    · rw [List.mem_singleton.mp hq] at hi ⊢
      obtain ⟨-, k, hi⟩ := hi
      refine cs_23 (k := k) (Nat.le_refl _) (Nat.le_refl _) hL hi (fun ls' h' hi' => ⟨⟨rfl, k + 1, hi'⟩, ?_⟩) rfl
      obtain ⟨v5, v6, rfl, i1, -⟩ := hi
      obtain ⟨w5, w6, rfl, i2, -⟩ := hi'
      show (4000 - 6 * ((k + 1 : Nat) : Int)).toNat < (4000 - 6 * (k : Int)).toNat
      omega
    · obtain ⟨v5, v6, rfl, i1, -⟩ := hI
      show (4000 - 6 * ((0 : Nat) : Int)).toNat < 5000
      decide
  have g := S_law_0 xs L 41331 8972110 p l e s m #[Value.ref b] below meth c D dA (fun q => s.heap.size ≤ q) 41331 8972110 0 0 (fun _ => b) 0 (fun r _ => r = some (.inl 1)) (lw_Z below #[Value.ref b] s) F ⟨Nat.le_of_ble_eq_true rfl, Nat.le_of_ble_eq_true rfl⟩ (fun pc ls r h a1 a2 => HR pc ls r h a1 a2) EX (fun pc ls h => pc = 23 ∧ LI L 0 ls h) (fun pc ls h hi => by rw [hi.1]; exact loop ls h hi.2) _ [] e0 (cs_0 (Nat.le_refl _) (Nat.le_refl _) (fun ls' h' hi => ⟨rfl, hi⟩))
  rw [lg_entry_eq]
  have hl0 := lv_entry ([Value.ref b]) (n := 7) (Nat.le_of_ble_eq_true rfl)
  have hl2 : lv_has ((lg_sl ([Value.ref b]) ++ List.replicate (7 - (lg_sl ([Value.ref b])).length) Slot.unset).toArray) 7 (lD (fun _ => b) [some (.inr (.inl (some SC))), none, none, none, none, none, none]) := by
    refine ⟨hl0.1, hl0.2.1, fun q hq => hl0.2.2 q ?_⟩
    have : lD (fun _ => b) [some (.inr (.inl (some SC))), none, none, none, none, none, none] = [(0, Value.ref b)] := rfl
    rw [this] at hq
    rw [List.mem_singleton.mp hq]
    exact List.mem_cons_self
  refine g (fun _ => b) s.heap [] _ (fun _ _ => rfl) (Nat.zero_le _) ⟨Nat.le_refl _, Nat.zero_le _⟩ ⟨Nat.le_refl _, Nat.zero_le _⟩ (fun k q h => ?_) ⟨fun i j p q h => ?_, fun k q h => ?_⟩ va_S.rf ⟨fun a k => ?_, fun a k x h => ?_⟩ ⟨fun j v h => ?_, fun v h => ?_⟩ rfl hl2
  · cases h
  · cases h
  · cases h
  · show if isLg a = true then inL 0 else inR 0
    split
    · exact ⟨by decide, by decide⟩
    · exact ⟨by decide, by decide⟩
  · cases h
  · have : j = 0 ∧ v = .inr (.inl (some SC)) ∨ False := by
      match j, h with
      | 0, h => cases h; exact Or.inl ⟨rfl, rfl⟩
      | 1, h => cases h
      | 2, h => cases h
      | 3, h => cases h
      | 4, h => cases h
      | 5, h => cases h
      | 6, h => cases h
      | j + 7, h => cases h
    rcases this with ⟨-, rfl⟩ | h
    · exact Or.inr rfl
    · exact h.elim
  · cases h
set_option maxHeartbeats 4000000 in
theorem lw_walk (l : Launch) (hl : ∀ e : Env, l.admits e → e.platform.stackTraces = false) (b : Addr) (xs : List Int32) : MetFree l x (headSpec (Jvm.Cond.code x code maxLocals ret :: tables_1) room_1) (lw_P b xs) (fun _ _ _ _ _ => True) lw_Q := by
  refine MetFree.of_bodyS (code := code) (maxLocals := maxLocals) (ret := ret) (by decide) ?_ ?_
  · intro args s m h hn
    obtain ⟨meth, c, h1, h2, h3, h4, h5, h6, -, -⟩ := Cond.code_spec hn (atoms_spec (ws := Jvm.Cond.code x code maxLocals ret :: tables_1) h _ List.mem_cons_self)
    exact ⟨meth, c, h1, h2, h3, h4, h5, h6⟩
  · intro p e s m args below meth c s₁ B hml0 hP _
    obtain ⟨rfl, hx, hbd, hgv⟩ := hP
    obtain ⟨scr, harrAt, hlist, hof, hsmall⟩ := hx
    obtain ⟨hcb, hkn, -, -⟩ := State.arrayAt?_spec harrAt
    have hown : s.vm.findClass R_law = some m.cls := findClass_of_methodNamed B.named
    have hts0 : ∀ c ∈ (Jvm.Cond.code x code maxLocals ret :: tables_1), c.before #[Value.ref b] s = true := atoms_spec (ws := Jvm.Cond.code x code maxLocals ret :: tables_1) B.pre
    have hts : ∀ w ∈ lw_tbl, w.before #[Value.ref b] s = true := k2_hts_sels lw_privs (fun w hw => hts0 w (List.mem_cons_of_mem _ hw)) lw_privs_ok
    have hml : c.maxLocals = 7 := B.maxLocals_eq (hts0 _ List.mem_cons_self)
    have X₀ : Stand p l e room_1 s m #[Value.ref b] below meth c s₁ [] 0 0 := Stand.of_body B
    have hh0 : s₁.heap = s.heap := by rw [B.state]; rfl
    have hsz : scr.slots.size = xs.length := by rw [← Array.length_toList, hlist, List.length_map]
    have hval : ∀ j : Nat, j < xs.length → scr.slots[j]? = some (.int (xs.getD j 0)) := fun j hj => by
      rw [← Array.getElem?_toList, hlist]
      simp [hj]
    have hbl : b < s.heap.size := (Array.getElem?_eq_some_iff.mp hcb).1
    have hX : va_X b xs.length (fun j => xs.getD j 0) s s.heap := ⟨scr, hcb, hof, hkn, hsz, hval⟩
    have K : W p l e room_1 s m #[Value.ref b] below meth c s₁.heap [] 0 0 (lw_Z below #[Value.ref b] s) (entryFrame m ([Value.ref b] : List Value).toArray 7) := by
      rw [hh0]
      exact whole_start l hl hbd ⟨B.exec, B.bytes, B.returns, hml, hown, hts, hX, hbl, B.notSynchronized, hgv⟩
    obtain ⟨t, a1, o, b1, b2, b3⟩ := K s₁ rfl X₀
    exact ⟨t, o, a1, b1, b2, b3⟩
theorem lw_pre_spec {args : Array Value} {s : State} (h : (Jvm.Cond.and given_1 narrow_1).before args s = true) (hr : rest_1_c.before args s = true) : ∃ (b : Addr) (xs : List Int32), lw_P b xs args s := by
  have hs := flat_of_before _ h
  have hq := flat_of_before _ hr
  have hc : (Cond.count 1).before args s = true := hs _ (by decide +kernel)
  have harr : (Cond.arrayOf (.arg 0) .int).before args s = true := hs _ (by decide +kernel)
  have hle : (Cond.le (.length (.arg 0)) (.int 3072)).before args s = true := hs _ (by decide +kernel)
  have hlen : (Cond.isInt (.length (.arg 0))).before args s = true := hq _ (by decide +kernel)
  have hall : (Cond.all (.arg 0) (.isInt (.elem (.arg 0) (.index 0)))).before args s = true := hq _ (by decide +kernel)
  obtain ⟨b, xs, hb, hx⟩ := State.ints_of_pre rfl harr hlen hall
  have hsm : xs.length < 2 ^ 31 := hx.choose_spec.2.2.2
  have hev : (Term.length (.arg 0)).eval args s none [] s = some (.int xs.length.toInt32) := hx.length_eval hb
  have hv := Cond.le_ints hev (show (Term.int 3072).eval args s none [] s = some (.int 3072) from rfl)
  have hd : xs.length.toInt32 ≤ 3072 := by
    simpa [Cond.before, Cond.holds, hv] using hle
  have hN : xs.length ≤ 3072 := (Int32.ofNat_le_ofNat hsm (by decide)).mp (show Int32.ofNat xs.length ≤ Int32.ofNat 3072 from hd)
  exact ⟨b, xs, Cond.one_arg hc (show args[0]? = some (.ref b) from hb), hx, hN, h⟩
theorem lw_comes (l : Launch) (hl : ∀ e : Env, l.admits e → e.platform.stackTraces = false) : Comes l x (Jvm.Cond.code x code maxLocals ret :: tables_1) room_1 (fun tb e args s => Calls_1 tb e args s ∧ rest_1 tb e args s ∧ Pre_1 tb e args s)
    (fun _ _ args s o t => lw_Q args s o t) := by
  intro p e ha hc hk s m args below hf hfit hheap happ hpre
  obtain ⟨b, xs, hP⟩ := lw_pre_spec hpre.2.2 hpre.2.1
  obtain ⟨k, o, h1, h2, h3, hQ⟩ := lw_walk l hl b xs p e ha hc hk s m args below hf ((Spec.applies_iff_loose hf).mp happ).1 hP trivial
  exact ⟨k, o, h1, h2, h3, hQ⟩
theorem lw_frame {s t : State} {o : Outcome} {args : Array Value} (h : Framed s o t [] 41331 8972110) :
    Framed s o t (fieldLocs frame_1_writes args s ++ arrayLocs frame_1_arrays args s ++ staticLocs frame_1_statics s) 41331 8972110 := h
theorem lw_limb (L : Cond) (hL : ∀ (args : Array Value) (s t : State), L.after args s (.returned (some (.int 1))) t = true) :
    ArmFor flags0 classFile x code maxLocals ret World_1 tables_1 room_1 Calls_1 rest_1 Pre_1
      (fun tb e a s o t => postC L tb e a s o t ∧ Framed s o t (fieldLocs frame_1_writes a s ++ arrayLocs frame_1_arrays a s ++ staticLocs frame_1_statics s) 41331 8972110) := by
  intro l hfl _ _ p e ha hc hk s m args below hf hfit hheap happ hpre
  obtain ⟨k, o, h1, h2, h3, rfl, hF⟩ := lw_comes l (fun e he => Launch.traces_off hfl he) p e ha hc hk s m args below hf hfit hheap happ hpre
  exact ⟨k, _, h1, h2, h3, hL args s _, lw_frame hF⟩
theorem i_vc : Claimed_1_1 ∧ Claimed_1_2 := ⟨lw_limb limb_1_1 (fun args s t => by simp [limb_1_1, Cond.after, Cond.holds, Cond.value]), lw_limb limb_1_2 (fun args s t => Cond.after_iff.mpr (by
  first | (rw [show limb_1_2 = Cond.eq .result (.int 1) from rfl, Cond.eq_ints (x := 1) (y := 1) rfl rfl]; simp; done) | (simp [limb_1_2, Cond.value, Term.eval]; done)))⟩
